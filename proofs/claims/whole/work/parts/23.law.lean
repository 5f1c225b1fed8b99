/-! THE LAW'S BODY: one object, one model, one array for the answer -/
theorem pM_out {E : zE} {h0 : Hp} {m : Nat} {M : MS} {a : Nat} (h : a < m ∨ m + 10 ≤ a) : pM E h0 m M a = h0 a := by
  unfold pM
  rw [if_neg (by omega), if_neg (by omega), if_neg (by omega), if_neg (by omega), if_neg (by omega), if_neg (by omega), if_neg (by omega), if_neg (by omega), if_neg (by omega), if_neg (by omega)]
theorem pM_hup {E : zE} {h0 : Hp} {m : Nat} {M : MS} {o : Nat} {e : va_E} (h : o < m ∨ m + 10 ≤ o) : hup (pM E h0 m M) o e = pM E (hup h0 o e) m M := by
  funext a
  by_cases h1 : a = o
  · subst h1
    rw [pM_out h]
    simp [hup]
  · unfold hup
    rw [if_neg h1]
    unfold pM
    simp only [if_neg h1]
theorem pC_pM {E : zE} {h0 : Hp} {x m : Nat} {c : CS} {M : MS} (h : x + 223 ≤ m) : pC E (pM E h0 m M) x c = pM E (pC E h0 x c) m M := by
  funext a
  by_cases h1 : a < x + 223
  · rw [pM_out (Or.inl (by omega))]
    unfold pC
    by_cases h2 : a < x
    · rw [if_pos h2, if_pos h2, pM_out (Or.inl (by omega))]
    · rw [if_neg h2, if_neg h2]
      cases cC E x c (a - x) with
      | some e => rfl
      | none => exact pM_out (Or.inl (by omega))
  · rw [pC_out (Or.inr (by omega))]
    unfold pM
    rw [pC_out (h0 := h0) (Or.inr (by omega))]
theorem hup_hup {h0 : Hp} {o : Nat} {e e' : va_E} : hup (hup h0 o e) o e' = hup h0 o e' := by
  funext a
  by_cases h1 : a = o
  · simp [hup, h1]
  · simp [hup, h1]
def hNil : Hp := fun _ => none
def wL (E : zE) (o : Nat → Int64) (M : MS) (c : CS) : Hp := pC E (pM E (hup hNil (zN E + 233) (oO E o)) (zN E + 223) M) (zN E) c
theorem wL_o {E : zE} {o : Nat → Int64} {M : MS} : pM E (hup hNil (zN E + 233) (oO E o)) (zN E + 223) M (zN E + 233) = some (oO E o) := by
  rw [pM_out (Or.inr (Nat.le_refl _))]
  simp [hup]
theorem wL_o2 {E : zE} {o : Nat → Int64} {M : MS} {c : CS} : wL E o M c (zN E + 233) = some (oO E o) := (pC_out (Or.inr (by omega))).trans wL_o
theorem wL_w {E : zE} {o o' : Nat → Int64} {M : MS} {c : CS} : pC E (hup (pM E (hup hNil (zN E + 233) (oO E o)) (zN E + 223) M) (zN E + 233) (oO E o')) (zN E) c = wL E o' M c := by
  rw [pM_hup (Or.inr (Nat.le_refl _)), hup_hup]
  rfl
theorem wL_M {E : zE} {o : Nat → Int64} {M : MS} {c : CS} : wL E o M c = pM E (pC E (hup hNil (zN E + 233) (oO E o)) (zN E) c) (zN E + 223) M := pC_pM (Nat.le_refl _)
section LAWROWS
variable {E : zE} {X : zX} {own : String} {cc : ByteArray} {nL d k n : Nat} {ret : Option FieldType} {Q : State → Prop} {pc : Nat} {h : Hp} {lv : List (Nat × Value)} {st : List Value}
/-- the script -/
def zG9 (E : zE) (X : zX) (b L : Nat) (sc : Nat → Int32) : Prop := va_X b L sc (xs X) (xs X).heap ∧ b < (xs X).heap.size ∧ ¬ zA E b
theorem z_sld (C : zC E X own cc nL ret d) {b L : Nat} {sc : Nat → Int32} (G : zG9 E X b L sc) {i : Int32} (hin : vp_in i L) (hdg : decode cc pc = .ok (.iaload, 1)) (kk : zW E X nL k n Q (pc + 1) h lv (.int (sc i.toNatClampNeg) :: st)) : zW E X nL k n Q pc h lv (.int i :: .ref b :: st) := fun H locs ls hP hS hl => va_sld C.1 C.2.1 G.1 G.2.1 G.2.2 hS hin hdg (kk H locs ls hP hS hl)
theorem z_slen (C : zC E X own cc nL ret d) {b L : Nat} {sc : Nat → Int32} (G : zG9 E X b L sc) (hdg : decode cc pc = .ok (.arraylength, 1)) (kk : zW E X nL k n Q (pc + 1) h lv (.int (nI L) :: st)) : zW E X nL k n Q pc h lv (.ref b :: st) := fun H locs ls hP hS hl => va_slen C.1 C.2.1 G.1 G.2.1 G.2.2 hS hdg (kk H locs ls hP hS hl)
theorem z_widen {k1 n1 : Nat} (hk : k ≤ k1) (hn : n ≤ n1) (kk : zW E X nL k1 n1 Q pc h lv st) : zW E X nL k n Q pc h lv st := fun H locs ls hP hS hl => W.widen hk hn (kk H locs ls hP hS hl)
theorem UU_cons1 {w : Cond} (h : w ∈ UU) : GoodIn UU (w :: UU) := fun w1 hw => by
  rcases List.mem_cons.mp hw with e | e
  · rw [e]; exact UU_good _ h
  · exact UU_good _ e
theorem z_callSW (C : zC E X own cc nL ret d) {y : MethodName} {bytes : ByteArray} {maxL d1 index : Nat} {hh : List (Nat × Nat × Nat × Nat)} {h1 : Hp} {kx : Int32} (pc1 : Nat) (As rest : List Value) (hM : zMW E (xl X) d1 y bytes maxL hh As h kx h1)
    (hcode : Cond.codeWith y bytes maxL (some .int) hh ∈ UU) (hlink : Cond.methodLink own index y ∈ UU) (hstat : Cond.static y ∈ UU) (hini : Cond.initialized y.cls ∈ UU)
    (hd : y.cls ≠ "java/lang/invoke/MethodHandle" ∧ y.cls ≠ "java/lang/invoke/VarHandle" ∧ (parseMethodDescriptor y.desc).map (fun d => d.parameters.length) = some As.length) (hd1 : d1 + 1 ≤ d) (hmx : maxL ≤ 29) (hst : st = As.reverse ++ rest) (hcat : (rest.map fun v => v.category).sum ≤ 8) (hk : k + 1 ≤ (xR X).cells ∧ n + 6 ≤ (xR X).slots) (hpc : pc + 3 = pc1) (hdg : decode cc pc = .ok (.invokestatic index, 3))
    (kk : zW E X nL (k + 1) (n + 6) Q pc1 h1 lv (.int kx :: rest)) : zW E X nL k n Q pc h lv st := by
  subst hst
  subst hpc
  intro H locs ls hP hS hl T9 hT X9
  have hr : va_Run (xp X) (xl X) (xe X) (xR X) (xs X) (xm X) (xa X) (xb X) (xt X) (xc X) H locs k n 1 6 (F0 (xm X) pc ls (As.reverse ++ rest)) rest (zQ E (some (.int kx)) h1 As.toArray) (zA E) := vx_runSW (As := As) (rest := rest) (hh := hh) C.fix hM
    ⟨⟨rfl, rfl, (C.room hd1 hmx).1, (C.room hd1 hmx).2, pay_in C.2.2.2.2.1 (UU_cons1 hcode), List.mem_cons_self⟩, C.2.2.2.2.1 _ hcode, C.2.2.2.2.1 _ hini, ⟨hd.1, hd.2.1⟩, fun sig h9 => by
      have h2 := hd.2.2
      rw [h9] at h2
      exact (Option.some.inj h2).symm, C.2.2.2.2.1 _ hlink, C.2.2.2.2.1 _ hstat⟩
    ⟨zPre.blind E _ h, fun U hU hW => ⟨rfl, C.pre hP hS U hU hW⟩⟩ rfl rfl hl.1 rfl (lv_room hcat) hdg hk
  obtain ⟨v', st₀, t, T', L, h0, X', hL, e1, e2, ⟨hv, hP1, hz, hk9⟩, st9⟩ := hr T9 hT X9
  cases hv
  rw [h0] at hz hk9
  have hS1 : va_S (zA E) (xs X).heap T'.heap (locs ++ L) := ⟨Nat.le_trans hS.1 (by rw [e1]; exact hz), fun q q1 q2 => by rw [e1, hk9 q (Nat.lt_of_lt_of_le q1 hS.1) q2]; exact hS.2.1 q q1 q2, fun q hq => by
    rcases List.mem_append.mp hq with q1 | q1
    · exact hS.2.2 q q1
    · exact hL q q1⟩
  obtain ⟨t2, a1, b1⟩ := kk T'.heap (locs ++ L) ls (by rw [e1]; exact hP1) hS1 hl T' rfl X'
  exact ⟨t2, st9 t2 a1, b1⟩
end LAWROWS
abbrev lwv (E : zE) (b : Nat) (i : Int32) : List (Nat × Value) := [(0, .ref b), (1, .ref (zN E)), (2, .ref (zN E + 223)), (3, .ref (zN E + 233)), (4, .int i)]
theorem lg_cmp_self (x : Int64) : lg_cmp x x = 0 := by
  unfold lg_cmp
  simp
abbrev lg2 (a b : Int32) : Int64 := jlshl a.toInt64 (32 : Int32) ||| (b.toInt64 &&& (4294967295 : Int64))
def A_append (c : CS) (M : MS) (o : Nat → Int64) (a1 a2 a3 : Int32) (c' : CS) (M' : MS) (o' : Nat → Int64) : Prop := ∃ (n1 n2 : Nat) (k b : Int32), f_L_append c a1 o = some (k, c', o') ∧ f_X6_append M a1 = some (M', b) ∧ f_X6_thrown M' = some k ∧ (k = 0 → o' 0 = b.toInt64)
set_option maxRecDepth 100000 in
set_option maxHeartbeats 4000000 in
theorem cs_append {E : zE} {X : zX} {ret : Option FieldType} {b L k n : Nat} {sc : Nat → Int32} {Q : State → Prop} {c c' : CS} {M M' : MS} {o o' : Nat → Int64} {i : Int32} (C : zC E X RL cL_law 7 ret 17) (hst : (xl X).stackTraces = false) (G : zG9 E X b L sc) (hk : k + 1 ≤ (xR X).cells ∧ n + 6 ≤ (xR X).slots) (hk0 : k ≤ (xR X).cells ∧ n ≤ (xR X).slots) (h1 : vp_in (i + 1) L) (h2 : vp_in (i + 2) L) (h3 : vp_in (i + 3) L) (A : A_append c M o (sc (i + 1).toNatClampNeg) (sc (i + 2).toNatClampNeg) (sc (i + 3).toNatClampNeg) c' M' o') (K : zW E X 7 (k + 1) (n + 6) Q 1492 (wL E o' M' c') (lwv E b i) []) : zW E X 7 k n Q 148 (wL E o M c) (lwv E b i) [] := by
  obtain ⟨n1, n2, kx, bx, hL, hM, hT, hv⟩ := A
  refine z_aload_n C dL_law_148 1 rfl ?_
  refine z_aload_n C dL_law_149 0 rfl ?_
  refine z_iload C dL_law_150 4 rfl ?_
  refine z_iconst C (1 : Int32) dL_law_152 (by decide) ?_
  refine z_iadd C dL_law_153 ?_
  refine z_sld C G h1 dL_law_154 ?_
  refine z_aload_n C dL_law_155 3 rfl ?_
  refine z_callSW C 159 [.ref (zN E), .int (sc (i + 1).toNatClampNeg), .ref (zN E + 233)] [] (ct_L_append (x := zN E) wL_o (Or.inr (by omega)) hst hL) co_L_append ml_L_85 st_L_append ini_L ⟨by decide +kernel, by decide +kernel, by show _ = some 3; decide +kernel⟩ (by decide) (by decide) rfl (Nat.le_of_ble_eq_true rfl) hk rfl dL_law_156 ?_
  refine z_heap wL_w ?_
  refine z_istore C dL_law_159 (by decide) rfl ?_
  refine z_aload_n C dL_law_161 3 rfl ?_
  refine z_aload_n C dL_law_162 1 rfl ?_
  refine z_iload C dL_law_163 5 rfl ?_
  refine z_iconst C (1 : Int32) dL_law_165 (by decide) ?_
  refine z_iadd C dL_law_166 ?_
  refine z_sld C G h1 dL_law_167 ?_
  refine z_heap wL_M ?_
  refine z_callV (Cn := RX6) (T := TX6) (N := 14) (ci := 6) C 171 [.int (sc (i + 1).toNatClampNeg)] [] (ct_X6_append hM) co_X6_append ml_L_90 im_X6_append se_X6_append ini_X6 rfl pM_o ⟨rfl, by decide +kernel, by decide +kernel, by show _ = some 1; decide +kernel⟩ (by decide) (by decide) rfl (Nat.le_of_ble_eq_true rfl) hk rfl dL_law_168 ?_
  refine z_heap wL_M.symm ?_
  refine z_istore C dL_law_171 (by decide) rfl ?_
  refine z_aload_n C dL_law_173 4 rfl ?_
  refine z_heap wL_M ?_
  refine z_callV (Cn := RX6) (T := TX6) (N := 14) (ci := 6) C 177 [] [] (ct_X6_thrown hT) co_X6_thrown ml_L_91 im_X6_thrown se_X6_thrown ini_X6 rfl pM_o ⟨rfl, by decide +kernel, by decide +kernel, by decide +kernel⟩ (by decide) (by decide) rfl (Nat.le_of_ble_eq_true rfl) hk rfl dL_law_174 ?_
  refine z_heap wL_M.symm ?_
  refine z_iload C dL_law_177 1 rfl ?_
  refine z_icmp_eq C 184 dL_law_179 (by decide) (fun _ => ?_) (fun q => absurd rfl q)
  refine z_iload C dL_law_184 1 rfl ?_
  refine z_if_ne C 201 dL_law_186 (by decide) (fun _ => ?_) (fun e0 => ?_)
  · refine z_goto C 1492 dL_law_201 (by decide) ?_
    exact z_sub [2, 3, 4, 5, 6] rfl K
  · refine z_aload_n C dL_law_189 5 rfl ?_
    refine z_iconst C (0 : Int32) dL_law_190 (by decide) ?_
    refine z_lald (N := 1) C wL_o2 (by unfold vp_in; decide) dL_law_191 ?_
    refine z_iload C dL_law_192 0 rfl ?_
    refine z_i2l C dL_law_194 ?_
    refine z_lcmp C dL_law_195 ?_
    refine z_if_eq C 201 dL_law_196 (by decide) (fun _ => ?_) (fun q => absurd ((congrArg (fun z => lg_cmp z _) (hv e0)).trans (lg_cmp_self _)) q)
    refine z_goto C 1492 dL_law_201 (by decide) ?_
    exact z_sub [2, 3, 4, 5, 6] rfl K
def A_clearText (c : CS) (M : MS) (o : Nat → Int64) (a1 a2 a3 : Int32) (c' : CS) (M' : MS) (o' : Nat → Int64) : Prop := ∃ (n1 n2 : Nat) (b : Int32), f_X5_clearText c = some (c', b) ∧ f_X6_clearText M = some (M', b) ∧ o' = o
set_option maxRecDepth 100000 in
set_option maxHeartbeats 4000000 in
theorem cs_clearText {E : zE} {X : zX} {ret : Option FieldType} {b L k n : Nat} {sc : Nat → Int32} {Q : State → Prop} {c c' : CS} {M M' : MS} {o o' : Nat → Int64} {i : Int32} (C : zC E X RL cL_law 7 ret 17) (hst : (xl X).stackTraces = false) (G : zG9 E X b L sc) (hk : k + 1 ≤ (xR X).cells ∧ n + 6 ≤ (xR X).slots) (hk0 : k ≤ (xR X).cells ∧ n ≤ (xR X).slots) (h1 : vp_in (i + 1) L) (h2 : vp_in (i + 2) L) (h3 : vp_in (i + 3) L) (A : A_clearText c M o (sc (i + 1).toNatClampNeg) (sc (i + 2).toNatClampNeg) (sc (i + 3).toNatClampNeg) c' M' o') (K : zW E X 7 (k + 1) (n + 6) Q 1492 (wL E o' M' c') (lwv E b i) []) : zW E X 7 k n Q 204 (wL E o M c) (lwv E b i) [] := by
  obtain ⟨n1, n2, v, hL, hM, rfl⟩ := A
  refine z_aload_n C dL_law_204 1 rfl ?_
  refine z_callV (Cn := RX5) (T := TX5) (N := 6) (ci := 5) C 208 [] [] (ct_X5_clearText hL) co_X5_clearText ml_L_94 im_X5_clearText se_X5_clearText ini_X5 rfl pC_o ⟨rfl, by decide +kernel, by decide +kernel, by decide +kernel⟩ (by decide) (by decide) rfl (Nat.le_of_ble_eq_true rfl) hk0 rfl dL_law_205 ?_
  refine z_aload_n C dL_law_208 2 rfl ?_
  refine z_heap wL_M ?_
  refine z_callV (Cn := RX6) (T := TX6) (N := 14) (ci := 6) C 212 [] [.int v] (ct_X6_clearText hM) co_X6_clearText ml_L_97 im_X6_clearText se_X6_clearText ini_X6 rfl pM_o ⟨rfl, by decide +kernel, by decide +kernel, by show _ = some 0; decide +kernel⟩ (by decide) (by decide) rfl (Nat.le_of_ble_eq_true rfl) hk0 rfl dL_law_209 ?_
  refine z_heap wL_M.symm ?_
  refine z_icmp_eq C 1492 dL_law_212 (by decide) (fun _ => ?_) (fun q => absurd rfl q)
  exact z_widen (Nat.le_succ _) (Nat.le_add_right _ _) K
def A_errorPosition (c : CS) (M : MS) (o : Nat → Int64) (a1 a2 a3 : Int32) (c' : CS) (M' : MS) (o' : Nat → Int64) : Prop := ∃ (n1 n2 : Nat) (b : Int32), f_X5_errorPosition n1 c = some b ∧ c' = c ∧ f_X6_errorPosition n2 M = some (M', b) ∧ o' = o
set_option maxRecDepth 100000 in
set_option maxHeartbeats 4000000 in
theorem cs_errorPosition {E : zE} {X : zX} {ret : Option FieldType} {b L k n : Nat} {sc : Nat → Int32} {Q : State → Prop} {c c' : CS} {M M' : MS} {o o' : Nat → Int64} {i : Int32} (C : zC E X RL cL_law 7 ret 17) (hst : (xl X).stackTraces = false) (G : zG9 E X b L sc) (hk : k + 1 ≤ (xR X).cells ∧ n + 6 ≤ (xR X).slots) (hk0 : k ≤ (xR X).cells ∧ n ≤ (xR X).slots) (h1 : vp_in (i + 1) L) (h2 : vp_in (i + 2) L) (h3 : vp_in (i + 3) L) (A : A_errorPosition c M o (sc (i + 1).toNatClampNeg) (sc (i + 2).toNatClampNeg) (sc (i + 3).toNatClampNeg) c' M' o') (K : zW E X 7 (k + 1) (n + 6) Q 1492 (wL E o' M' c') (lwv E b i) []) : zW E X 7 k n Q 217 (wL E o M c) (lwv E b i) [] := by
  obtain ⟨n1, n2, v, hL, rfl, hM, rfl⟩ := A
  refine z_aload_n C dL_law_217 1 rfl ?_
  refine z_callV (Cn := RX5) (T := TX5) (N := 6) (ci := 5) C 221 [] [] (ct_X5_errorPosition hL) co_X5_errorPosition ml_L_98 im_X5_errorPosition se_X5_errorPosition ini_X5 rfl pC_o ⟨rfl, by decide +kernel, by decide +kernel, by decide +kernel⟩ (by decide) (by decide) rfl (Nat.le_of_ble_eq_true rfl) hk0 rfl dL_law_218 ?_
  refine z_aload_n C dL_law_221 2 rfl ?_
  refine z_heap wL_M ?_
  refine z_callV (Cn := RX6) (T := TX6) (N := 14) (ci := 6) C 225 [] [.int v] (ct_X6_errorPosition hM) co_X6_errorPosition ml_L_101 im_X6_errorPosition se_X6_errorPosition ini_X6 rfl pM_o ⟨rfl, by decide +kernel, by decide +kernel, by show _ = some 0; decide +kernel⟩ (by decide) (by decide) rfl (Nat.le_of_ble_eq_true rfl) hk0 rfl dL_law_222 ?_
  refine z_heap wL_M.symm ?_
  refine z_icmp_eq C 1492 dL_law_225 (by decide) (fun _ => ?_) (fun q => absurd rfl q)
  exact z_widen (Nat.le_succ _) (Nat.le_add_right _ _) K
def A_load (c : CS) (M : MS) (o : Nat → Int64) (a1 a2 a3 : Int32) (c' : CS) (M' : MS) (o' : Nat → Int64) : Prop := ∃ (n1 n2 : Nat) (k b : Int32), f_L_load n1 c o = some (k, c', o') ∧ f_X6_load n2 M = some (M', b) ∧ f_X6_thrown M' = some k ∧ (k = 0 → o' 0 = b.toInt64)
set_option maxRecDepth 100000 in
set_option maxHeartbeats 4000000 in
theorem cs_load {E : zE} {X : zX} {ret : Option FieldType} {b L k n : Nat} {sc : Nat → Int32} {Q : State → Prop} {c c' : CS} {M M' : MS} {o o' : Nat → Int64} {i : Int32} (C : zC E X RL cL_law 7 ret 17) (hst : (xl X).stackTraces = false) (G : zG9 E X b L sc) (hk : k + 1 ≤ (xR X).cells ∧ n + 6 ≤ (xR X).slots) (hk0 : k ≤ (xR X).cells ∧ n ≤ (xR X).slots) (h1 : vp_in (i + 1) L) (h2 : vp_in (i + 2) L) (h3 : vp_in (i + 3) L) (A : A_load c M o (sc (i + 1).toNatClampNeg) (sc (i + 2).toNatClampNeg) (sc (i + 3).toNatClampNeg) c' M' o') (K : zW E X 7 (k + 1) (n + 6) Q 1492 (wL E o' M' c') (lwv E b i) []) : zW E X 7 k n Q 230 (wL E o M c) (lwv E b i) [] := by
  obtain ⟨n1, n2, kx, bx, hL, hM, hT, hv⟩ := A
  refine z_aload_n C dL_law_230 1 rfl ?_
  refine z_aload_n C dL_law_231 3 rfl ?_
  refine z_callSW C 235 [.ref (zN E), .ref (zN E + 233)] [] (ct_L_load (x := zN E) wL_o (Or.inr (by omega)) hst hL) co_L_load ml_L_102 st_L_load ini_L ⟨by decide +kernel, by decide +kernel, by show _ = some 2; decide +kernel⟩ (by decide) (by decide) rfl (Nat.le_of_ble_eq_true rfl) hk rfl dL_law_232 ?_
  refine z_heap wL_w ?_
  refine z_istore C dL_law_235 (by decide) rfl ?_
  refine z_aload_n C dL_law_237 3 rfl ?_
  refine z_heap wL_M ?_
  refine z_callV (Cn := RX6) (T := TX6) (N := 14) (ci := 6) C 241 [] [] (ct_X6_load hM) co_X6_load ml_L_105 im_X6_load se_X6_load ini_X6 rfl pM_o ⟨rfl, by decide +kernel, by decide +kernel, by show _ = some 0; decide +kernel⟩ (by decide) (by decide) rfl (Nat.le_of_ble_eq_true rfl) hk rfl dL_law_238 ?_
  refine z_heap wL_M.symm ?_
  refine z_istore C dL_law_241 (by decide) rfl ?_
  refine z_aload_n C dL_law_243 4 rfl ?_
  refine z_heap wL_M ?_
  refine z_callV (Cn := RX6) (T := TX6) (N := 14) (ci := 6) C 247 [] [] (ct_X6_thrown hT) co_X6_thrown ml_L_91 im_X6_thrown se_X6_thrown ini_X6 rfl pM_o ⟨rfl, by decide +kernel, by decide +kernel, by decide +kernel⟩ (by decide) (by decide) rfl (Nat.le_of_ble_eq_true rfl) hk rfl dL_law_244 ?_
  refine z_heap wL_M.symm ?_
  refine z_iload C dL_law_247 1 rfl ?_
  refine z_icmp_eq C 254 dL_law_249 (by decide) (fun _ => ?_) (fun q => absurd rfl q)
  refine z_iload C dL_law_254 1 rfl ?_
  refine z_if_ne C 271 dL_law_256 (by decide) (fun _ => ?_) (fun e0 => ?_)
  · refine z_goto C 1492 dL_law_271 (by decide) ?_
    exact z_sub [2, 3, 4, 5, 6] rfl K
  · refine z_aload_n C dL_law_259 5 rfl ?_
    refine z_iconst C (0 : Int32) dL_law_260 (by decide) ?_
    refine z_lald (N := 1) C wL_o2 (by unfold vp_in; decide) dL_law_261 ?_
    refine z_iload C dL_law_262 0 rfl ?_
    refine z_i2l C dL_law_264 ?_
    refine z_lcmp C dL_law_265 ?_
    refine z_if_eq C 271 dL_law_266 (by decide) (fun _ => ?_) (fun q => absurd ((congrArg (fun z => lg_cmp z _) (hv e0)).trans (lg_cmp_self _)) q)
    refine z_goto C 1492 dL_law_271 (by decide) ?_
    exact z_sub [2, 3, 4, 5, 6] rfl K
def A_about (c : CS) (M : MS) (o : Nat → Int64) (a1 a2 a3 : Int32) (c' : CS) (M' : MS) (o' : Nat → Int64) : Prop := ∃ (n1 n2 : Nat) (k b : Int32), f_L_about n1 c a1 o = some (k, c', o') ∧ f_X6_about n2 M a1 = some (M', b) ∧ f_X6_thrown M' = some k ∧ (k = 0 → o' 0 = b.toInt64)
set_option maxRecDepth 100000 in
set_option maxHeartbeats 4000000 in
theorem cs_about {E : zE} {X : zX} {ret : Option FieldType} {b L k n : Nat} {sc : Nat → Int32} {Q : State → Prop} {c c' : CS} {M M' : MS} {o o' : Nat → Int64} {i : Int32} (C : zC E X RL cL_law 7 ret 17) (hst : (xl X).stackTraces = false) (G : zG9 E X b L sc) (hk : k + 1 ≤ (xR X).cells ∧ n + 6 ≤ (xR X).slots) (hk0 : k ≤ (xR X).cells ∧ n ≤ (xR X).slots) (h1 : vp_in (i + 1) L) (h2 : vp_in (i + 2) L) (h3 : vp_in (i + 3) L) (A : A_about c M o (sc (i + 1).toNatClampNeg) (sc (i + 2).toNatClampNeg) (sc (i + 3).toNatClampNeg) c' M' o') (K : zW E X 7 (k + 1) (n + 6) Q 1492 (wL E o' M' c') (lwv E b i) []) : zW E X 7 k n Q 274 (wL E o M c) (lwv E b i) [] := by
  obtain ⟨n1, n2, kx, bx, hL, hM, hT, hv⟩ := A
  refine z_aload_n C dL_law_274 1 rfl ?_
  refine z_aload_n C dL_law_275 0 rfl ?_
  refine z_iload C dL_law_276 4 rfl ?_
  refine z_iconst C (1 : Int32) dL_law_278 (by decide) ?_
  refine z_iadd C dL_law_279 ?_
  refine z_sld C G h1 dL_law_280 ?_
  refine z_aload_n C dL_law_281 3 rfl ?_
  refine z_callSW C 285 [.ref (zN E), .int (sc (i + 1).toNatClampNeg), .ref (zN E + 233)] [] (ct_L_about (x := zN E) wL_o (Or.inr (by omega)) hst hL) co_L_about ml_L_106 st_L_about ini_L ⟨by decide +kernel, by decide +kernel, by show _ = some 3; decide +kernel⟩ (by decide) (by decide) rfl (Nat.le_of_ble_eq_true rfl) hk rfl dL_law_282 ?_
  refine z_heap wL_w ?_
  refine z_istore C dL_law_285 (by decide) rfl ?_
  refine z_aload_n C dL_law_287 3 rfl ?_
  refine z_aload_n C dL_law_288 1 rfl ?_
  refine z_iload C dL_law_289 5 rfl ?_
  refine z_iconst C (1 : Int32) dL_law_291 (by decide) ?_
  refine z_iadd C dL_law_292 ?_
  refine z_sld C G h1 dL_law_293 ?_
  refine z_heap wL_M ?_
  refine z_callV (Cn := RX6) (T := TX6) (N := 14) (ci := 6) C 297 [.int (sc (i + 1).toNatClampNeg)] [] (ct_X6_about hM) co_X6_about ml_L_108 im_X6_about se_X6_about ini_X6 rfl pM_o ⟨rfl, by decide +kernel, by decide +kernel, by show _ = some 1; decide +kernel⟩ (by decide) (by decide) rfl (Nat.le_of_ble_eq_true rfl) hk rfl dL_law_294 ?_
  refine z_heap wL_M.symm ?_
  refine z_istore C dL_law_297 (by decide) rfl ?_
  refine z_aload_n C dL_law_299 4 rfl ?_
  refine z_heap wL_M ?_
  refine z_callV (Cn := RX6) (T := TX6) (N := 14) (ci := 6) C 303 [] [] (ct_X6_thrown hT) co_X6_thrown ml_L_91 im_X6_thrown se_X6_thrown ini_X6 rfl pM_o ⟨rfl, by decide +kernel, by decide +kernel, by decide +kernel⟩ (by decide) (by decide) rfl (Nat.le_of_ble_eq_true rfl) hk rfl dL_law_300 ?_
  refine z_heap wL_M.symm ?_
  refine z_iload C dL_law_303 1 rfl ?_
  refine z_icmp_eq C 310 dL_law_305 (by decide) (fun _ => ?_) (fun q => absurd rfl q)
  refine z_iload C dL_law_310 1 rfl ?_
  refine z_if_ne C 327 dL_law_312 (by decide) (fun _ => ?_) (fun e0 => ?_)
  · refine z_goto C 1492 dL_law_327 (by decide) ?_
    exact z_sub [2, 3, 4, 5, 6] rfl K
  · refine z_aload_n C dL_law_315 5 rfl ?_
    refine z_iconst C (0 : Int32) dL_law_316 (by decide) ?_
    refine z_lald (N := 1) C wL_o2 (by unfold vp_in; decide) dL_law_317 ?_
    refine z_iload C dL_law_318 0 rfl ?_
    refine z_i2l C dL_law_320 ?_
    refine z_lcmp C dL_law_321 ?_
    refine z_if_eq C 327 dL_law_322 (by decide) (fun _ => ?_) (fun q => absurd ((congrArg (fun z => lg_cmp z _) (hv e0)).trans (lg_cmp_self _)) q)
    refine z_goto C 1492 dL_law_327 (by decide) ?_
    exact z_sub [2, 3, 4, 5, 6] rfl K
def A_tileOf (c : CS) (M : MS) (o : Nat → Int64) (a1 a2 a3 : Int32) (c' : CS) (M' : MS) (o' : Nat → Int64) : Prop := ∃ (n1 n2 : Nat) (k b : Int32), f_L_tileOf n1 c a1 a2 o = some (k, c', o') ∧ f_X6_tileOf n2 M a1 a2 = some (M', b) ∧ f_X6_thrown M' = some k ∧ (k = 0 → o' 0 = b.toInt64)
set_option maxRecDepth 100000 in
set_option maxHeartbeats 4000000 in
theorem cs_tileOf {E : zE} {X : zX} {ret : Option FieldType} {b L k n : Nat} {sc : Nat → Int32} {Q : State → Prop} {c c' : CS} {M M' : MS} {o o' : Nat → Int64} {i : Int32} (C : zC E X RL cL_law 7 ret 17) (hst : (xl X).stackTraces = false) (G : zG9 E X b L sc) (hk : k + 1 ≤ (xR X).cells ∧ n + 6 ≤ (xR X).slots) (hk0 : k ≤ (xR X).cells ∧ n ≤ (xR X).slots) (h1 : vp_in (i + 1) L) (h2 : vp_in (i + 2) L) (h3 : vp_in (i + 3) L) (A : A_tileOf c M o (sc (i + 1).toNatClampNeg) (sc (i + 2).toNatClampNeg) (sc (i + 3).toNatClampNeg) c' M' o') (K : zW E X 7 (k + 1) (n + 6) Q 1492 (wL E o' M' c') (lwv E b i) []) : zW E X 7 k n Q 330 (wL E o M c) (lwv E b i) [] := by
  obtain ⟨n1, n2, kx, bx, hL, hM, hT, hv⟩ := A
  refine z_aload_n C dL_law_330 1 rfl ?_
  refine z_aload_n C dL_law_331 0 rfl ?_
  refine z_iload C dL_law_332 4 rfl ?_
  refine z_iconst C (1 : Int32) dL_law_334 (by decide) ?_
  refine z_iadd C dL_law_335 ?_
  refine z_sld C G h1 dL_law_336 ?_
  refine z_aload_n C dL_law_337 0 rfl ?_
  refine z_iload C dL_law_338 4 rfl ?_
  refine z_iconst C (2 : Int32) dL_law_340 (by decide) ?_
  refine z_iadd C dL_law_341 ?_
  refine z_sld C G h2 dL_law_342 ?_
  refine z_aload_n C dL_law_343 3 rfl ?_
  refine z_callSW C 347 [.ref (zN E), .int (sc (i + 1).toNatClampNeg), .int (sc (i + 2).toNatClampNeg), .ref (zN E + 233)] [] (ct_L_tileOf (x := zN E) wL_o (Or.inr (by omega)) hst hL) co_L_tileOf ml_L_109 st_L_tileOf ini_L ⟨by decide +kernel, by decide +kernel, by show _ = some 4; decide +kernel⟩ (by decide) (by decide) rfl (Nat.le_of_ble_eq_true rfl) hk rfl dL_law_344 ?_
  refine z_heap wL_w ?_
  refine z_istore C dL_law_347 (by decide) rfl ?_
  refine z_aload_n C dL_law_349 3 rfl ?_
  refine z_aload_n C dL_law_350 1 rfl ?_
  refine z_iload C dL_law_351 5 rfl ?_
  refine z_iconst C (1 : Int32) dL_law_353 (by decide) ?_
  refine z_iadd C dL_law_354 ?_
  refine z_sld C G h1 dL_law_355 ?_
  refine z_aload_n C dL_law_356 1 rfl ?_
  refine z_iload C dL_law_357 5 rfl ?_
  refine z_iconst C (2 : Int32) dL_law_359 (by decide) ?_
  refine z_iadd C dL_law_360 ?_
  refine z_sld C G h2 dL_law_361 ?_
  refine z_heap wL_M ?_
  refine z_callV (Cn := RX6) (T := TX6) (N := 14) (ci := 6) C 365 [.int (sc (i + 1).toNatClampNeg), .int (sc (i + 2).toNatClampNeg)] [] (ct_X6_tileOf hM) co_X6_tileOf ml_L_112 im_X6_tileOf se_X6_tileOf ini_X6 rfl pM_o ⟨rfl, by decide +kernel, by decide +kernel, by show _ = some 2; decide +kernel⟩ (by decide) (by decide) rfl (Nat.le_of_ble_eq_true rfl) hk rfl dL_law_362 ?_
  refine z_heap wL_M.symm ?_
  refine z_istore C dL_law_365 (by decide) rfl ?_
  refine z_aload_n C dL_law_367 4 rfl ?_
  refine z_heap wL_M ?_
  refine z_callV (Cn := RX6) (T := TX6) (N := 14) (ci := 6) C 371 [] [] (ct_X6_thrown hT) co_X6_thrown ml_L_91 im_X6_thrown se_X6_thrown ini_X6 rfl pM_o ⟨rfl, by decide +kernel, by decide +kernel, by decide +kernel⟩ (by decide) (by decide) rfl (Nat.le_of_ble_eq_true rfl) hk rfl dL_law_368 ?_
  refine z_heap wL_M.symm ?_
  refine z_iload C dL_law_371 1 rfl ?_
  refine z_icmp_eq C 378 dL_law_373 (by decide) (fun _ => ?_) (fun q => absurd rfl q)
  refine z_iload C dL_law_378 1 rfl ?_
  refine z_if_ne C 395 dL_law_380 (by decide) (fun _ => ?_) (fun e0 => ?_)
  · refine z_goto C 1492 dL_law_395 (by decide) ?_
    exact z_sub [2, 3, 4, 5, 6] rfl K
  · refine z_aload_n C dL_law_383 5 rfl ?_
    refine z_iconst C (0 : Int32) dL_law_384 (by decide) ?_
    refine z_lald (N := 1) C wL_o2 (by unfold vp_in; decide) dL_law_385 ?_
    refine z_iload C dL_law_386 0 rfl ?_
    refine z_i2l C dL_law_388 ?_
    refine z_lcmp C dL_law_389 ?_
    refine z_if_eq C 395 dL_law_390 (by decide) (fun _ => ?_) (fun q => absurd ((congrArg (fun z => lg_cmp z _) (hv e0)).trans (lg_cmp_self _)) q)
    refine z_goto C 1492 dL_law_395 (by decide) ?_
    exact z_sub [2, 3, 4, 5, 6] rfl K
def A_laid (c : CS) (M : MS) (o : Nat → Int64) (a1 a2 a3 : Int32) (c' : CS) (M' : MS) (o' : Nat → Int64) : Prop := ∃ (n1 n2 : Nat) (k b : Int32), f_L_laid c a1 a2 o = some (k, c', o') ∧ f_X6_laid n2 M a1 a2 = some (M', b) ∧ f_X6_thrown M' = some k ∧ (k = 0 → o' 0 = b.toInt64)
set_option maxRecDepth 100000 in
set_option maxHeartbeats 4000000 in
theorem cs_laid {E : zE} {X : zX} {ret : Option FieldType} {b L k n : Nat} {sc : Nat → Int32} {Q : State → Prop} {c c' : CS} {M M' : MS} {o o' : Nat → Int64} {i : Int32} (C : zC E X RL cL_law 7 ret 17) (hst : (xl X).stackTraces = false) (G : zG9 E X b L sc) (hk : k + 1 ≤ (xR X).cells ∧ n + 6 ≤ (xR X).slots) (hk0 : k ≤ (xR X).cells ∧ n ≤ (xR X).slots) (h1 : vp_in (i + 1) L) (h2 : vp_in (i + 2) L) (h3 : vp_in (i + 3) L) (A : A_laid c M o (sc (i + 1).toNatClampNeg) (sc (i + 2).toNatClampNeg) (sc (i + 3).toNatClampNeg) c' M' o') (K : zW E X 7 (k + 1) (n + 6) Q 1492 (wL E o' M' c') (lwv E b i) []) : zW E X 7 k n Q 398 (wL E o M c) (lwv E b i) [] := by
  obtain ⟨n1, n2, kx, bx, hL, hM, hT, hv⟩ := A
  refine z_aload_n C dL_law_398 1 rfl ?_
  refine z_aload_n C dL_law_399 0 rfl ?_
  refine z_iload C dL_law_400 4 rfl ?_
  refine z_iconst C (1 : Int32) dL_law_402 (by decide) ?_
  refine z_iadd C dL_law_403 ?_
  refine z_sld C G h1 dL_law_404 ?_
  refine z_aload_n C dL_law_405 0 rfl ?_
  refine z_iload C dL_law_406 4 rfl ?_
  refine z_iconst C (2 : Int32) dL_law_408 (by decide) ?_
  refine z_iadd C dL_law_409 ?_
  refine z_sld C G h2 dL_law_410 ?_
  refine z_aload_n C dL_law_411 3 rfl ?_
  refine z_callSW C 415 [.ref (zN E), .int (sc (i + 1).toNatClampNeg), .int (sc (i + 2).toNatClampNeg), .ref (zN E + 233)] [] (ct_L_laid (x := zN E) wL_o (Or.inr (by omega)) hst hL) co_L_laid ml_L_113 st_L_laid ini_L ⟨by decide +kernel, by decide +kernel, by show _ = some 4; decide +kernel⟩ (by decide) (by decide) rfl (Nat.le_of_ble_eq_true rfl) hk rfl dL_law_412 ?_
  refine z_heap wL_w ?_
  refine z_istore C dL_law_415 (by decide) rfl ?_
  refine z_aload_n C dL_law_417 3 rfl ?_
  refine z_aload_n C dL_law_418 1 rfl ?_
  refine z_iload C dL_law_419 5 rfl ?_
  refine z_iconst C (1 : Int32) dL_law_421 (by decide) ?_
  refine z_iadd C dL_law_422 ?_
  refine z_sld C G h1 dL_law_423 ?_
  refine z_aload_n C dL_law_424 1 rfl ?_
  refine z_iload C dL_law_425 5 rfl ?_
  refine z_iconst C (2 : Int32) dL_law_427 (by decide) ?_
  refine z_iadd C dL_law_428 ?_
  refine z_sld C G h2 dL_law_429 ?_
  refine z_heap wL_M ?_
  refine z_callV (Cn := RX6) (T := TX6) (N := 14) (ci := 6) C 433 [.int (sc (i + 1).toNatClampNeg), .int (sc (i + 2).toNatClampNeg)] [] (ct_X6_laid hM) co_X6_laid ml_L_115 im_X6_laid se_X6_laid ini_X6 rfl pM_o ⟨rfl, by decide +kernel, by decide +kernel, by show _ = some 2; decide +kernel⟩ (by decide) (by decide) rfl (Nat.le_of_ble_eq_true rfl) hk rfl dL_law_430 ?_
  refine z_heap wL_M.symm ?_
  refine z_istore C dL_law_433 (by decide) rfl ?_
  refine z_aload_n C dL_law_435 4 rfl ?_
  refine z_heap wL_M ?_
  refine z_callV (Cn := RX6) (T := TX6) (N := 14) (ci := 6) C 439 [] [] (ct_X6_thrown hT) co_X6_thrown ml_L_91 im_X6_thrown se_X6_thrown ini_X6 rfl pM_o ⟨rfl, by decide +kernel, by decide +kernel, by decide +kernel⟩ (by decide) (by decide) rfl (Nat.le_of_ble_eq_true rfl) hk rfl dL_law_436 ?_
  refine z_heap wL_M.symm ?_
  refine z_iload C dL_law_439 1 rfl ?_
  refine z_icmp_eq C 446 dL_law_441 (by decide) (fun _ => ?_) (fun q => absurd rfl q)
  refine z_iload C dL_law_446 1 rfl ?_
  refine z_if_ne C 463 dL_law_448 (by decide) (fun _ => ?_) (fun e0 => ?_)
  · refine z_goto C 1492 dL_law_463 (by decide) ?_
    exact z_sub [2, 3, 4, 5, 6] rfl K
  · refine z_aload_n C dL_law_451 5 rfl ?_
    refine z_iconst C (0 : Int32) dL_law_452 (by decide) ?_
    refine z_lald (N := 1) C wL_o2 (by unfold vp_in; decide) dL_law_453 ?_
    refine z_iload C dL_law_454 0 rfl ?_
    refine z_i2l C dL_law_456 ?_
    refine z_lcmp C dL_law_457 ?_
    refine z_if_eq C 463 dL_law_458 (by decide) (fun _ => ?_) (fun q => absurd ((congrArg (fun z => lg_cmp z _) (hv e0)).trans (lg_cmp_self _)) q)
    refine z_goto C 1492 dL_law_463 (by decide) ?_
    exact z_sub [2, 3, 4, 5, 6] rfl K
def A_playerOf (c : CS) (M : MS) (o : Nat → Int64) (a1 a2 a3 : Int32) (c' : CS) (M' : MS) (o' : Nat → Int64) : Prop := ∃ (n1 n2 : Nat) (k b : Int32), f_L_playerOf n1 c a1 a2 o = some (k, c', o') ∧ f_X6_playerOf n2 M a1 a2 = some (M', b) ∧ f_X6_thrown M' = some k ∧ (k = 0 → o' 0 = b.toInt64)
set_option maxRecDepth 100000 in
set_option maxHeartbeats 4000000 in
theorem cs_playerOf {E : zE} {X : zX} {ret : Option FieldType} {b L k n : Nat} {sc : Nat → Int32} {Q : State → Prop} {c c' : CS} {M M' : MS} {o o' : Nat → Int64} {i : Int32} (C : zC E X RL cL_law 7 ret 17) (hst : (xl X).stackTraces = false) (G : zG9 E X b L sc) (hk : k + 1 ≤ (xR X).cells ∧ n + 6 ≤ (xR X).slots) (hk0 : k ≤ (xR X).cells ∧ n ≤ (xR X).slots) (h1 : vp_in (i + 1) L) (h2 : vp_in (i + 2) L) (h3 : vp_in (i + 3) L) (A : A_playerOf c M o (sc (i + 1).toNatClampNeg) (sc (i + 2).toNatClampNeg) (sc (i + 3).toNatClampNeg) c' M' o') (K : zW E X 7 (k + 1) (n + 6) Q 1492 (wL E o' M' c') (lwv E b i) []) : zW E X 7 k n Q 466 (wL E o M c) (lwv E b i) [] := by
  obtain ⟨n1, n2, kx, bx, hL, hM, hT, hv⟩ := A
  refine z_aload_n C dL_law_466 1 rfl ?_
  refine z_aload_n C dL_law_467 0 rfl ?_
  refine z_iload C dL_law_468 4 rfl ?_
  refine z_iconst C (1 : Int32) dL_law_470 (by decide) ?_
  refine z_iadd C dL_law_471 ?_
  refine z_sld C G h1 dL_law_472 ?_
  refine z_aload_n C dL_law_473 0 rfl ?_
  refine z_iload C dL_law_474 4 rfl ?_
  refine z_iconst C (2 : Int32) dL_law_476 (by decide) ?_
  refine z_iadd C dL_law_477 ?_
  refine z_sld C G h2 dL_law_478 ?_
  refine z_aload_n C dL_law_479 3 rfl ?_
  refine z_callSW C 483 [.ref (zN E), .int (sc (i + 1).toNatClampNeg), .int (sc (i + 2).toNatClampNeg), .ref (zN E + 233)] [] (ct_L_playerOf (x := zN E) wL_o (Or.inr (by omega)) hst hL) co_L_playerOf ml_L_116 st_L_playerOf ini_L ⟨by decide +kernel, by decide +kernel, by show _ = some 4; decide +kernel⟩ (by decide) (by decide) rfl (Nat.le_of_ble_eq_true rfl) hk rfl dL_law_480 ?_
  refine z_heap wL_w ?_
  refine z_istore C dL_law_483 (by decide) rfl ?_
  refine z_aload_n C dL_law_485 3 rfl ?_
  refine z_aload_n C dL_law_486 1 rfl ?_
  refine z_iload C dL_law_487 5 rfl ?_
  refine z_iconst C (1 : Int32) dL_law_489 (by decide) ?_
  refine z_iadd C dL_law_490 ?_
  refine z_sld C G h1 dL_law_491 ?_
  refine z_aload_n C dL_law_492 1 rfl ?_
  refine z_iload C dL_law_493 5 rfl ?_
  refine z_iconst C (2 : Int32) dL_law_495 (by decide) ?_
  refine z_iadd C dL_law_496 ?_
  refine z_sld C G h2 dL_law_497 ?_
  refine z_heap wL_M ?_
  refine z_callV (Cn := RX6) (T := TX6) (N := 14) (ci := 6) C 501 [.int (sc (i + 1).toNatClampNeg), .int (sc (i + 2).toNatClampNeg)] [] (ct_X6_playerOf hM) co_X6_playerOf ml_L_118 im_X6_playerOf se_X6_playerOf ini_X6 rfl pM_o ⟨rfl, by decide +kernel, by decide +kernel, by show _ = some 2; decide +kernel⟩ (by decide) (by decide) rfl (Nat.le_of_ble_eq_true rfl) hk rfl dL_law_498 ?_
  refine z_heap wL_M.symm ?_
  refine z_istore C dL_law_501 (by decide) rfl ?_
  refine z_aload_n C dL_law_503 4 rfl ?_
  refine z_heap wL_M ?_
  refine z_callV (Cn := RX6) (T := TX6) (N := 14) (ci := 6) C 507 [] [] (ct_X6_thrown hT) co_X6_thrown ml_L_91 im_X6_thrown se_X6_thrown ini_X6 rfl pM_o ⟨rfl, by decide +kernel, by decide +kernel, by decide +kernel⟩ (by decide) (by decide) rfl (Nat.le_of_ble_eq_true rfl) hk rfl dL_law_504 ?_
  refine z_heap wL_M.symm ?_
  refine z_iload C dL_law_507 1 rfl ?_
  refine z_icmp_eq C 514 dL_law_509 (by decide) (fun _ => ?_) (fun q => absurd rfl q)
  refine z_iload C dL_law_514 1 rfl ?_
  refine z_if_ne C 531 dL_law_516 (by decide) (fun _ => ?_) (fun e0 => ?_)
  · refine z_goto C 1492 dL_law_531 (by decide) ?_
    exact z_sub [2, 3, 4, 5, 6] rfl K
  · refine z_aload_n C dL_law_519 5 rfl ?_
    refine z_iconst C (0 : Int32) dL_law_520 (by decide) ?_
    refine z_lald (N := 1) C wL_o2 (by unfold vp_in; decide) dL_law_521 ?_
    refine z_iload C dL_law_522 0 rfl ?_
    refine z_i2l C dL_law_524 ?_
    refine z_lcmp C dL_law_525 ?_
    refine z_if_eq C 531 dL_law_526 (by decide) (fun _ => ?_) (fun q => absurd ((congrArg (fun z => lg_cmp z _) (hv e0)).trans (lg_cmp_self _)) q)
    refine z_goto C 1492 dL_law_531 (by decide) ?_
    exact z_sub [2, 3, 4, 5, 6] rfl K
def A_at (c : CS) (M : MS) (o : Nat → Int64) (a1 a2 a3 : Int32) (c' : CS) (M' : MS) (o' : Nat → Int64) : Prop := ∃ (n1 n2 : Nat) (k b : Int32), f_L_at n1 c a1 a2 o = some (k, c', o') ∧ f_X6_at n2 M a1 a2 = some (M', b) ∧ f_X6_thrown M' = some k ∧ (k = 0 → o' 0 = b.toInt64)
set_option maxRecDepth 100000 in
set_option maxHeartbeats 4000000 in
theorem cs_at {E : zE} {X : zX} {ret : Option FieldType} {b L k n : Nat} {sc : Nat → Int32} {Q : State → Prop} {c c' : CS} {M M' : MS} {o o' : Nat → Int64} {i : Int32} (C : zC E X RL cL_law 7 ret 17) (hst : (xl X).stackTraces = false) (G : zG9 E X b L sc) (hk : k + 1 ≤ (xR X).cells ∧ n + 6 ≤ (xR X).slots) (hk0 : k ≤ (xR X).cells ∧ n ≤ (xR X).slots) (h1 : vp_in (i + 1) L) (h2 : vp_in (i + 2) L) (h3 : vp_in (i + 3) L) (A : A_at c M o (sc (i + 1).toNatClampNeg) (sc (i + 2).toNatClampNeg) (sc (i + 3).toNatClampNeg) c' M' o') (K : zW E X 7 (k + 1) (n + 6) Q 1492 (wL E o' M' c') (lwv E b i) []) : zW E X 7 k n Q 534 (wL E o M c) (lwv E b i) [] := by
  obtain ⟨n1, n2, kx, bx, hL, hM, hT, hv⟩ := A
  refine z_aload_n C dL_law_534 1 rfl ?_
  refine z_aload_n C dL_law_535 0 rfl ?_
  refine z_iload C dL_law_536 4 rfl ?_
  refine z_iconst C (1 : Int32) dL_law_538 (by decide) ?_
  refine z_iadd C dL_law_539 ?_
  refine z_sld C G h1 dL_law_540 ?_
  refine z_aload_n C dL_law_541 0 rfl ?_
  refine z_iload C dL_law_542 4 rfl ?_
  refine z_iconst C (2 : Int32) dL_law_544 (by decide) ?_
  refine z_iadd C dL_law_545 ?_
  refine z_sld C G h2 dL_law_546 ?_
  refine z_aload_n C dL_law_547 3 rfl ?_
  refine z_callSW C 551 [.ref (zN E), .int (sc (i + 1).toNatClampNeg), .int (sc (i + 2).toNatClampNeg), .ref (zN E + 233)] [] (ct_L_at (x := zN E) wL_o (Or.inr (by omega)) hst hL) co_L_at ml_L_119 st_L_at ini_L ⟨by decide +kernel, by decide +kernel, by show _ = some 4; decide +kernel⟩ (by decide) (by decide) rfl (Nat.le_of_ble_eq_true rfl) hk rfl dL_law_548 ?_
  refine z_heap wL_w ?_
  refine z_istore C dL_law_551 (by decide) rfl ?_
  refine z_aload_n C dL_law_553 3 rfl ?_
  refine z_aload_n C dL_law_554 1 rfl ?_
  refine z_iload C dL_law_555 5 rfl ?_
  refine z_iconst C (1 : Int32) dL_law_557 (by decide) ?_
  refine z_iadd C dL_law_558 ?_
  refine z_sld C G h1 dL_law_559 ?_
  refine z_aload_n C dL_law_560 1 rfl ?_
  refine z_iload C dL_law_561 5 rfl ?_
  refine z_iconst C (2 : Int32) dL_law_563 (by decide) ?_
  refine z_iadd C dL_law_564 ?_
  refine z_sld C G h2 dL_law_565 ?_
  refine z_heap wL_M ?_
  refine z_callV (Cn := RX6) (T := TX6) (N := 14) (ci := 6) C 569 [.int (sc (i + 1).toNatClampNeg), .int (sc (i + 2).toNatClampNeg)] [] (ct_X6_at hM) co_X6_at ml_L_121 im_X6_at se_X6_at ini_X6 rfl pM_o ⟨rfl, by decide +kernel, by decide +kernel, by show _ = some 2; decide +kernel⟩ (by decide) (by decide) rfl (Nat.le_of_ble_eq_true rfl) hk rfl dL_law_566 ?_
  refine z_heap wL_M.symm ?_
  refine z_istore C dL_law_569 (by decide) rfl ?_
  refine z_aload_n C dL_law_571 4 rfl ?_
  refine z_heap wL_M ?_
  refine z_callV (Cn := RX6) (T := TX6) (N := 14) (ci := 6) C 575 [] [] (ct_X6_thrown hT) co_X6_thrown ml_L_91 im_X6_thrown se_X6_thrown ini_X6 rfl pM_o ⟨rfl, by decide +kernel, by decide +kernel, by decide +kernel⟩ (by decide) (by decide) rfl (Nat.le_of_ble_eq_true rfl) hk rfl dL_law_572 ?_
  refine z_heap wL_M.symm ?_
  refine z_iload C dL_law_575 1 rfl ?_
  refine z_icmp_eq C 582 dL_law_577 (by decide) (fun _ => ?_) (fun q => absurd rfl q)
  refine z_iload C dL_law_582 1 rfl ?_
  refine z_if_ne C 599 dL_law_584 (by decide) (fun _ => ?_) (fun e0 => ?_)
  · refine z_goto C 1492 dL_law_599 (by decide) ?_
    exact z_sub [2, 3, 4, 5, 6] rfl K
  · refine z_aload_n C dL_law_587 5 rfl ?_
    refine z_iconst C (0 : Int32) dL_law_588 (by decide) ?_
    refine z_lald (N := 1) C wL_o2 (by unfold vp_in; decide) dL_law_589 ?_
    refine z_iload C dL_law_590 0 rfl ?_
    refine z_i2l C dL_law_592 ?_
    refine z_lcmp C dL_law_593 ?_
    refine z_if_eq C 599 dL_law_594 (by decide) (fun _ => ?_) (fun q => absurd ((congrArg (fun z => lg_cmp z _) (hv e0)).trans (lg_cmp_self _)) q)
    refine z_goto C 1492 dL_law_599 (by decide) ?_
    exact z_sub [2, 3, 4, 5, 6] rfl K
def A_free (c : CS) (M : MS) (o : Nat → Int64) (a1 a2 a3 : Int32) (c' : CS) (M' : MS) (o' : Nat → Int64) : Prop := ∃ (n1 n2 : Nat) (k b : Int32), f_L_free n1 c a1 o = some (k, c', o') ∧ f_X6_free M a1 = some (M', b) ∧ f_X6_thrown M' = some k ∧ (k = 0 → o' 0 = b.toInt64)
set_option maxRecDepth 100000 in
set_option maxHeartbeats 4000000 in
theorem cs_free {E : zE} {X : zX} {ret : Option FieldType} {b L k n : Nat} {sc : Nat → Int32} {Q : State → Prop} {c c' : CS} {M M' : MS} {o o' : Nat → Int64} {i : Int32} (C : zC E X RL cL_law 7 ret 17) (hst : (xl X).stackTraces = false) (G : zG9 E X b L sc) (hk : k + 1 ≤ (xR X).cells ∧ n + 6 ≤ (xR X).slots) (hk0 : k ≤ (xR X).cells ∧ n ≤ (xR X).slots) (h1 : vp_in (i + 1) L) (h2 : vp_in (i + 2) L) (h3 : vp_in (i + 3) L) (A : A_free c M o (sc (i + 1).toNatClampNeg) (sc (i + 2).toNatClampNeg) (sc (i + 3).toNatClampNeg) c' M' o') (K : zW E X 7 (k + 1) (n + 6) Q 1492 (wL E o' M' c') (lwv E b i) []) : zW E X 7 k n Q 602 (wL E o M c) (lwv E b i) [] := by
  obtain ⟨n1, n2, kx, bx, hL, hM, hT, hv⟩ := A
  refine z_aload_n C dL_law_602 1 rfl ?_
  refine z_aload_n C dL_law_603 0 rfl ?_
  refine z_iload C dL_law_604 4 rfl ?_
  refine z_iconst C (1 : Int32) dL_law_606 (by decide) ?_
  refine z_iadd C dL_law_607 ?_
  refine z_sld C G h1 dL_law_608 ?_
  refine z_aload_n C dL_law_609 3 rfl ?_
  refine z_callSW C 613 [.ref (zN E), .int (sc (i + 1).toNatClampNeg), .ref (zN E + 233)] [] (ct_L_free (x := zN E) wL_o (Or.inr (by omega)) hst hL) co_L_free ml_L_122 st_L_free ini_L ⟨by decide +kernel, by decide +kernel, by show _ = some 3; decide +kernel⟩ (by decide) (by decide) rfl (Nat.le_of_ble_eq_true rfl) hk rfl dL_law_610 ?_
  refine z_heap wL_w ?_
  refine z_istore C dL_law_613 (by decide) rfl ?_
  refine z_aload_n C dL_law_615 3 rfl ?_
  refine z_aload_n C dL_law_616 1 rfl ?_
  refine z_iload C dL_law_617 5 rfl ?_
  refine z_iconst C (1 : Int32) dL_law_619 (by decide) ?_
  refine z_iadd C dL_law_620 ?_
  refine z_sld C G h1 dL_law_621 ?_
  refine z_heap wL_M ?_
  refine z_callV (Cn := RX6) (T := TX6) (N := 14) (ci := 6) C 625 [.int (sc (i + 1).toNatClampNeg)] [] (ct_X6_free hM) co_X6_free ml_L_124 im_X6_free se_X6_free ini_X6 rfl pM_o ⟨rfl, by decide +kernel, by decide +kernel, by show _ = some 1; decide +kernel⟩ (by decide) (by decide) rfl (Nat.le_of_ble_eq_true rfl) hk rfl dL_law_622 ?_
  refine z_heap wL_M.symm ?_
  refine z_istore C dL_law_625 (by decide) rfl ?_
  refine z_aload_n C dL_law_627 4 rfl ?_
  refine z_heap wL_M ?_
  refine z_callV (Cn := RX6) (T := TX6) (N := 14) (ci := 6) C 631 [] [] (ct_X6_thrown hT) co_X6_thrown ml_L_91 im_X6_thrown se_X6_thrown ini_X6 rfl pM_o ⟨rfl, by decide +kernel, by decide +kernel, by decide +kernel⟩ (by decide) (by decide) rfl (Nat.le_of_ble_eq_true rfl) hk rfl dL_law_628 ?_
  refine z_heap wL_M.symm ?_
  refine z_iload C dL_law_631 1 rfl ?_
  refine z_icmp_eq C 638 dL_law_633 (by decide) (fun _ => ?_) (fun q => absurd rfl q)
  refine z_iload C dL_law_638 1 rfl ?_
  refine z_if_ne C 655 dL_law_640 (by decide) (fun _ => ?_) (fun e0 => ?_)
  · refine z_goto C 1492 dL_law_655 (by decide) ?_
    exact z_sub [2, 3, 4, 5, 6] rfl K
  · refine z_aload_n C dL_law_643 5 rfl ?_
    refine z_iconst C (0 : Int32) dL_law_644 (by decide) ?_
    refine z_lald (N := 1) C wL_o2 (by unfold vp_in; decide) dL_law_645 ?_
    refine z_iload C dL_law_646 0 rfl ?_
    refine z_i2l C dL_law_648 ?_
    refine z_lcmp C dL_law_649 ?_
    refine z_if_eq C 655 dL_law_650 (by decide) (fun _ => ?_) (fun q => absurd ((congrArg (fun z => lg_cmp z _) (hv e0)).trans (lg_cmp_self _)) q)
    refine z_goto C 1492 dL_law_655 (by decide) ?_
    exact z_sub [2, 3, 4, 5, 6] rfl K
def A_deal (c : CS) (M : MS) (o : Nat → Int64) (a1 a2 a3 : Int32) (c' : CS) (M' : MS) (o' : Nat → Int64) : Prop := ∃ (n1 n2 : Nat) (k b : Int32), f_L_deal n1 c a1 (lg2 a2 a3) o = some (k, c', o') ∧ f_X6_deal n2 M a1 (lg2 a2 a3) = some (M', b) ∧ f_X6_thrown M' = some k ∧ (k = 0 → o' 0 = b.toInt64)
set_option maxRecDepth 100000 in
set_option maxHeartbeats 4000000 in
theorem cs_deal {E : zE} {X : zX} {ret : Option FieldType} {b L k n : Nat} {sc : Nat → Int32} {Q : State → Prop} {c c' : CS} {M M' : MS} {o o' : Nat → Int64} {i : Int32} (C : zC E X RL cL_law 7 ret 17) (hst : (xl X).stackTraces = false) (G : zG9 E X b L sc) (hk : k + 1 ≤ (xR X).cells ∧ n + 6 ≤ (xR X).slots) (hk0 : k ≤ (xR X).cells ∧ n ≤ (xR X).slots) (h1 : vp_in (i + 1) L) (h2 : vp_in (i + 2) L) (h3 : vp_in (i + 3) L) (A : A_deal c M o (sc (i + 1).toNatClampNeg) (sc (i + 2).toNatClampNeg) (sc (i + 3).toNatClampNeg) c' M' o') (K : zW E X 7 (k + 1) (n + 6) Q 1492 (wL E o' M' c') (lwv E b i) []) : zW E X 7 k n Q 658 (wL E o M c) (lwv E b i) [] := by
  obtain ⟨n1, n2, kx, bx, hL, hM, hT, hv⟩ := A
  refine z_aload_n C dL_law_658 1 rfl ?_
  refine z_aload_n C dL_law_659 0 rfl ?_
  refine z_iload C dL_law_660 4 rfl ?_
  refine z_iconst C (1 : Int32) dL_law_662 (by decide) ?_
  refine z_iadd C dL_law_663 ?_
  refine z_sld C G h1 dL_law_664 ?_
  refine z_aload_n C dL_law_665 0 rfl ?_
  refine z_iload C dL_law_666 4 rfl ?_
  refine z_iconst C (2 : Int32) dL_law_668 (by decide) ?_
  refine z_iadd C dL_law_669 ?_
  refine z_sld C G h2 dL_law_670 ?_
  refine z_i2l C dL_law_671 ?_
  refine z_bipush C (32 : Int32) dL_law_672 (by decide) ?_
  refine z_lshl C dL_law_674 ?_
  refine z_aload_n C dL_law_675 0 rfl ?_
  refine z_iload C dL_law_676 4 rfl ?_
  refine z_iconst C (3 : Int32) dL_law_678 (by decide) ?_
  refine z_iadd C dL_law_679 ?_
  refine z_sld C G h3 dL_law_680 ?_
  refine z_i2l C dL_law_681 ?_
  refine z_ldc2 C (4294967295 : Int64) dL_law_682 cn_L_125 ?_
  refine z_land C dL_law_685 ?_
  refine z_lor C dL_law_686 ?_
  refine z_aload_n C dL_law_687 3 rfl ?_
  refine z_callSW C 691 [.ref (zN E), .int (sc (i + 1).toNatClampNeg), .long (lg2 (sc (i + 2).toNatClampNeg) (sc (i + 3).toNatClampNeg)), .ref (zN E + 233)] [] (ct_L_deal (x := zN E) wL_o (Or.inr (by omega)) hst hL) co_L_deal ml_L_127 st_L_deal ini_L ⟨by decide +kernel, by decide +kernel, by show _ = some 4; decide +kernel⟩ (by decide) (by decide) rfl (Nat.le_of_ble_eq_true rfl) hk rfl dL_law_688 ?_
  refine z_heap wL_w ?_
  refine z_istore C dL_law_691 (by decide) rfl ?_
  refine z_aload_n C dL_law_693 3 rfl ?_
  refine z_aload_n C dL_law_694 1 rfl ?_
  refine z_iload C dL_law_695 5 rfl ?_
  refine z_iconst C (1 : Int32) dL_law_697 (by decide) ?_
  refine z_iadd C dL_law_698 ?_
  refine z_sld C G h1 dL_law_699 ?_
  refine z_aload_n C dL_law_700 1 rfl ?_
  refine z_iload C dL_law_701 5 rfl ?_
  refine z_iconst C (2 : Int32) dL_law_703 (by decide) ?_
  refine z_iadd C dL_law_704 ?_
  refine z_sld C G h2 dL_law_705 ?_
  refine z_i2l C dL_law_706 ?_
  refine z_bipush C (32 : Int32) dL_law_707 (by decide) ?_
  refine z_lshl C dL_law_709 ?_
  refine z_aload_n C dL_law_710 1 rfl ?_
  refine z_iload C dL_law_711 5 rfl ?_
  refine z_iconst C (3 : Int32) dL_law_713 (by decide) ?_
  refine z_iadd C dL_law_714 ?_
  refine z_sld C G h3 dL_law_715 ?_
  refine z_i2l C dL_law_716 ?_
  refine z_ldc2 C (4294967295 : Int64) dL_law_717 cn_L_125 ?_
  refine z_land C dL_law_720 ?_
  refine z_lor C dL_law_721 ?_
  refine z_heap wL_M ?_
  refine z_callV (Cn := RX6) (T := TX6) (N := 14) (ci := 6) C 725 [.int (sc (i + 1).toNatClampNeg), .long (lg2 (sc (i + 2).toNatClampNeg) (sc (i + 3).toNatClampNeg))] [] (ct_X6_deal hM) co_X6_deal ml_L_130 im_X6_deal se_X6_deal ini_X6 rfl pM_o ⟨rfl, by decide +kernel, by decide +kernel, by show _ = some 2; decide +kernel⟩ (by decide) (by decide) rfl (Nat.le_of_ble_eq_true rfl) hk rfl dL_law_722 ?_
  refine z_heap wL_M.symm ?_
  refine z_istore C dL_law_725 (by decide) rfl ?_
  refine z_aload_n C dL_law_727 4 rfl ?_
  refine z_heap wL_M ?_
  refine z_callV (Cn := RX6) (T := TX6) (N := 14) (ci := 6) C 731 [] [] (ct_X6_thrown hT) co_X6_thrown ml_L_91 im_X6_thrown se_X6_thrown ini_X6 rfl pM_o ⟨rfl, by decide +kernel, by decide +kernel, by decide +kernel⟩ (by decide) (by decide) rfl (Nat.le_of_ble_eq_true rfl) hk rfl dL_law_728 ?_
  refine z_heap wL_M.symm ?_
  refine z_iload C dL_law_731 1 rfl ?_
  refine z_icmp_eq C 738 dL_law_733 (by decide) (fun _ => ?_) (fun q => absurd rfl q)
  refine z_iload C dL_law_738 1 rfl ?_
  refine z_if_ne C 755 dL_law_740 (by decide) (fun _ => ?_) (fun e0 => ?_)
  · refine z_goto C 1492 dL_law_755 (by decide) ?_
    exact z_sub [2, 3, 4, 5, 6] rfl K
  · refine z_aload_n C dL_law_743 5 rfl ?_
    refine z_iconst C (0 : Int32) dL_law_744 (by decide) ?_
    refine z_lald (N := 1) C wL_o2 (by unfold vp_in; decide) dL_law_745 ?_
    refine z_iload C dL_law_746 0 rfl ?_
    refine z_i2l C dL_law_748 ?_
    refine z_lcmp C dL_law_749 ?_
    refine z_if_eq C 755 dL_law_750 (by decide) (fun _ => ?_) (fun q => absurd ((congrArg (fun z => lg_cmp z _) (hv e0)).trans (lg_cmp_self _)) q)
    refine z_goto C 1492 dL_law_755 (by decide) ?_
    exact z_sub [2, 3, 4, 5, 6] rfl K
def A_play (c : CS) (M : MS) (o : Nat → Int64) (a1 a2 a3 : Int32) (c' : CS) (M' : MS) (o' : Nat → Int64) : Prop := ∃ (n1 n2 : Nat) (k b : Int32), f_L_play n1 c a1 (if a2 = 0 then (0 : Int32) else 1) o = some (k, c', o') ∧ f_X6_play n2 M a1 (if a2 = 0 then (0 : Int32) else 1) = some (M', b) ∧ f_X6_thrown M' = some k ∧ (k = 0 → o' 0 = b.toInt64)
set_option maxRecDepth 100000 in
set_option maxHeartbeats 4000000 in
theorem cs_play {E : zE} {X : zX} {ret : Option FieldType} {b L k n : Nat} {sc : Nat → Int32} {Q : State → Prop} {c c' : CS} {M M' : MS} {o o' : Nat → Int64} {i : Int32} (C : zC E X RL cL_law 7 ret 17) (hst : (xl X).stackTraces = false) (G : zG9 E X b L sc) (hk : k + 1 ≤ (xR X).cells ∧ n + 6 ≤ (xR X).slots) (hk0 : k ≤ (xR X).cells ∧ n ≤ (xR X).slots) (h1 : vp_in (i + 1) L) (h2 : vp_in (i + 2) L) (h3 : vp_in (i + 3) L) (A : A_play c M o (sc (i + 1).toNatClampNeg) (sc (i + 2).toNatClampNeg) (sc (i + 3).toNatClampNeg) c' M' o') (K : zW E X 7 (k + 1) (n + 6) Q 1492 (wL E o' M' c') (lwv E b i) []) : zW E X 7 k n Q 758 (wL E o M c) (lwv E b i) [] := by
  obtain ⟨n1, n2, kx, bx, hL, hM, hT, hv⟩ := A
  by_cases e2 : (sc (i + 2).toNatClampNeg) = 0
  · rw [if_pos e2] at hL hM
    refine z_aload_n C dL_law_758 1 rfl ?_
    refine z_aload_n C dL_law_759 0 rfl ?_
    refine z_iload C dL_law_760 4 rfl ?_
    refine z_iconst C (1 : Int32) dL_law_762 (by decide) ?_
    refine z_iadd C dL_law_763 ?_
    refine z_sld C G h1 dL_law_764 ?_
    refine z_aload_n C dL_law_765 0 rfl ?_
    refine z_iload C dL_law_766 4 rfl ?_
    refine z_iconst C (2 : Int32) dL_law_768 (by decide) ?_
    refine z_iadd C dL_law_769 ?_
    refine z_sld C G h2 dL_law_770 ?_
    refine z_if_eq C 778 dL_law_771 (by decide) (fun _ => ?_) (fun q => absurd e2 q)
    refine z_iconst C (0 : Int32) dL_law_778 (by decide) ?_
    refine z_aload_n C dL_law_779 3 rfl ?_
    refine z_callSW C 783 [.ref (zN E), .int (sc (i + 1).toNatClampNeg), .int 0, .ref (zN E + 233)] [] (ct_L_play (x := zN E) wL_o (Or.inr (by omega)) hst hL) co_L_play ml_L_131 st_L_play ini_L ⟨by decide +kernel, by decide +kernel, by show _ = some 4; decide +kernel⟩ (by decide) (by decide) rfl (Nat.le_of_ble_eq_true rfl) hk rfl dL_law_780 ?_
    refine z_heap wL_w ?_
    refine z_istore C dL_law_783 (by decide) rfl ?_
    refine z_aload_n C dL_law_785 3 rfl ?_
    refine z_aload_n C dL_law_786 1 rfl ?_
    refine z_iload C dL_law_787 5 rfl ?_
    refine z_iconst C (1 : Int32) dL_law_789 (by decide) ?_
    refine z_iadd C dL_law_790 ?_
    refine z_sld C G h1 dL_law_791 ?_
    refine z_aload_n C dL_law_792 1 rfl ?_
    refine z_iload C dL_law_793 5 rfl ?_
    refine z_iconst C (2 : Int32) dL_law_795 (by decide) ?_
    refine z_iadd C dL_law_796 ?_
    refine z_sld C G h2 dL_law_797 ?_
    refine z_if_eq C 805 dL_law_798 (by decide) (fun _ => ?_) (fun q => absurd e2 q)
    refine z_iconst C (0 : Int32) dL_law_805 (by decide) ?_
    refine z_heap wL_M ?_
    refine z_callV (Cn := RX6) (T := TX6) (N := 14) (ci := 6) C 809 [.int (sc (i + 1).toNatClampNeg), .int 0] [] (ct_X6_play hM) co_X6_play ml_L_134 im_X6_play se_X6_play ini_X6 rfl pM_o ⟨rfl, by decide +kernel, by decide +kernel, by show _ = some 2; decide +kernel⟩ (by decide) (by decide) rfl (Nat.le_of_ble_eq_true rfl) hk rfl dL_law_806 ?_
    refine z_heap wL_M.symm ?_
    refine z_istore C dL_law_809 (by decide) rfl ?_
    refine z_aload_n C dL_law_811 4 rfl ?_
    refine z_heap wL_M ?_
    refine z_callV (Cn := RX6) (T := TX6) (N := 14) (ci := 6) C 815 [] [] (ct_X6_thrown hT) co_X6_thrown ml_L_91 im_X6_thrown se_X6_thrown ini_X6 rfl pM_o ⟨rfl, by decide +kernel, by decide +kernel, by decide +kernel⟩ (by decide) (by decide) rfl (Nat.le_of_ble_eq_true rfl) hk rfl dL_law_812 ?_
    refine z_heap wL_M.symm ?_
    refine z_iload C dL_law_815 1 rfl ?_
    refine z_icmp_eq C 822 dL_law_817 (by decide) (fun _ => ?_) (fun q => absurd rfl q)
    refine z_iload C dL_law_822 1 rfl ?_
    refine z_if_ne C 839 dL_law_824 (by decide) (fun _ => ?_) (fun e0 => ?_)
    · refine z_goto C 1492 dL_law_839 (by decide) ?_
      exact z_sub [2, 3, 4, 5, 6] rfl K
    · refine z_aload_n C dL_law_827 5 rfl ?_
      refine z_iconst C (0 : Int32) dL_law_828 (by decide) ?_
      refine z_lald (N := 1) C wL_o2 (by unfold vp_in; decide) dL_law_829 ?_
      refine z_iload C dL_law_830 0 rfl ?_
      refine z_i2l C dL_law_832 ?_
      refine z_lcmp C dL_law_833 ?_
      refine z_if_eq C 839 dL_law_834 (by decide) (fun _ => ?_) (fun q => absurd ((congrArg (fun z => lg_cmp z _) (hv e0)).trans (lg_cmp_self _)) q)
      refine z_goto C 1492 dL_law_839 (by decide) ?_
      exact z_sub [2, 3, 4, 5, 6] rfl K
  · rw [if_neg e2] at hL hM
    refine z_aload_n C dL_law_758 1 rfl ?_
    refine z_aload_n C dL_law_759 0 rfl ?_
    refine z_iload C dL_law_760 4 rfl ?_
    refine z_iconst C (1 : Int32) dL_law_762 (by decide) ?_
    refine z_iadd C dL_law_763 ?_
    refine z_sld C G h1 dL_law_764 ?_
    refine z_aload_n C dL_law_765 0 rfl ?_
    refine z_iload C dL_law_766 4 rfl ?_
    refine z_iconst C (2 : Int32) dL_law_768 (by decide) ?_
    refine z_iadd C dL_law_769 ?_
    refine z_sld C G h2 dL_law_770 ?_
    refine z_if_eq C 778 dL_law_771 (by decide) (fun q => absurd q e2) (fun _ => ?_)
    refine z_iconst C (1 : Int32) dL_law_774 (by decide) ?_
    refine z_goto C 779 dL_law_775 (by decide) ?_
    refine z_aload_n C dL_law_779 3 rfl ?_
    refine z_callSW C 783 [.ref (zN E), .int (sc (i + 1).toNatClampNeg), .int 1, .ref (zN E + 233)] [] (ct_L_play (x := zN E) wL_o (Or.inr (by omega)) hst hL) co_L_play ml_L_131 st_L_play ini_L ⟨by decide +kernel, by decide +kernel, by show _ = some 4; decide +kernel⟩ (by decide) (by decide) rfl (Nat.le_of_ble_eq_true rfl) hk rfl dL_law_780 ?_
    refine z_heap wL_w ?_
    refine z_istore C dL_law_783 (by decide) rfl ?_
    refine z_aload_n C dL_law_785 3 rfl ?_
    refine z_aload_n C dL_law_786 1 rfl ?_
    refine z_iload C dL_law_787 5 rfl ?_
    refine z_iconst C (1 : Int32) dL_law_789 (by decide) ?_
    refine z_iadd C dL_law_790 ?_
    refine z_sld C G h1 dL_law_791 ?_
    refine z_aload_n C dL_law_792 1 rfl ?_
    refine z_iload C dL_law_793 5 rfl ?_
    refine z_iconst C (2 : Int32) dL_law_795 (by decide) ?_
    refine z_iadd C dL_law_796 ?_
    refine z_sld C G h2 dL_law_797 ?_
    refine z_if_eq C 805 dL_law_798 (by decide) (fun q => absurd q e2) (fun _ => ?_)
    refine z_iconst C (1 : Int32) dL_law_801 (by decide) ?_
    refine z_goto C 806 dL_law_802 (by decide) ?_
    refine z_heap wL_M ?_
    refine z_callV (Cn := RX6) (T := TX6) (N := 14) (ci := 6) C 809 [.int (sc (i + 1).toNatClampNeg), .int 1] [] (ct_X6_play hM) co_X6_play ml_L_134 im_X6_play se_X6_play ini_X6 rfl pM_o ⟨rfl, by decide +kernel, by decide +kernel, by show _ = some 2; decide +kernel⟩ (by decide) (by decide) rfl (Nat.le_of_ble_eq_true rfl) hk rfl dL_law_806 ?_
    refine z_heap wL_M.symm ?_
    refine z_istore C dL_law_809 (by decide) rfl ?_
    refine z_aload_n C dL_law_811 4 rfl ?_
    refine z_heap wL_M ?_
    refine z_callV (Cn := RX6) (T := TX6) (N := 14) (ci := 6) C 815 [] [] (ct_X6_thrown hT) co_X6_thrown ml_L_91 im_X6_thrown se_X6_thrown ini_X6 rfl pM_o ⟨rfl, by decide +kernel, by decide +kernel, by decide +kernel⟩ (by decide) (by decide) rfl (Nat.le_of_ble_eq_true rfl) hk rfl dL_law_812 ?_
    refine z_heap wL_M.symm ?_
    refine z_iload C dL_law_815 1 rfl ?_
    refine z_icmp_eq C 822 dL_law_817 (by decide) (fun _ => ?_) (fun q => absurd rfl q)
    refine z_iload C dL_law_822 1 rfl ?_
    refine z_if_ne C 839 dL_law_824 (by decide) (fun _ => ?_) (fun e0 => ?_)
    · refine z_goto C 1492 dL_law_839 (by decide) ?_
      exact z_sub [2, 3, 4, 5, 6] rfl K
    · refine z_aload_n C dL_law_827 5 rfl ?_
      refine z_iconst C (0 : Int32) dL_law_828 (by decide) ?_
      refine z_lald (N := 1) C wL_o2 (by unfold vp_in; decide) dL_law_829 ?_
      refine z_iload C dL_law_830 0 rfl ?_
      refine z_i2l C dL_law_832 ?_
      refine z_lcmp C dL_law_833 ?_
      refine z_if_eq C 839 dL_law_834 (by decide) (fun _ => ?_) (fun q => absurd ((congrArg (fun z => lg_cmp z _) (hv e0)).trans (lg_cmp_self _)) q)
      refine z_goto C 1492 dL_law_839 (by decide) ?_
      exact z_sub [2, 3, 4, 5, 6] rfl K
def A_draw (c : CS) (M : MS) (o : Nat → Int64) (a1 a2 a3 : Int32) (c' : CS) (M' : MS) (o' : Nat → Int64) : Prop := ∃ (n1 n2 : Nat) (k b : Int32), f_L_draw c o = some (k, c', o') ∧ f_X6_draw n2 M = some (M', b) ∧ f_X6_thrown M' = some k ∧ (k = 0 → o' 0 = b.toInt64)
set_option maxRecDepth 100000 in
set_option maxHeartbeats 4000000 in
theorem cs_draw {E : zE} {X : zX} {ret : Option FieldType} {b L k n : Nat} {sc : Nat → Int32} {Q : State → Prop} {c c' : CS} {M M' : MS} {o o' : Nat → Int64} {i : Int32} (C : zC E X RL cL_law 7 ret 17) (hst : (xl X).stackTraces = false) (G : zG9 E X b L sc) (hk : k + 1 ≤ (xR X).cells ∧ n + 6 ≤ (xR X).slots) (hk0 : k ≤ (xR X).cells ∧ n ≤ (xR X).slots) (h1 : vp_in (i + 1) L) (h2 : vp_in (i + 2) L) (h3 : vp_in (i + 3) L) (A : A_draw c M o (sc (i + 1).toNatClampNeg) (sc (i + 2).toNatClampNeg) (sc (i + 3).toNatClampNeg) c' M' o') (K : zW E X 7 (k + 1) (n + 6) Q 1492 (wL E o' M' c') (lwv E b i) []) : zW E X 7 k n Q 842 (wL E o M c) (lwv E b i) [] := by
  obtain ⟨n1, n2, kx, bx, hL, hM, hT, hv⟩ := A
  refine z_aload_n C dL_law_842 1 rfl ?_
  refine z_aload_n C dL_law_843 3 rfl ?_
  refine z_callSW C 847 [.ref (zN E), .ref (zN E + 233)] [] (ct_L_draw (x := zN E) wL_o (Or.inr (by omega)) hst hL) co_L_draw ml_L_135 st_L_draw ini_L ⟨by decide +kernel, by decide +kernel, by show _ = some 2; decide +kernel⟩ (by decide) (by decide) rfl (Nat.le_of_ble_eq_true rfl) hk rfl dL_law_844 ?_
  refine z_heap wL_w ?_
  refine z_istore C dL_law_847 (by decide) rfl ?_
  refine z_aload_n C dL_law_849 3 rfl ?_
  refine z_heap wL_M ?_
  refine z_callV (Cn := RX6) (T := TX6) (N := 14) (ci := 6) C 853 [] [] (ct_X6_draw hM) co_X6_draw ml_L_137 im_X6_draw se_X6_draw ini_X6 rfl pM_o ⟨rfl, by decide +kernel, by decide +kernel, by show _ = some 0; decide +kernel⟩ (by decide) (by decide) rfl (Nat.le_of_ble_eq_true rfl) hk rfl dL_law_850 ?_
  refine z_heap wL_M.symm ?_
  refine z_istore C dL_law_853 (by decide) rfl ?_
  refine z_aload_n C dL_law_855 4 rfl ?_
  refine z_heap wL_M ?_
  refine z_callV (Cn := RX6) (T := TX6) (N := 14) (ci := 6) C 859 [] [] (ct_X6_thrown hT) co_X6_thrown ml_L_91 im_X6_thrown se_X6_thrown ini_X6 rfl pM_o ⟨rfl, by decide +kernel, by decide +kernel, by decide +kernel⟩ (by decide) (by decide) rfl (Nat.le_of_ble_eq_true rfl) hk rfl dL_law_856 ?_
  refine z_heap wL_M.symm ?_
  refine z_iload C dL_law_859 1 rfl ?_
  refine z_icmp_eq C 866 dL_law_861 (by decide) (fun _ => ?_) (fun q => absurd rfl q)
  refine z_iload C dL_law_866 1 rfl ?_
  refine z_if_ne C 883 dL_law_868 (by decide) (fun _ => ?_) (fun e0 => ?_)
  · refine z_goto C 1492 dL_law_883 (by decide) ?_
    exact z_sub [2, 3, 4, 5, 6] rfl K
  · refine z_aload_n C dL_law_871 5 rfl ?_
    refine z_iconst C (0 : Int32) dL_law_872 (by decide) ?_
    refine z_lald (N := 1) C wL_o2 (by unfold vp_in; decide) dL_law_873 ?_
    refine z_iload C dL_law_874 0 rfl ?_
    refine z_i2l C dL_law_876 ?_
    refine z_lcmp C dL_law_877 ?_
    refine z_if_eq C 883 dL_law_878 (by decide) (fun _ => ?_) (fun q => absurd ((congrArg (fun z => lg_cmp z _) (hv e0)).trans (lg_cmp_self _)) q)
    refine z_goto C 1492 dL_law_883 (by decide) ?_
    exact z_sub [2, 3, 4, 5, 6] rfl K
def A_pass (c : CS) (M : MS) (o : Nat → Int64) (a1 a2 a3 : Int32) (c' : CS) (M' : MS) (o' : Nat → Int64) : Prop := ∃ (n1 n2 : Nat) (k b : Int32), f_L_pass n1 c o = some (k, c', o') ∧ f_X6_pass n2 M = some (M', b) ∧ f_X6_thrown M' = some k ∧ (k = 0 → o' 0 = b.toInt64)
set_option maxRecDepth 100000 in
set_option maxHeartbeats 4000000 in
theorem cs_pass {E : zE} {X : zX} {ret : Option FieldType} {b L k n : Nat} {sc : Nat → Int32} {Q : State → Prop} {c c' : CS} {M M' : MS} {o o' : Nat → Int64} {i : Int32} (C : zC E X RL cL_law 7 ret 17) (hst : (xl X).stackTraces = false) (G : zG9 E X b L sc) (hk : k + 1 ≤ (xR X).cells ∧ n + 6 ≤ (xR X).slots) (hk0 : k ≤ (xR X).cells ∧ n ≤ (xR X).slots) (h1 : vp_in (i + 1) L) (h2 : vp_in (i + 2) L) (h3 : vp_in (i + 3) L) (A : A_pass c M o (sc (i + 1).toNatClampNeg) (sc (i + 2).toNatClampNeg) (sc (i + 3).toNatClampNeg) c' M' o') (K : zW E X 7 (k + 1) (n + 6) Q 1492 (wL E o' M' c') (lwv E b i) []) : zW E X 7 k n Q 886 (wL E o M c) (lwv E b i) [] := by
  obtain ⟨n1, n2, kx, bx, hL, hM, hT, hv⟩ := A
  refine z_aload_n C dL_law_886 1 rfl ?_
  refine z_aload_n C dL_law_887 3 rfl ?_
  refine z_callSW C 891 [.ref (zN E), .ref (zN E + 233)] [] (ct_L_pass (x := zN E) wL_o (Or.inr (by omega)) hst hL) co_L_pass ml_L_138 st_L_pass ini_L ⟨by decide +kernel, by decide +kernel, by show _ = some 2; decide +kernel⟩ (by decide) (by decide) rfl (Nat.le_of_ble_eq_true rfl) hk rfl dL_law_888 ?_
  refine z_heap wL_w ?_
  refine z_istore C dL_law_891 (by decide) rfl ?_
  refine z_aload_n C dL_law_893 3 rfl ?_
  refine z_heap wL_M ?_
  refine z_callV (Cn := RX6) (T := TX6) (N := 14) (ci := 6) C 897 [] [] (ct_X6_pass hM) co_X6_pass ml_L_140 im_X6_pass se_X6_pass ini_X6 rfl pM_o ⟨rfl, by decide +kernel, by decide +kernel, by show _ = some 0; decide +kernel⟩ (by decide) (by decide) rfl (Nat.le_of_ble_eq_true rfl) hk rfl dL_law_894 ?_
  refine z_heap wL_M.symm ?_
  refine z_istore C dL_law_897 (by decide) rfl ?_
  refine z_aload_n C dL_law_899 4 rfl ?_
  refine z_heap wL_M ?_
  refine z_callV (Cn := RX6) (T := TX6) (N := 14) (ci := 6) C 903 [] [] (ct_X6_thrown hT) co_X6_thrown ml_L_91 im_X6_thrown se_X6_thrown ini_X6 rfl pM_o ⟨rfl, by decide +kernel, by decide +kernel, by decide +kernel⟩ (by decide) (by decide) rfl (Nat.le_of_ble_eq_true rfl) hk rfl dL_law_900 ?_
  refine z_heap wL_M.symm ?_
  refine z_iload C dL_law_903 1 rfl ?_
  refine z_icmp_eq C 910 dL_law_905 (by decide) (fun _ => ?_) (fun q => absurd rfl q)
  refine z_iload C dL_law_910 1 rfl ?_
  refine z_if_ne C 927 dL_law_912 (by decide) (fun _ => ?_) (fun e0 => ?_)
  · refine z_goto C 1492 dL_law_927 (by decide) ?_
    exact z_sub [2, 3, 4, 5, 6] rfl K
  · refine z_aload_n C dL_law_915 5 rfl ?_
    refine z_iconst C (0 : Int32) dL_law_916 (by decide) ?_
    refine z_lald (N := 1) C wL_o2 (by unfold vp_in; decide) dL_law_917 ?_
    refine z_iload C dL_law_918 0 rfl ?_
    refine z_i2l C dL_law_920 ?_
    refine z_lcmp C dL_law_921 ?_
    refine z_if_eq C 927 dL_law_922 (by decide) (fun _ => ?_) (fun q => absurd ((congrArg (fun z => lg_cmp z _) (hv e0)).trans (lg_cmp_self _)) q)
    refine z_goto C 1492 dL_law_927 (by decide) ?_
    exact z_sub [2, 3, 4, 5, 6] rfl K
def A_undo (c : CS) (M : MS) (o : Nat → Int64) (a1 a2 a3 : Int32) (c' : CS) (M' : MS) (o' : Nat → Int64) : Prop := ∃ (n1 n2 : Nat) (k b : Int32), f_L_undo c o = some (k, c', o') ∧ f_X6_undo n2 M = some (M', b) ∧ f_X6_thrown M' = some k ∧ (k = 0 → o' 0 = b.toInt64)
set_option maxRecDepth 100000 in
set_option maxHeartbeats 4000000 in
theorem cs_undo {E : zE} {X : zX} {ret : Option FieldType} {b L k n : Nat} {sc : Nat → Int32} {Q : State → Prop} {c c' : CS} {M M' : MS} {o o' : Nat → Int64} {i : Int32} (C : zC E X RL cL_law 7 ret 17) (hst : (xl X).stackTraces = false) (G : zG9 E X b L sc) (hk : k + 1 ≤ (xR X).cells ∧ n + 6 ≤ (xR X).slots) (hk0 : k ≤ (xR X).cells ∧ n ≤ (xR X).slots) (h1 : vp_in (i + 1) L) (h2 : vp_in (i + 2) L) (h3 : vp_in (i + 3) L) (A : A_undo c M o (sc (i + 1).toNatClampNeg) (sc (i + 2).toNatClampNeg) (sc (i + 3).toNatClampNeg) c' M' o') (K : zW E X 7 (k + 1) (n + 6) Q 1492 (wL E o' M' c') (lwv E b i) []) : zW E X 7 k n Q 930 (wL E o M c) (lwv E b i) [] := by
  obtain ⟨n1, n2, kx, bx, hL, hM, hT, hv⟩ := A
  refine z_aload_n C dL_law_930 1 rfl ?_
  refine z_aload_n C dL_law_931 3 rfl ?_
  refine z_callSW C 935 [.ref (zN E), .ref (zN E + 233)] [] (ct_L_undo (x := zN E) wL_o (Or.inr (by omega)) hst hL) co_L_undo ml_L_141 st_L_undo ini_L ⟨by decide +kernel, by decide +kernel, by show _ = some 2; decide +kernel⟩ (by decide) (by decide) rfl (Nat.le_of_ble_eq_true rfl) hk rfl dL_law_932 ?_
  refine z_heap wL_w ?_
  refine z_istore C dL_law_935 (by decide) rfl ?_
  refine z_aload_n C dL_law_937 3 rfl ?_
  refine z_heap wL_M ?_
  refine z_callV (Cn := RX6) (T := TX6) (N := 14) (ci := 6) C 941 [] [] (ct_X6_undo hM) co_X6_undo ml_L_143 im_X6_undo se_X6_undo ini_X6 rfl pM_o ⟨rfl, by decide +kernel, by decide +kernel, by show _ = some 0; decide +kernel⟩ (by decide) (by decide) rfl (Nat.le_of_ble_eq_true rfl) hk rfl dL_law_938 ?_
  refine z_heap wL_M.symm ?_
  refine z_istore C dL_law_941 (by decide) rfl ?_
  refine z_aload_n C dL_law_943 4 rfl ?_
  refine z_heap wL_M ?_
  refine z_callV (Cn := RX6) (T := TX6) (N := 14) (ci := 6) C 947 [] [] (ct_X6_thrown hT) co_X6_thrown ml_L_91 im_X6_thrown se_X6_thrown ini_X6 rfl pM_o ⟨rfl, by decide +kernel, by decide +kernel, by decide +kernel⟩ (by decide) (by decide) rfl (Nat.le_of_ble_eq_true rfl) hk rfl dL_law_944 ?_
  refine z_heap wL_M.symm ?_
  refine z_iload C dL_law_947 1 rfl ?_
  refine z_icmp_eq C 954 dL_law_949 (by decide) (fun _ => ?_) (fun q => absurd rfl q)
  refine z_iload C dL_law_954 1 rfl ?_
  refine z_if_ne C 971 dL_law_956 (by decide) (fun _ => ?_) (fun e0 => ?_)
  · refine z_goto C 1492 dL_law_971 (by decide) ?_
    exact z_sub [2, 3, 4, 5, 6] rfl K
  · refine z_aload_n C dL_law_959 5 rfl ?_
    refine z_iconst C (0 : Int32) dL_law_960 (by decide) ?_
    refine z_lald (N := 1) C wL_o2 (by unfold vp_in; decide) dL_law_961 ?_
    refine z_iload C dL_law_962 0 rfl ?_
    refine z_i2l C dL_law_964 ?_
    refine z_lcmp C dL_law_965 ?_
    refine z_if_eq C 971 dL_law_966 (by decide) (fun _ => ?_) (fun q => absurd ((congrArg (fun z => lg_cmp z _) (hv e0)).trans (lg_cmp_self _)) q)
    refine z_goto C 1492 dL_law_971 (by decide) ?_
    exact z_sub [2, 3, 4, 5, 6] rfl K
def A_why (c : CS) (M : MS) (o : Nat → Int64) (a1 a2 a3 : Int32) (c' : CS) (M' : MS) (o' : Nat → Int64) : Prop := ∃ (n1 n2 : Nat) (k b : Int32), f_L_why c a1 o = some (k, c', o') ∧ f_X6_why n2 M a1 = some (M', b) ∧ f_X6_thrown M' = some k ∧ (k = 0 → o' 0 = b.toInt64)
set_option maxRecDepth 100000 in
set_option maxHeartbeats 4000000 in
theorem cs_why {E : zE} {X : zX} {ret : Option FieldType} {b L k n : Nat} {sc : Nat → Int32} {Q : State → Prop} {c c' : CS} {M M' : MS} {o o' : Nat → Int64} {i : Int32} (C : zC E X RL cL_law 7 ret 17) (hst : (xl X).stackTraces = false) (G : zG9 E X b L sc) (hk : k + 1 ≤ (xR X).cells ∧ n + 6 ≤ (xR X).slots) (hk0 : k ≤ (xR X).cells ∧ n ≤ (xR X).slots) (h1 : vp_in (i + 1) L) (h2 : vp_in (i + 2) L) (h3 : vp_in (i + 3) L) (A : A_why c M o (sc (i + 1).toNatClampNeg) (sc (i + 2).toNatClampNeg) (sc (i + 3).toNatClampNeg) c' M' o') (K : zW E X 7 (k + 1) (n + 6) Q 1492 (wL E o' M' c') (lwv E b i) []) : zW E X 7 k n Q 974 (wL E o M c) (lwv E b i) [] := by
  obtain ⟨n1, n2, kx, bx, hL, hM, hT, hv⟩ := A
  refine z_aload_n C dL_law_974 1 rfl ?_
  refine z_aload_n C dL_law_975 0 rfl ?_
  refine z_iload C dL_law_976 4 rfl ?_
  refine z_iconst C (1 : Int32) dL_law_978 (by decide) ?_
  refine z_iadd C dL_law_979 ?_
  refine z_sld C G h1 dL_law_980 ?_
  refine z_aload_n C dL_law_981 3 rfl ?_
  refine z_callSW C 985 [.ref (zN E), .int (sc (i + 1).toNatClampNeg), .ref (zN E + 233)] [] (ct_L_why (x := zN E) wL_o (Or.inr (by omega)) hst hL) co_L_why ml_L_144 st_L_why ini_L ⟨by decide +kernel, by decide +kernel, by show _ = some 3; decide +kernel⟩ (by decide) (by decide) rfl (Nat.le_of_ble_eq_true rfl) hk rfl dL_law_982 ?_
  refine z_heap wL_w ?_
  refine z_istore C dL_law_985 (by decide) rfl ?_
  refine z_aload_n C dL_law_987 3 rfl ?_
  refine z_aload_n C dL_law_988 1 rfl ?_
  refine z_iload C dL_law_989 5 rfl ?_
  refine z_iconst C (1 : Int32) dL_law_991 (by decide) ?_
  refine z_iadd C dL_law_992 ?_
  refine z_sld C G h1 dL_law_993 ?_
  refine z_heap wL_M ?_
  refine z_callV (Cn := RX6) (T := TX6) (N := 14) (ci := 6) C 997 [.int (sc (i + 1).toNatClampNeg)] [] (ct_X6_why hM) co_X6_why ml_L_146 im_X6_why se_X6_why ini_X6 rfl pM_o ⟨rfl, by decide +kernel, by decide +kernel, by show _ = some 1; decide +kernel⟩ (by decide) (by decide) rfl (Nat.le_of_ble_eq_true rfl) hk rfl dL_law_994 ?_
  refine z_heap wL_M.symm ?_
  refine z_istore C dL_law_997 (by decide) rfl ?_
  refine z_aload_n C dL_law_999 4 rfl ?_
  refine z_heap wL_M ?_
  refine z_callV (Cn := RX6) (T := TX6) (N := 14) (ci := 6) C 1003 [] [] (ct_X6_thrown hT) co_X6_thrown ml_L_91 im_X6_thrown se_X6_thrown ini_X6 rfl pM_o ⟨rfl, by decide +kernel, by decide +kernel, by decide +kernel⟩ (by decide) (by decide) rfl (Nat.le_of_ble_eq_true rfl) hk rfl dL_law_1000 ?_
  refine z_heap wL_M.symm ?_
  refine z_iload C dL_law_1003 1 rfl ?_
  refine z_icmp_eq C 1010 dL_law_1005 (by decide) (fun _ => ?_) (fun q => absurd rfl q)
  refine z_iload C dL_law_1010 1 rfl ?_
  refine z_if_ne C 1027 dL_law_1012 (by decide) (fun _ => ?_) (fun e0 => ?_)
  · refine z_goto C 1492 dL_law_1027 (by decide) ?_
    exact z_sub [2, 3, 4, 5, 6] rfl K
  · refine z_aload_n C dL_law_1015 5 rfl ?_
    refine z_iconst C (0 : Int32) dL_law_1016 (by decide) ?_
    refine z_lald (N := 1) C wL_o2 (by unfold vp_in; decide) dL_law_1017 ?_
    refine z_iload C dL_law_1018 0 rfl ?_
    refine z_i2l C dL_law_1020 ?_
    refine z_lcmp C dL_law_1021 ?_
    refine z_if_eq C 1027 dL_law_1022 (by decide) (fun _ => ?_) (fun q => absurd ((congrArg (fun z => lg_cmp z _) (hv e0)).trans (lg_cmp_self _)) q)
    refine z_goto C 1492 dL_law_1027 (by decide) ?_
    exact z_sub [2, 3, 4, 5, 6] rfl K
def A_legal (c : CS) (M : MS) (o : Nat → Int64) (a1 a2 a3 : Int32) (c' : CS) (M' : MS) (o' : Nat → Int64) : Prop := ∃ (n1 n2 : Nat) (b : Int32), f_X5_legal n1 c = some b ∧ c' = c ∧ f_X6_legal n2 M = some (M', b) ∧ o' = o
set_option maxRecDepth 100000 in
set_option maxHeartbeats 4000000 in
theorem cs_legal {E : zE} {X : zX} {ret : Option FieldType} {b L k n : Nat} {sc : Nat → Int32} {Q : State → Prop} {c c' : CS} {M M' : MS} {o o' : Nat → Int64} {i : Int32} (C : zC E X RL cL_law 7 ret 17) (hst : (xl X).stackTraces = false) (G : zG9 E X b L sc) (hk : k + 1 ≤ (xR X).cells ∧ n + 6 ≤ (xR X).slots) (hk0 : k ≤ (xR X).cells ∧ n ≤ (xR X).slots) (h1 : vp_in (i + 1) L) (h2 : vp_in (i + 2) L) (h3 : vp_in (i + 3) L) (A : A_legal c M o (sc (i + 1).toNatClampNeg) (sc (i + 2).toNatClampNeg) (sc (i + 3).toNatClampNeg) c' M' o') (K : zW E X 7 (k + 1) (n + 6) Q 1492 (wL E o' M' c') (lwv E b i) []) : zW E X 7 k n Q 1030 (wL E o M c) (lwv E b i) [] := by
  obtain ⟨n1, n2, v, hL, rfl, hM, rfl⟩ := A
  refine z_aload_n C dL_law_1030 1 rfl ?_
  refine z_callV (Cn := RX5) (T := TX5) (N := 6) (ci := 5) C 1034 [] [] (ct_X5_legal hL) co_X5_legal ml_L_147 im_X5_legal se_X5_legal ini_X5 rfl pC_o ⟨rfl, by decide +kernel, by decide +kernel, by decide +kernel⟩ (by decide) (by decide) rfl (Nat.le_of_ble_eq_true rfl) hk0 rfl dL_law_1031 ?_
  refine z_aload_n C dL_law_1034 2 rfl ?_
  refine z_heap wL_M ?_
  refine z_callV (Cn := RX6) (T := TX6) (N := 14) (ci := 6) C 1038 [] [.int v] (ct_X6_legal hM) co_X6_legal ml_L_150 im_X6_legal se_X6_legal ini_X6 rfl pM_o ⟨rfl, by decide +kernel, by decide +kernel, by show _ = some 0; decide +kernel⟩ (by decide) (by decide) rfl (Nat.le_of_ble_eq_true rfl) hk0 rfl dL_law_1035 ?_
  refine z_heap wL_M.symm ?_
  refine z_icmp_eq C 1492 dL_law_1038 (by decide) (fun _ => ?_) (fun q => absurd rfl q)
  exact z_widen (Nat.le_succ _) (Nat.le_add_right _ _) K
def A_best (c : CS) (M : MS) (o : Nat → Int64) (a1 a2 a3 : Int32) (c' : CS) (M' : MS) (o' : Nat → Int64) : Prop := ∃ (n1 n2 : Nat) (b : Int32), f_X5_best n1 c = some b ∧ c' = c ∧ f_X6_best n2 M = some (M', b) ∧ o' = o
set_option maxRecDepth 100000 in
set_option maxHeartbeats 4000000 in
theorem cs_best {E : zE} {X : zX} {ret : Option FieldType} {b L k n : Nat} {sc : Nat → Int32} {Q : State → Prop} {c c' : CS} {M M' : MS} {o o' : Nat → Int64} {i : Int32} (C : zC E X RL cL_law 7 ret 17) (hst : (xl X).stackTraces = false) (G : zG9 E X b L sc) (hk : k + 1 ≤ (xR X).cells ∧ n + 6 ≤ (xR X).slots) (hk0 : k ≤ (xR X).cells ∧ n ≤ (xR X).slots) (h1 : vp_in (i + 1) L) (h2 : vp_in (i + 2) L) (h3 : vp_in (i + 3) L) (A : A_best c M o (sc (i + 1).toNatClampNeg) (sc (i + 2).toNatClampNeg) (sc (i + 3).toNatClampNeg) c' M' o') (K : zW E X 7 (k + 1) (n + 6) Q 1492 (wL E o' M' c') (lwv E b i) []) : zW E X 7 k n Q 1043 (wL E o M c) (lwv E b i) [] := by
  obtain ⟨n1, n2, v, hL, rfl, hM, rfl⟩ := A
  refine z_aload_n C dL_law_1043 1 rfl ?_
  refine z_callV (Cn := RX5) (T := TX5) (N := 6) (ci := 5) C 1047 [] [] (ct_X5_best hL) co_X5_best ml_L_151 im_X5_best se_X5_best ini_X5 rfl pC_o ⟨rfl, by decide +kernel, by decide +kernel, by decide +kernel⟩ (by decide) (by decide) rfl (Nat.le_of_ble_eq_true rfl) hk0 rfl dL_law_1044 ?_
  refine z_aload_n C dL_law_1047 2 rfl ?_
  refine z_heap wL_M ?_
  refine z_callV (Cn := RX6) (T := TX6) (N := 14) (ci := 6) C 1051 [] [.int v] (ct_X6_best hM) co_X6_best ml_L_154 im_X6_best se_X6_best ini_X6 rfl pM_o ⟨rfl, by decide +kernel, by decide +kernel, by show _ = some 0; decide +kernel⟩ (by decide) (by decide) rfl (Nat.le_of_ble_eq_true rfl) hk0 rfl dL_law_1048 ?_
  refine z_heap wL_M.symm ?_
  refine z_icmp_eq C 1492 dL_law_1051 (by decide) (fun _ => ?_) (fun q => absurd rfl q)
  exact z_widen (Nat.le_succ _) (Nat.le_add_right _ _) K
def A_chain (c : CS) (M : MS) (o : Nat → Int64) (a1 a2 a3 : Int32) (c' : CS) (M' : MS) (o' : Nat → Int64) : Prop := ∃ (n1 n2 : Nat) (k b : Int32), f_L_chain n1 c a1 a2 o = some (k, c', o') ∧ f_X6_chain n2 M a1 a2 = some (M', b) ∧ f_X6_thrown M' = some k ∧ (k = 0 → o' 0 = b.toInt64)
set_option maxRecDepth 100000 in
set_option maxHeartbeats 4000000 in
theorem cs_chain {E : zE} {X : zX} {ret : Option FieldType} {b L k n : Nat} {sc : Nat → Int32} {Q : State → Prop} {c c' : CS} {M M' : MS} {o o' : Nat → Int64} {i : Int32} (C : zC E X RL cL_law 7 ret 17) (hst : (xl X).stackTraces = false) (G : zG9 E X b L sc) (hk : k + 1 ≤ (xR X).cells ∧ n + 6 ≤ (xR X).slots) (hk0 : k ≤ (xR X).cells ∧ n ≤ (xR X).slots) (h1 : vp_in (i + 1) L) (h2 : vp_in (i + 2) L) (h3 : vp_in (i + 3) L) (A : A_chain c M o (sc (i + 1).toNatClampNeg) (sc (i + 2).toNatClampNeg) (sc (i + 3).toNatClampNeg) c' M' o') (K : zW E X 7 (k + 1) (n + 6) Q 1492 (wL E o' M' c') (lwv E b i) []) : zW E X 7 k n Q 1056 (wL E o M c) (lwv E b i) [] := by
  obtain ⟨n1, n2, kx, bx, hL, hM, hT, hv⟩ := A
  refine z_aload_n C dL_law_1056 1 rfl ?_
  refine z_aload_n C dL_law_1057 0 rfl ?_
  refine z_iload C dL_law_1058 4 rfl ?_
  refine z_iconst C (1 : Int32) dL_law_1060 (by decide) ?_
  refine z_iadd C dL_law_1061 ?_
  refine z_sld C G h1 dL_law_1062 ?_
  refine z_aload_n C dL_law_1063 0 rfl ?_
  refine z_iload C dL_law_1064 4 rfl ?_
  refine z_iconst C (2 : Int32) dL_law_1066 (by decide) ?_
  refine z_iadd C dL_law_1067 ?_
  refine z_sld C G h2 dL_law_1068 ?_
  refine z_aload_n C dL_law_1069 3 rfl ?_
  refine z_callSW C 1073 [.ref (zN E), .int (sc (i + 1).toNatClampNeg), .int (sc (i + 2).toNatClampNeg), .ref (zN E + 233)] [] (ct_L_chain (x := zN E) wL_o (Or.inr (by omega)) hst hL) co_L_chain ml_L_155 st_L_chain ini_L ⟨by decide +kernel, by decide +kernel, by show _ = some 4; decide +kernel⟩ (by decide) (by decide) rfl (Nat.le_of_ble_eq_true rfl) hk rfl dL_law_1070 ?_
  refine z_heap wL_w ?_
  refine z_istore C dL_law_1073 (by decide) rfl ?_
  refine z_aload_n C dL_law_1075 3 rfl ?_
  refine z_aload_n C dL_law_1076 1 rfl ?_
  refine z_iload C dL_law_1077 5 rfl ?_
  refine z_iconst C (1 : Int32) dL_law_1079 (by decide) ?_
  refine z_iadd C dL_law_1080 ?_
  refine z_sld C G h1 dL_law_1081 ?_
  refine z_aload_n C dL_law_1082 1 rfl ?_
  refine z_iload C dL_law_1083 5 rfl ?_
  refine z_iconst C (2 : Int32) dL_law_1085 (by decide) ?_
  refine z_iadd C dL_law_1086 ?_
  refine z_sld C G h2 dL_law_1087 ?_
  refine z_heap wL_M ?_
  refine z_callV (Cn := RX6) (T := TX6) (N := 14) (ci := 6) C 1091 [.int (sc (i + 1).toNatClampNeg), .int (sc (i + 2).toNatClampNeg)] [] (ct_X6_chain hM) co_X6_chain ml_L_157 im_X6_chain se_X6_chain ini_X6 rfl pM_o ⟨rfl, by decide +kernel, by decide +kernel, by show _ = some 2; decide +kernel⟩ (by decide) (by decide) rfl (Nat.le_of_ble_eq_true rfl) hk rfl dL_law_1088 ?_
  refine z_heap wL_M.symm ?_
  refine z_istore C dL_law_1091 (by decide) rfl ?_
  refine z_aload_n C dL_law_1093 4 rfl ?_
  refine z_heap wL_M ?_
  refine z_callV (Cn := RX6) (T := TX6) (N := 14) (ci := 6) C 1097 [] [] (ct_X6_thrown hT) co_X6_thrown ml_L_91 im_X6_thrown se_X6_thrown ini_X6 rfl pM_o ⟨rfl, by decide +kernel, by decide +kernel, by decide +kernel⟩ (by decide) (by decide) rfl (Nat.le_of_ble_eq_true rfl) hk rfl dL_law_1094 ?_
  refine z_heap wL_M.symm ?_
  refine z_iload C dL_law_1097 1 rfl ?_
  refine z_icmp_eq C 1104 dL_law_1099 (by decide) (fun _ => ?_) (fun q => absurd rfl q)
  refine z_iload C dL_law_1104 1 rfl ?_
  refine z_if_ne C 1121 dL_law_1106 (by decide) (fun _ => ?_) (fun e0 => ?_)
  · refine z_goto C 1492 dL_law_1121 (by decide) ?_
    exact z_sub [2, 3, 4, 5, 6] rfl K
  · refine z_aload_n C dL_law_1109 5 rfl ?_
    refine z_iconst C (0 : Int32) dL_law_1110 (by decide) ?_
    refine z_lald (N := 1) C wL_o2 (by unfold vp_in; decide) dL_law_1111 ?_
    refine z_iload C dL_law_1112 0 rfl ?_
    refine z_i2l C dL_law_1114 ?_
    refine z_lcmp C dL_law_1115 ?_
    refine z_if_eq C 1121 dL_law_1116 (by decide) (fun _ => ?_) (fun q => absurd ((congrArg (fun z => lg_cmp z _) (hv e0)).trans (lg_cmp_self _)) q)
    refine z_goto C 1492 dL_law_1121 (by decide) ?_
    exact z_sub [2, 3, 4, 5, 6] rfl K
def A_reach (c : CS) (M : MS) (o : Nat → Int64) (a1 a2 a3 : Int32) (c' : CS) (M' : MS) (o' : Nat → Int64) : Prop := ∃ (n1 n2 : Nat) (k b : Int32), f_L_reach n1 c a1 o = some (k, c', o') ∧ f_X6_reach n2 M a1 = some (M', b) ∧ f_X6_thrown M' = some k ∧ (k = 0 → o' 0 = b.toInt64)
set_option maxRecDepth 100000 in
set_option maxHeartbeats 4000000 in
theorem cs_reach {E : zE} {X : zX} {ret : Option FieldType} {b L k n : Nat} {sc : Nat → Int32} {Q : State → Prop} {c c' : CS} {M M' : MS} {o o' : Nat → Int64} {i : Int32} (C : zC E X RL cL_law 7 ret 17) (hst : (xl X).stackTraces = false) (G : zG9 E X b L sc) (hk : k + 1 ≤ (xR X).cells ∧ n + 6 ≤ (xR X).slots) (hk0 : k ≤ (xR X).cells ∧ n ≤ (xR X).slots) (h1 : vp_in (i + 1) L) (h2 : vp_in (i + 2) L) (h3 : vp_in (i + 3) L) (A : A_reach c M o (sc (i + 1).toNatClampNeg) (sc (i + 2).toNatClampNeg) (sc (i + 3).toNatClampNeg) c' M' o') (K : zW E X 7 (k + 1) (n + 6) Q 1492 (wL E o' M' c') (lwv E b i) []) : zW E X 7 k n Q 1124 (wL E o M c) (lwv E b i) [] := by
  obtain ⟨n1, n2, kx, bx, hL, hM, hT, hv⟩ := A
  refine z_aload_n C dL_law_1124 1 rfl ?_
  refine z_aload_n C dL_law_1125 0 rfl ?_
  refine z_iload C dL_law_1126 4 rfl ?_
  refine z_iconst C (1 : Int32) dL_law_1128 (by decide) ?_
  refine z_iadd C dL_law_1129 ?_
  refine z_sld C G h1 dL_law_1130 ?_
  refine z_aload_n C dL_law_1131 3 rfl ?_
  refine z_callSW C 1135 [.ref (zN E), .int (sc (i + 1).toNatClampNeg), .ref (zN E + 233)] [] (ct_L_reach (x := zN E) wL_o (Or.inr (by omega)) hst hL) co_L_reach ml_L_158 st_L_reach ini_L ⟨by decide +kernel, by decide +kernel, by show _ = some 3; decide +kernel⟩ (by decide) (by decide) rfl (Nat.le_of_ble_eq_true rfl) hk rfl dL_law_1132 ?_
  refine z_heap wL_w ?_
  refine z_istore C dL_law_1135 (by decide) rfl ?_
  refine z_aload_n C dL_law_1137 3 rfl ?_
  refine z_aload_n C dL_law_1138 1 rfl ?_
  refine z_iload C dL_law_1139 5 rfl ?_
  refine z_iconst C (1 : Int32) dL_law_1141 (by decide) ?_
  refine z_iadd C dL_law_1142 ?_
  refine z_sld C G h1 dL_law_1143 ?_
  refine z_heap wL_M ?_
  refine z_callV (Cn := RX6) (T := TX6) (N := 14) (ci := 6) C 1147 [.int (sc (i + 1).toNatClampNeg)] [] (ct_X6_reach hM) co_X6_reach ml_L_160 im_X6_reach se_X6_reach ini_X6 rfl pM_o ⟨rfl, by decide +kernel, by decide +kernel, by show _ = some 1; decide +kernel⟩ (by decide) (by decide) rfl (Nat.le_of_ble_eq_true rfl) hk rfl dL_law_1144 ?_
  refine z_heap wL_M.symm ?_
  refine z_istore C dL_law_1147 (by decide) rfl ?_
  refine z_aload_n C dL_law_1149 4 rfl ?_
  refine z_heap wL_M ?_
  refine z_callV (Cn := RX6) (T := TX6) (N := 14) (ci := 6) C 1153 [] [] (ct_X6_thrown hT) co_X6_thrown ml_L_91 im_X6_thrown se_X6_thrown ini_X6 rfl pM_o ⟨rfl, by decide +kernel, by decide +kernel, by decide +kernel⟩ (by decide) (by decide) rfl (Nat.le_of_ble_eq_true rfl) hk rfl dL_law_1150 ?_
  refine z_heap wL_M.symm ?_
  refine z_iload C dL_law_1153 1 rfl ?_
  refine z_icmp_eq C 1160 dL_law_1155 (by decide) (fun _ => ?_) (fun q => absurd rfl q)
  refine z_iload C dL_law_1160 1 rfl ?_
  refine z_if_ne C 1177 dL_law_1162 (by decide) (fun _ => ?_) (fun e0 => ?_)
  · refine z_goto C 1492 dL_law_1177 (by decide) ?_
    exact z_sub [2, 3, 4, 5, 6] rfl K
  · refine z_aload_n C dL_law_1165 5 rfl ?_
    refine z_iconst C (0 : Int32) dL_law_1166 (by decide) ?_
    refine z_lald (N := 1) C wL_o2 (by unfold vp_in; decide) dL_law_1167 ?_
    refine z_iload C dL_law_1168 0 rfl ?_
    refine z_i2l C dL_law_1170 ?_
    refine z_lcmp C dL_law_1171 ?_
    refine z_if_eq C 1177 dL_law_1172 (by decide) (fun _ => ?_) (fun q => absurd ((congrArg (fun z => lg_cmp z _) (hv e0)).trans (lg_cmp_self _)) q)
    refine z_goto C 1492 dL_law_1177 (by decide) ?_
    exact z_sub [2, 3, 4, 5, 6] rfl K
def A_runScript (c : CS) (M : MS) (o : Nat → Int64) (a1 a2 a3 : Int32) (c' : CS) (M' : MS) (o' : Nat → Int64) : Prop := ∃ (n1 n2 : Nat) (k b : Int32), f_L_runScript n1 c a1 (lg2 a2 a3) o = some (k, c', o') ∧ f_X6_runScript n2 M a1 (lg2 a2 a3) = some (M', b) ∧ f_X6_thrown M' = some k ∧ (k = 0 → o' 0 = b.toInt64)
set_option maxRecDepth 100000 in
set_option maxHeartbeats 4000000 in
theorem cs_runScript {E : zE} {X : zX} {ret : Option FieldType} {b L k n : Nat} {sc : Nat → Int32} {Q : State → Prop} {c c' : CS} {M M' : MS} {o o' : Nat → Int64} {i : Int32} (C : zC E X RL cL_law 7 ret 17) (hst : (xl X).stackTraces = false) (G : zG9 E X b L sc) (hk : k + 1 ≤ (xR X).cells ∧ n + 6 ≤ (xR X).slots) (hk0 : k ≤ (xR X).cells ∧ n ≤ (xR X).slots) (h1 : vp_in (i + 1) L) (h2 : vp_in (i + 2) L) (h3 : vp_in (i + 3) L) (A : A_runScript c M o (sc (i + 1).toNatClampNeg) (sc (i + 2).toNatClampNeg) (sc (i + 3).toNatClampNeg) c' M' o') (K : zW E X 7 (k + 1) (n + 6) Q 1492 (wL E o' M' c') (lwv E b i) []) : zW E X 7 k n Q 1180 (wL E o M c) (lwv E b i) [] := by
  obtain ⟨n1, n2, kx, bx, hL, hM, hT, hv⟩ := A
  refine z_aload_n C dL_law_1180 1 rfl ?_
  refine z_aload_n C dL_law_1181 0 rfl ?_
  refine z_iload C dL_law_1182 4 rfl ?_
  refine z_iconst C (1 : Int32) dL_law_1184 (by decide) ?_
  refine z_iadd C dL_law_1185 ?_
  refine z_sld C G h1 dL_law_1186 ?_
  refine z_aload_n C dL_law_1187 0 rfl ?_
  refine z_iload C dL_law_1188 4 rfl ?_
  refine z_iconst C (2 : Int32) dL_law_1190 (by decide) ?_
  refine z_iadd C dL_law_1191 ?_
  refine z_sld C G h2 dL_law_1192 ?_
  refine z_i2l C dL_law_1193 ?_
  refine z_bipush C (32 : Int32) dL_law_1194 (by decide) ?_
  refine z_lshl C dL_law_1196 ?_
  refine z_aload_n C dL_law_1197 0 rfl ?_
  refine z_iload C dL_law_1198 4 rfl ?_
  refine z_iconst C (3 : Int32) dL_law_1200 (by decide) ?_
  refine z_iadd C dL_law_1201 ?_
  refine z_sld C G h3 dL_law_1202 ?_
  refine z_i2l C dL_law_1203 ?_
  refine z_ldc2 C (4294967295 : Int64) dL_law_1204 cn_L_125 ?_
  refine z_land C dL_law_1207 ?_
  refine z_lor C dL_law_1208 ?_
  refine z_aload_n C dL_law_1209 3 rfl ?_
  refine z_callSW C 1213 [.ref (zN E), .int (sc (i + 1).toNatClampNeg), .long (lg2 (sc (i + 2).toNatClampNeg) (sc (i + 3).toNatClampNeg)), .ref (zN E + 233)] [] (ct_L_runScript (x := zN E) wL_o (Or.inr (by omega)) hst hL) co_L_runScript ml_L_161 st_L_runScript ini_L ⟨by decide +kernel, by decide +kernel, by show _ = some 4; decide +kernel⟩ (by decide) (by decide) rfl (Nat.le_of_ble_eq_true rfl) hk rfl dL_law_1210 ?_
  refine z_heap wL_w ?_
  refine z_istore C dL_law_1213 (by decide) rfl ?_
  refine z_aload_n C dL_law_1215 3 rfl ?_
  refine z_aload_n C dL_law_1216 1 rfl ?_
  refine z_iload C dL_law_1217 5 rfl ?_
  refine z_iconst C (1 : Int32) dL_law_1219 (by decide) ?_
  refine z_iadd C dL_law_1220 ?_
  refine z_sld C G h1 dL_law_1221 ?_
  refine z_aload_n C dL_law_1222 1 rfl ?_
  refine z_iload C dL_law_1223 5 rfl ?_
  refine z_iconst C (2 : Int32) dL_law_1225 (by decide) ?_
  refine z_iadd C dL_law_1226 ?_
  refine z_sld C G h2 dL_law_1227 ?_
  refine z_i2l C dL_law_1228 ?_
  refine z_bipush C (32 : Int32) dL_law_1229 (by decide) ?_
  refine z_lshl C dL_law_1231 ?_
  refine z_aload_n C dL_law_1232 1 rfl ?_
  refine z_iload C dL_law_1233 5 rfl ?_
  refine z_iconst C (3 : Int32) dL_law_1235 (by decide) ?_
  refine z_iadd C dL_law_1236 ?_
  refine z_sld C G h3 dL_law_1237 ?_
  refine z_i2l C dL_law_1238 ?_
  refine z_ldc2 C (4294967295 : Int64) dL_law_1239 cn_L_125 ?_
  refine z_land C dL_law_1242 ?_
  refine z_lor C dL_law_1243 ?_
  refine z_heap wL_M ?_
  refine z_callV (Cn := RX6) (T := TX6) (N := 14) (ci := 6) C 1247 [.int (sc (i + 1).toNatClampNeg), .long (lg2 (sc (i + 2).toNatClampNeg) (sc (i + 3).toNatClampNeg))] [] (ct_X6_runScript hM) co_X6_runScript ml_L_163 im_X6_runScript se_X6_runScript ini_X6 rfl pM_o ⟨rfl, by decide +kernel, by decide +kernel, by show _ = some 2; decide +kernel⟩ (by decide) (by decide) rfl (Nat.le_of_ble_eq_true rfl) hk rfl dL_law_1244 ?_
  refine z_heap wL_M.symm ?_
  refine z_istore C dL_law_1247 (by decide) rfl ?_
  refine z_aload_n C dL_law_1249 4 rfl ?_
  refine z_heap wL_M ?_
  refine z_callV (Cn := RX6) (T := TX6) (N := 14) (ci := 6) C 1253 [] [] (ct_X6_thrown hT) co_X6_thrown ml_L_91 im_X6_thrown se_X6_thrown ini_X6 rfl pM_o ⟨rfl, by decide +kernel, by decide +kernel, by decide +kernel⟩ (by decide) (by decide) rfl (Nat.le_of_ble_eq_true rfl) hk rfl dL_law_1250 ?_
  refine z_heap wL_M.symm ?_
  refine z_iload C dL_law_1253 1 rfl ?_
  refine z_icmp_eq C 1260 dL_law_1255 (by decide) (fun _ => ?_) (fun q => absurd rfl q)
  refine z_iload C dL_law_1260 1 rfl ?_
  refine z_if_ne C 1277 dL_law_1262 (by decide) (fun _ => ?_) (fun e0 => ?_)
  · refine z_goto C 1492 dL_law_1277 (by decide) ?_
    exact z_sub [2, 3, 4, 5, 6] rfl K
  · refine z_aload_n C dL_law_1265 5 rfl ?_
    refine z_iconst C (0 : Int32) dL_law_1266 (by decide) ?_
    refine z_lald (N := 1) C wL_o2 (by unfold vp_in; decide) dL_law_1267 ?_
    refine z_iload C dL_law_1268 0 rfl ?_
    refine z_i2l C dL_law_1270 ?_
    refine z_lcmp C dL_law_1271 ?_
    refine z_if_eq C 1277 dL_law_1272 (by decide) (fun _ => ?_) (fun q => absurd ((congrArg (fun z => lg_cmp z _) (hv e0)).trans (lg_cmp_self _)) q)
    refine z_goto C 1492 dL_law_1277 (by decide) ?_
    exact z_sub [2, 3, 4, 5, 6] rfl K
def A_simulate (c : CS) (M : MS) (o : Nat → Int64) (a1 a2 a3 : Int32) (c' : CS) (M' : MS) (o' : Nat → Int64) : Prop := ∃ (n1 n2 : Nat) (k b : Int32), f_L_simulate n1 c (lg2 a1 a2) a3 o = some (k, c', o') ∧ f_X6_simulate n2 M (lg2 a1 a2) a3 = some (M', b) ∧ f_X6_thrown M' = some k ∧ (k = 0 → o' 0 = b.toInt64)
set_option maxRecDepth 100000 in
set_option maxHeartbeats 4000000 in
theorem cs_simulate {E : zE} {X : zX} {ret : Option FieldType} {b L k n : Nat} {sc : Nat → Int32} {Q : State → Prop} {c c' : CS} {M M' : MS} {o o' : Nat → Int64} {i : Int32} (C : zC E X RL cL_law 7 ret 17) (hst : (xl X).stackTraces = false) (G : zG9 E X b L sc) (hk : k + 1 ≤ (xR X).cells ∧ n + 6 ≤ (xR X).slots) (hk0 : k ≤ (xR X).cells ∧ n ≤ (xR X).slots) (h1 : vp_in (i + 1) L) (h2 : vp_in (i + 2) L) (h3 : vp_in (i + 3) L) (A : A_simulate c M o (sc (i + 1).toNatClampNeg) (sc (i + 2).toNatClampNeg) (sc (i + 3).toNatClampNeg) c' M' o') (K : zW E X 7 (k + 1) (n + 6) Q 1492 (wL E o' M' c') (lwv E b i) []) : zW E X 7 k n Q 1280 (wL E o M c) (lwv E b i) [] := by
  obtain ⟨n1, n2, kx, bx, hL, hM, hT, hv⟩ := A
  refine z_aload_n C dL_law_1280 1 rfl ?_
  refine z_aload_n C dL_law_1281 0 rfl ?_
  refine z_iload C dL_law_1282 4 rfl ?_
  refine z_iconst C (1 : Int32) dL_law_1284 (by decide) ?_
  refine z_iadd C dL_law_1285 ?_
  refine z_sld C G h1 dL_law_1286 ?_
  refine z_i2l C dL_law_1287 ?_
  refine z_bipush C (32 : Int32) dL_law_1288 (by decide) ?_
  refine z_lshl C dL_law_1290 ?_
  refine z_aload_n C dL_law_1291 0 rfl ?_
  refine z_iload C dL_law_1292 4 rfl ?_
  refine z_iconst C (2 : Int32) dL_law_1294 (by decide) ?_
  refine z_iadd C dL_law_1295 ?_
  refine z_sld C G h2 dL_law_1296 ?_
  refine z_i2l C dL_law_1297 ?_
  refine z_ldc2 C (4294967295 : Int64) dL_law_1298 cn_L_125 ?_
  refine z_land C dL_law_1301 ?_
  refine z_lor C dL_law_1302 ?_
  refine z_aload_n C dL_law_1303 0 rfl ?_
  refine z_iload C dL_law_1304 4 rfl ?_
  refine z_iconst C (3 : Int32) dL_law_1306 (by decide) ?_
  refine z_iadd C dL_law_1307 ?_
  refine z_sld C G h3 dL_law_1308 ?_
  refine z_aload_n C dL_law_1309 3 rfl ?_
  refine z_callSW C 1313 [.ref (zN E), .long (lg2 (sc (i + 1).toNatClampNeg) (sc (i + 2).toNatClampNeg)), .int (sc (i + 3).toNatClampNeg), .ref (zN E + 233)] [] (ct_L_simulate (x := zN E) wL_o (Or.inr (by omega)) hst hL) co_L_simulate ml_L_164 st_L_simulate ini_L ⟨by decide +kernel, by decide +kernel, by show _ = some 4; decide +kernel⟩ (by decide) (by decide) rfl (Nat.le_of_ble_eq_true rfl) hk rfl dL_law_1310 ?_
  refine z_heap wL_w ?_
  refine z_istore C dL_law_1313 (by decide) rfl ?_
  refine z_aload_n C dL_law_1315 3 rfl ?_
  refine z_aload_n C dL_law_1316 1 rfl ?_
  refine z_iload C dL_law_1317 5 rfl ?_
  refine z_iconst C (1 : Int32) dL_law_1319 (by decide) ?_
  refine z_iadd C dL_law_1320 ?_
  refine z_sld C G h1 dL_law_1321 ?_
  refine z_i2l C dL_law_1322 ?_
  refine z_bipush C (32 : Int32) dL_law_1323 (by decide) ?_
  refine z_lshl C dL_law_1325 ?_
  refine z_aload_n C dL_law_1326 1 rfl ?_
  refine z_iload C dL_law_1327 5 rfl ?_
  refine z_iconst C (2 : Int32) dL_law_1329 (by decide) ?_
  refine z_iadd C dL_law_1330 ?_
  refine z_sld C G h2 dL_law_1331 ?_
  refine z_i2l C dL_law_1332 ?_
  refine z_ldc2 C (4294967295 : Int64) dL_law_1333 cn_L_125 ?_
  refine z_land C dL_law_1336 ?_
  refine z_lor C dL_law_1337 ?_
  refine z_aload_n C dL_law_1338 1 rfl ?_
  refine z_iload C dL_law_1339 5 rfl ?_
  refine z_iconst C (3 : Int32) dL_law_1341 (by decide) ?_
  refine z_iadd C dL_law_1342 ?_
  refine z_sld C G h3 dL_law_1343 ?_
  refine z_heap wL_M ?_
  refine z_callV (Cn := RX6) (T := TX6) (N := 14) (ci := 6) C 1347 [.long (lg2 (sc (i + 1).toNatClampNeg) (sc (i + 2).toNatClampNeg)), .int (sc (i + 3).toNatClampNeg)] [] (ct_X6_simulate hM) co_X6_simulate ml_L_167 im_X6_simulate se_X6_simulate ini_X6 rfl pM_o ⟨rfl, by decide +kernel, by decide +kernel, by show _ = some 2; decide +kernel⟩ (by decide) (by decide) rfl (Nat.le_of_ble_eq_true rfl) hk rfl dL_law_1344 ?_
  refine z_heap wL_M.symm ?_
  refine z_istore C dL_law_1347 (by decide) rfl ?_
  refine z_aload_n C dL_law_1349 4 rfl ?_
  refine z_heap wL_M ?_
  refine z_callV (Cn := RX6) (T := TX6) (N := 14) (ci := 6) C 1353 [] [] (ct_X6_thrown hT) co_X6_thrown ml_L_91 im_X6_thrown se_X6_thrown ini_X6 rfl pM_o ⟨rfl, by decide +kernel, by decide +kernel, by decide +kernel⟩ (by decide) (by decide) rfl (Nat.le_of_ble_eq_true rfl) hk rfl dL_law_1350 ?_
  refine z_heap wL_M.symm ?_
  refine z_iload C dL_law_1353 1 rfl ?_
  refine z_icmp_eq C 1360 dL_law_1355 (by decide) (fun _ => ?_) (fun q => absurd rfl q)
  refine z_iload C dL_law_1360 1 rfl ?_
  refine z_if_ne C 1377 dL_law_1362 (by decide) (fun _ => ?_) (fun e0 => ?_)
  · refine z_goto C 1492 dL_law_1377 (by decide) ?_
    exact z_sub [2, 3, 4, 5, 6] rfl K
  · refine z_aload_n C dL_law_1365 5 rfl ?_
    refine z_iconst C (0 : Int32) dL_law_1366 (by decide) ?_
    refine z_lald (N := 1) C wL_o2 (by unfold vp_in; decide) dL_law_1367 ?_
    refine z_iload C dL_law_1368 0 rfl ?_
    refine z_i2l C dL_law_1370 ?_
    refine z_lcmp C dL_law_1371 ?_
    refine z_if_eq C 1377 dL_law_1372 (by decide) (fun _ => ?_) (fun q => absurd ((congrArg (fun z => lg_cmp z _) (hv e0)).trans (lg_cmp_self _)) q)
    refine z_goto C 1492 dL_law_1377 (by decide) ?_
    exact z_sub [2, 3, 4, 5, 6] rfl K
def A_save (c : CS) (M : MS) (o : Nat → Int64) (a1 a2 a3 : Int32) (c' : CS) (M' : MS) (o' : Nat → Int64) : Prop := ∃ (n1 n2 : Nat) (k b : Int32), f_L_save c a1 o = some (k, c', o') ∧ f_X6_save n2 M a1 = some (M', b) ∧ f_X6_thrown M' = some k ∧ (k = 0 → o' 0 = b.toInt64)
set_option maxRecDepth 100000 in
set_option maxHeartbeats 4000000 in
theorem cs_save {E : zE} {X : zX} {ret : Option FieldType} {b L k n : Nat} {sc : Nat → Int32} {Q : State → Prop} {c c' : CS} {M M' : MS} {o o' : Nat → Int64} {i : Int32} (C : zC E X RL cL_law 7 ret 17) (hst : (xl X).stackTraces = false) (G : zG9 E X b L sc) (hk : k + 1 ≤ (xR X).cells ∧ n + 6 ≤ (xR X).slots) (hk0 : k ≤ (xR X).cells ∧ n ≤ (xR X).slots) (h1 : vp_in (i + 1) L) (h2 : vp_in (i + 2) L) (h3 : vp_in (i + 3) L) (A : A_save c M o (sc (i + 1).toNatClampNeg) (sc (i + 2).toNatClampNeg) (sc (i + 3).toNatClampNeg) c' M' o') (K : zW E X 7 (k + 1) (n + 6) Q 1492 (wL E o' M' c') (lwv E b i) []) : zW E X 7 k n Q 1380 (wL E o M c) (lwv E b i) [] := by
  obtain ⟨n1, n2, kx, bx, hL, hM, hT, hv⟩ := A
  refine z_aload_n C dL_law_1380 1 rfl ?_
  refine z_aload_n C dL_law_1381 0 rfl ?_
  refine z_iload C dL_law_1382 4 rfl ?_
  refine z_iconst C (1 : Int32) dL_law_1384 (by decide) ?_
  refine z_iadd C dL_law_1385 ?_
  refine z_sld C G h1 dL_law_1386 ?_
  refine z_aload_n C dL_law_1387 3 rfl ?_
  refine z_callSW C 1391 [.ref (zN E), .int (sc (i + 1).toNatClampNeg), .ref (zN E + 233)] [] (ct_L_save (x := zN E) wL_o (Or.inr (by omega)) hst hL) co_L_save ml_L_168 st_L_save ini_L ⟨by decide +kernel, by decide +kernel, by show _ = some 3; decide +kernel⟩ (by decide) (by decide) rfl (Nat.le_of_ble_eq_true rfl) hk rfl dL_law_1388 ?_
  refine z_heap wL_w ?_
  refine z_istore C dL_law_1391 (by decide) rfl ?_
  refine z_aload_n C dL_law_1393 3 rfl ?_
  refine z_aload_n C dL_law_1394 1 rfl ?_
  refine z_iload C dL_law_1395 5 rfl ?_
  refine z_iconst C (1 : Int32) dL_law_1397 (by decide) ?_
  refine z_iadd C dL_law_1398 ?_
  refine z_sld C G h1 dL_law_1399 ?_
  refine z_heap wL_M ?_
  refine z_callV (Cn := RX6) (T := TX6) (N := 14) (ci := 6) C 1403 [.int (sc (i + 1).toNatClampNeg)] [] (ct_X6_save hM) co_X6_save ml_L_170 im_X6_save se_X6_save ini_X6 rfl pM_o ⟨rfl, by decide +kernel, by decide +kernel, by show _ = some 1; decide +kernel⟩ (by decide) (by decide) rfl (Nat.le_of_ble_eq_true rfl) hk rfl dL_law_1400 ?_
  refine z_heap wL_M.symm ?_
  refine z_istore C dL_law_1403 (by decide) rfl ?_
  refine z_aload_n C dL_law_1405 4 rfl ?_
  refine z_heap wL_M ?_
  refine z_callV (Cn := RX6) (T := TX6) (N := 14) (ci := 6) C 1409 [] [] (ct_X6_thrown hT) co_X6_thrown ml_L_91 im_X6_thrown se_X6_thrown ini_X6 rfl pM_o ⟨rfl, by decide +kernel, by decide +kernel, by decide +kernel⟩ (by decide) (by decide) rfl (Nat.le_of_ble_eq_true rfl) hk rfl dL_law_1406 ?_
  refine z_heap wL_M.symm ?_
  refine z_iload C dL_law_1409 1 rfl ?_
  refine z_icmp_eq C 1416 dL_law_1411 (by decide) (fun _ => ?_) (fun q => absurd rfl q)
  refine z_iload C dL_law_1416 1 rfl ?_
  refine z_if_ne C 1433 dL_law_1418 (by decide) (fun _ => ?_) (fun e0 => ?_)
  · refine z_goto C 1492 dL_law_1433 (by decide) ?_
    exact z_sub [2, 3, 4, 5, 6] rfl K
  · refine z_aload_n C dL_law_1421 5 rfl ?_
    refine z_iconst C (0 : Int32) dL_law_1422 (by decide) ?_
    refine z_lald (N := 1) C wL_o2 (by unfold vp_in; decide) dL_law_1423 ?_
    refine z_iload C dL_law_1424 0 rfl ?_
    refine z_i2l C dL_law_1426 ?_
    refine z_lcmp C dL_law_1427 ?_
    refine z_if_eq C 1433 dL_law_1428 (by decide) (fun _ => ?_) (fun q => absurd ((congrArg (fun z => lg_cmp z _) (hv e0)).trans (lg_cmp_self _)) q)
    refine z_goto C 1492 dL_law_1433 (by decide) ?_
    exact z_sub [2, 3, 4, 5, 6] rfl K
def A_restore (c : CS) (M : MS) (o : Nat → Int64) (a1 a2 a3 : Int32) (c' : CS) (M' : MS) (o' : Nat → Int64) : Prop := ∃ (n1 n2 : Nat) (k b : Int32), f_L_restore c a1 o = some (k, c', o') ∧ f_X6_restore n2 M a1 = some (M', b) ∧ f_X6_thrown M' = some k ∧ (k = 0 → o' 0 = b.toInt64)
set_option maxRecDepth 100000 in
set_option maxHeartbeats 4000000 in
theorem cs_restore {E : zE} {X : zX} {ret : Option FieldType} {b L k n : Nat} {sc : Nat → Int32} {Q : State → Prop} {c c' : CS} {M M' : MS} {o o' : Nat → Int64} {i : Int32} (C : zC E X RL cL_law 7 ret 17) (hst : (xl X).stackTraces = false) (G : zG9 E X b L sc) (hk : k + 1 ≤ (xR X).cells ∧ n + 6 ≤ (xR X).slots) (hk0 : k ≤ (xR X).cells ∧ n ≤ (xR X).slots) (h1 : vp_in (i + 1) L) (h2 : vp_in (i + 2) L) (h3 : vp_in (i + 3) L) (A : A_restore c M o (sc (i + 1).toNatClampNeg) (sc (i + 2).toNatClampNeg) (sc (i + 3).toNatClampNeg) c' M' o') (K : zW E X 7 (k + 1) (n + 6) Q 1492 (wL E o' M' c') (lwv E b i) []) : zW E X 7 k n Q 1436 (wL E o M c) (lwv E b i) [] := by
  obtain ⟨n1, n2, kx, bx, hL, hM, hT, hv⟩ := A
  refine z_aload_n C dL_law_1436 1 rfl ?_
  refine z_aload_n C dL_law_1437 0 rfl ?_
  refine z_iload C dL_law_1438 4 rfl ?_
  refine z_iconst C (1 : Int32) dL_law_1440 (by decide) ?_
  refine z_iadd C dL_law_1441 ?_
  refine z_sld C G h1 dL_law_1442 ?_
  refine z_aload_n C dL_law_1443 3 rfl ?_
  refine z_callSW C 1447 [.ref (zN E), .int (sc (i + 1).toNatClampNeg), .ref (zN E + 233)] [] (ct_L_restore (x := zN E) wL_o (Or.inr (by omega)) hst hL) co_L_restore ml_L_171 st_L_restore ini_L ⟨by decide +kernel, by decide +kernel, by show _ = some 3; decide +kernel⟩ (by decide) (by decide) rfl (Nat.le_of_ble_eq_true rfl) hk rfl dL_law_1444 ?_
  refine z_heap wL_w ?_
  refine z_istore C dL_law_1447 (by decide) rfl ?_
  refine z_aload_n C dL_law_1449 3 rfl ?_
  refine z_aload_n C dL_law_1450 1 rfl ?_
  refine z_iload C dL_law_1451 5 rfl ?_
  refine z_iconst C (1 : Int32) dL_law_1453 (by decide) ?_
  refine z_iadd C dL_law_1454 ?_
  refine z_sld C G h1 dL_law_1455 ?_
  refine z_heap wL_M ?_
  refine z_callV (Cn := RX6) (T := TX6) (N := 14) (ci := 6) C 1459 [.int (sc (i + 1).toNatClampNeg)] [] (ct_X6_restore hM) co_X6_restore ml_L_173 im_X6_restore se_X6_restore ini_X6 rfl pM_o ⟨rfl, by decide +kernel, by decide +kernel, by show _ = some 1; decide +kernel⟩ (by decide) (by decide) rfl (Nat.le_of_ble_eq_true rfl) hk rfl dL_law_1456 ?_
  refine z_heap wL_M.symm ?_
  refine z_istore C dL_law_1459 (by decide) rfl ?_
  refine z_aload_n C dL_law_1461 4 rfl ?_
  refine z_heap wL_M ?_
  refine z_callV (Cn := RX6) (T := TX6) (N := 14) (ci := 6) C 1465 [] [] (ct_X6_thrown hT) co_X6_thrown ml_L_91 im_X6_thrown se_X6_thrown ini_X6 rfl pM_o ⟨rfl, by decide +kernel, by decide +kernel, by decide +kernel⟩ (by decide) (by decide) rfl (Nat.le_of_ble_eq_true rfl) hk rfl dL_law_1462 ?_
  refine z_heap wL_M.symm ?_
  refine z_iload C dL_law_1465 1 rfl ?_
  refine z_icmp_eq C 1472 dL_law_1467 (by decide) (fun _ => ?_) (fun q => absurd rfl q)
  refine z_iload C dL_law_1472 1 rfl ?_
  refine z_if_ne C 1489 dL_law_1474 (by decide) (fun _ => ?_) (fun e0 => ?_)
  · refine z_goto C 1492 dL_law_1489 (by decide) ?_
    exact z_sub [2, 3, 4, 5, 6] rfl K
  · refine z_aload_n C dL_law_1477 5 rfl ?_
    refine z_iconst C (0 : Int32) dL_law_1478 (by decide) ?_
    refine z_lald (N := 1) C wL_o2 (by unfold vp_in; decide) dL_law_1479 ?_
    refine z_iload C dL_law_1480 0 rfl ?_
    refine z_i2l C dL_law_1482 ?_
    refine z_lcmp C dL_law_1483 ?_
    refine z_if_eq C 1489 dL_law_1484 (by decide) (fun _ => ?_) (fun q => absurd ((congrArg (fun z => lg_cmp z _) (hv e0)).trans (lg_cmp_self _)) q)
    refine z_goto C 1492 dL_law_1489 (by decide) ?_
    exact z_sub [2, 3, 4, 5, 6] rfl K
def Agree (op a1 a2 a3 : Int32) (c : CS) (M : MS) (o : Nat → Int64) (c' : CS) (M' : MS) (o' : Nat → Int64) : Prop :=
  if op = 0 then A_append c M o a1 a2 a3 c' M' o' else if op = 1 then A_clearText c M o a1 a2 a3 c' M' o' else if op = 2 then A_errorPosition c M o a1 a2 a3 c' M' o' else if op = 3 then A_load c M o a1 a2 a3 c' M' o' else if op = 4 then A_about c M o a1 a2 a3 c' M' o' else if op = 5 then A_tileOf c M o a1 a2 a3 c' M' o' else if op = 6 then A_laid c M o a1 a2 a3 c' M' o' else if op = 7 then A_playerOf c M o a1 a2 a3 c' M' o' else if op = 8 then A_at c M o a1 a2 a3 c' M' o' else if op = 9 then A_free c M o a1 a2 a3 c' M' o' else if op = 10 then A_deal c M o a1 a2 a3 c' M' o' else if op = 11 then A_play c M o a1 a2 a3 c' M' o' else if op = 12 then A_draw c M o a1 a2 a3 c' M' o' else if op = 13 then A_pass c M o a1 a2 a3 c' M' o' else if op = 14 then A_undo c M o a1 a2 a3 c' M' o' else if op = 15 then A_why c M o a1 a2 a3 c' M' o' else if op = 16 then A_legal c M o a1 a2 a3 c' M' o' else if op = 17 then A_best c M o a1 a2 a3 c' M' o' else if op = 18 then A_chain c M o a1 a2 a3 c' M' o' else if op = 19 then A_reach c M o a1 a2 a3 c' M' o' else if op = 20 then A_runScript c M o a1 a2 a3 c' M' o' else if op = 21 then A_simulate c M o a1 a2 a3 c' M' o' else if op = 22 then A_save c M o a1 a2 a3 c' M' o' else if op = 23 then A_restore c M o a1 a2 a3 c' M' o' else c' = c ∧ M' = M ∧ o' = o
set_option maxRecDepth 100000 in
set_option maxHeartbeats 4000000 in
theorem cs_any {E : zE} {X : zX} {ret : Option FieldType} {b L k n : Nat} {sc : Nat → Int32} {Q : State → Prop} {c c' : CS} {M M' : MS} {o o' : Nat → Int64} {i op : Int32} (C : zC E X RL cL_law 7 ret 17) (hst : (xl X).stackTraces = false) (G : zG9 E X b L sc) (hk : k + 1 ≤ (xR X).cells ∧ n + 6 ≤ (xR X).slots) (hk0 : k ≤ (xR X).cells ∧ n ≤ (xR X).slots) (h1 : vp_in (i + 1) L) (h2 : vp_in (i + 2) L) (h3 : vp_in (i + 3) L) (A : Agree op (sc (i + 1).toNatClampNeg) (sc (i + 2).toNatClampNeg) (sc (i + 3).toNatClampNeg) c M o c' M' o') (K : zW E X 7 (k + 1) (n + 6) Q 1492 (wL E o' M' c') (lwv E b i) []) : zW E X 7 k n Q 39 (wL E o M c) (lwv E b i) [.int op] := by
  unfold Agree at A
  by_cases e0 : op = (0 : Int32)
  · rw [if_pos e0] at A
    refine z_stk (congrArg (fun z => Value.int z :: []) e0) ?_
    refine z_tableIn C 109 148 dL_law_39 (by decide) (by decide) (by decide) (by decide) ?_
    exact cs_append C hst G hk hk0 h1 h2 h3 A K
  rw [if_neg e0] at A
  by_cases e1 : op = (1 : Int32)
  · rw [if_pos e1] at A
    refine z_stk (congrArg (fun z => Value.int z :: []) e1) ?_
    refine z_tableIn C 165 204 dL_law_39 (by decide) (by decide) (by decide) (by decide) ?_
    exact cs_clearText C hst G hk hk0 h1 h2 h3 A K
  rw [if_neg e1] at A
  by_cases e2 : op = (2 : Int32)
  · rw [if_pos e2] at A
    refine z_stk (congrArg (fun z => Value.int z :: []) e2) ?_
    refine z_tableIn C 178 217 dL_law_39 (by decide) (by decide) (by decide) (by decide) ?_
    exact cs_errorPosition C hst G hk hk0 h1 h2 h3 A K
  rw [if_neg e2] at A
  by_cases e3 : op = (3 : Int32)
  · rw [if_pos e3] at A
    refine z_stk (congrArg (fun z => Value.int z :: []) e3) ?_
    refine z_tableIn C 191 230 dL_law_39 (by decide) (by decide) (by decide) (by decide) ?_
    exact cs_load C hst G hk hk0 h1 h2 h3 A K
  rw [if_neg e3] at A
  by_cases e4 : op = (4 : Int32)
  · rw [if_pos e4] at A
    refine z_stk (congrArg (fun z => Value.int z :: []) e4) ?_
    refine z_tableIn C 235 274 dL_law_39 (by decide) (by decide) (by decide) (by decide) ?_
    exact cs_about C hst G hk hk0 h1 h2 h3 A K
  rw [if_neg e4] at A
  by_cases e5 : op = (5 : Int32)
  · rw [if_pos e5] at A
    refine z_stk (congrArg (fun z => Value.int z :: []) e5) ?_
    refine z_tableIn C 291 330 dL_law_39 (by decide) (by decide) (by decide) (by decide) ?_
    exact cs_tileOf C hst G hk hk0 h1 h2 h3 A K
  rw [if_neg e5] at A
  by_cases e6 : op = (6 : Int32)
  · rw [if_pos e6] at A
    refine z_stk (congrArg (fun z => Value.int z :: []) e6) ?_
    refine z_tableIn C 359 398 dL_law_39 (by decide) (by decide) (by decide) (by decide) ?_
    exact cs_laid C hst G hk hk0 h1 h2 h3 A K
  rw [if_neg e6] at A
  by_cases e7 : op = (7 : Int32)
  · rw [if_pos e7] at A
    refine z_stk (congrArg (fun z => Value.int z :: []) e7) ?_
    refine z_tableIn C 427 466 dL_law_39 (by decide) (by decide) (by decide) (by decide) ?_
    exact cs_playerOf C hst G hk hk0 h1 h2 h3 A K
  rw [if_neg e7] at A
  by_cases e8 : op = (8 : Int32)
  · rw [if_pos e8] at A
    refine z_stk (congrArg (fun z => Value.int z :: []) e8) ?_
    refine z_tableIn C 495 534 dL_law_39 (by decide) (by decide) (by decide) (by decide) ?_
    exact cs_at C hst G hk hk0 h1 h2 h3 A K
  rw [if_neg e8] at A
  by_cases e9 : op = (9 : Int32)
  · rw [if_pos e9] at A
    refine z_stk (congrArg (fun z => Value.int z :: []) e9) ?_
    refine z_tableIn C 563 602 dL_law_39 (by decide) (by decide) (by decide) (by decide) ?_
    exact cs_free C hst G hk hk0 h1 h2 h3 A K
  rw [if_neg e9] at A
  by_cases e10 : op = (10 : Int32)
  · rw [if_pos e10] at A
    refine z_stk (congrArg (fun z => Value.int z :: []) e10) ?_
    refine z_tableIn C 619 658 dL_law_39 (by decide) (by decide) (by decide) (by decide) ?_
    exact cs_deal C hst G hk hk0 h1 h2 h3 A K
  rw [if_neg e10] at A
  by_cases e11 : op = (11 : Int32)
  · rw [if_pos e11] at A
    refine z_stk (congrArg (fun z => Value.int z :: []) e11) ?_
    refine z_tableIn C 719 758 dL_law_39 (by decide) (by decide) (by decide) (by decide) ?_
    exact cs_play C hst G hk hk0 h1 h2 h3 A K
  rw [if_neg e11] at A
  by_cases e12 : op = (12 : Int32)
  · rw [if_pos e12] at A
    refine z_stk (congrArg (fun z => Value.int z :: []) e12) ?_
    refine z_tableIn C 803 842 dL_law_39 (by decide) (by decide) (by decide) (by decide) ?_
    exact cs_draw C hst G hk hk0 h1 h2 h3 A K
  rw [if_neg e12] at A
  by_cases e13 : op = (13 : Int32)
  · rw [if_pos e13] at A
    refine z_stk (congrArg (fun z => Value.int z :: []) e13) ?_
    refine z_tableIn C 847 886 dL_law_39 (by decide) (by decide) (by decide) (by decide) ?_
    exact cs_pass C hst G hk hk0 h1 h2 h3 A K
  rw [if_neg e13] at A
  by_cases e14 : op = (14 : Int32)
  · rw [if_pos e14] at A
    refine z_stk (congrArg (fun z => Value.int z :: []) e14) ?_
    refine z_tableIn C 891 930 dL_law_39 (by decide) (by decide) (by decide) (by decide) ?_
    exact cs_undo C hst G hk hk0 h1 h2 h3 A K
  rw [if_neg e14] at A
  by_cases e15 : op = (15 : Int32)
  · rw [if_pos e15] at A
    refine z_stk (congrArg (fun z => Value.int z :: []) e15) ?_
    refine z_tableIn C 935 974 dL_law_39 (by decide) (by decide) (by decide) (by decide) ?_
    exact cs_why C hst G hk hk0 h1 h2 h3 A K
  rw [if_neg e15] at A
  by_cases e16 : op = (16 : Int32)
  · rw [if_pos e16] at A
    refine z_stk (congrArg (fun z => Value.int z :: []) e16) ?_
    refine z_tableIn C 991 1030 dL_law_39 (by decide) (by decide) (by decide) (by decide) ?_
    exact cs_legal C hst G hk hk0 h1 h2 h3 A K
  rw [if_neg e16] at A
  by_cases e17 : op = (17 : Int32)
  · rw [if_pos e17] at A
    refine z_stk (congrArg (fun z => Value.int z :: []) e17) ?_
    refine z_tableIn C 1004 1043 dL_law_39 (by decide) (by decide) (by decide) (by decide) ?_
    exact cs_best C hst G hk hk0 h1 h2 h3 A K
  rw [if_neg e17] at A
  by_cases e18 : op = (18 : Int32)
  · rw [if_pos e18] at A
    refine z_stk (congrArg (fun z => Value.int z :: []) e18) ?_
    refine z_tableIn C 1017 1056 dL_law_39 (by decide) (by decide) (by decide) (by decide) ?_
    exact cs_chain C hst G hk hk0 h1 h2 h3 A K
  rw [if_neg e18] at A
  by_cases e19 : op = (19 : Int32)
  · rw [if_pos e19] at A
    refine z_stk (congrArg (fun z => Value.int z :: []) e19) ?_
    refine z_tableIn C 1085 1124 dL_law_39 (by decide) (by decide) (by decide) (by decide) ?_
    exact cs_reach C hst G hk hk0 h1 h2 h3 A K
  rw [if_neg e19] at A
  by_cases e20 : op = (20 : Int32)
  · rw [if_pos e20] at A
    refine z_stk (congrArg (fun z => Value.int z :: []) e20) ?_
    refine z_tableIn C 1141 1180 dL_law_39 (by decide) (by decide) (by decide) (by decide) ?_
    exact cs_runScript C hst G hk hk0 h1 h2 h3 A K
  rw [if_neg e20] at A
  by_cases e21 : op = (21 : Int32)
  · rw [if_pos e21] at A
    refine z_stk (congrArg (fun z => Value.int z :: []) e21) ?_
    refine z_tableIn C 1241 1280 dL_law_39 (by decide) (by decide) (by decide) (by decide) ?_
    exact cs_simulate C hst G hk hk0 h1 h2 h3 A K
  rw [if_neg e21] at A
  by_cases e22 : op = (22 : Int32)
  · rw [if_pos e22] at A
    refine z_stk (congrArg (fun z => Value.int z :: []) e22) ?_
    refine z_tableIn C 1341 1380 dL_law_39 (by decide) (by decide) (by decide) (by decide) ?_
    exact cs_save C hst G hk hk0 h1 h2 h3 A K
  rw [if_neg e22] at A
  by_cases e23 : op = (23 : Int32)
  · rw [if_pos e23] at A
    refine z_stk (congrArg (fun z => Value.int z :: []) e23) ?_
    refine z_tableIn C 1397 1436 dL_law_39 (by decide) (by decide) (by decide) (by decide) ?_
    exact cs_restore C hst G hk hk0 h1 h2 h3 A K
  rw [if_neg e23] at A
  obtain ⟨rfl, rfl, rfl⟩ := A
  refine z_tableOut C 1492 dL_law_39 (by have n0 := ne_toInt (v := (0 : Int32)) (z := 0) (by decide) e0; have n1 := ne_toInt (v := (1 : Int32)) (z := 1) (by decide) e1; have n2 := ne_toInt (v := (2 : Int32)) (z := 2) (by decide) e2; have n3 := ne_toInt (v := (3 : Int32)) (z := 3) (by decide) e3; have n4 := ne_toInt (v := (4 : Int32)) (z := 4) (by decide) e4; have n5 := ne_toInt (v := (5 : Int32)) (z := 5) (by decide) e5; have n6 := ne_toInt (v := (6 : Int32)) (z := 6) (by decide) e6; have n7 := ne_toInt (v := (7 : Int32)) (z := 7) (by decide) e7; have n8 := ne_toInt (v := (8 : Int32)) (z := 8) (by decide) e8; have n9 := ne_toInt (v := (9 : Int32)) (z := 9) (by decide) e9; have n10 := ne_toInt (v := (10 : Int32)) (z := 10) (by decide) e10; have n11 := ne_toInt (v := (11 : Int32)) (z := 11) (by decide) e11; have n12 := ne_toInt (v := (12 : Int32)) (z := 12) (by decide) e12; have n13 := ne_toInt (v := (13 : Int32)) (z := 13) (by decide) e13; have n14 := ne_toInt (v := (14 : Int32)) (z := 14) (by decide) e14; have n15 := ne_toInt (v := (15 : Int32)) (z := 15) (by decide) e15; have n16 := ne_toInt (v := (16 : Int32)) (z := 16) (by decide) e16; have n17 := ne_toInt (v := (17 : Int32)) (z := 17) (by decide) e17; have n18 := ne_toInt (v := (18 : Int32)) (z := 18) (by decide) e18; have n19 := ne_toInt (v := (19 : Int32)) (z := 19) (by decide) e19; have n20 := ne_toInt (v := (20 : Int32)) (z := 20) (by decide) e20; have n21 := ne_toInt (v := (21 : Int32)) (z := 21) (by decide) e21; have n22 := ne_toInt (v := (22 : Int32)) (z := 22) (by decide) e22; have n23 := ne_toInt (v := (23 : Int32)) (z := 23) (by decide) e23; omega) (by decide) ?_
  exact z_widen (Nat.le_succ _) (Nat.le_add_right _ _) K
