/-! X6_thrown: depth 1 -/
def f_X6_thrown (M : MS) : Option Int32 :=
  some (M.1 0)
set_option maxRecDepth 100000 in
set_option maxHeartbeats 4000000 in
theorem ct_X6_thrown {E : zE} {l : Launch} {h0 : Hp} {m : Nat} {M : MS} {r : Int32}  (hf : f_X6_thrown M = some r) : zM E l 1 yX6_thrown cX6_thrown 1 (some .int) [.ref m] (pM E h0 m M) (some (.int r)) (pM E h0 m M) := by
  refine zM_of (lv := [(0, .ref m)]) (by decide +kernel) (Nat.le_of_ble_eq_true rfl) rfl (fun X hX C => ?_)
  subst hX
  replace C : zC E X RX6 cX6_thrown 1 (some .int) 1 := C
  unfold f_X6_thrown at hf
  refine z_aload_n C dX6_thrown_0 0 rfl ?_
  refine gf_X6_42 C dX6_thrown_1 ?_
  obtain rfl := Option.some.inj hf
  exact z_ireturn C dX6_thrown_4
/-! X6_refused: depth 1 -/
def f_X6_refused (M : MS) (x1 : Int32) : Option ((MS) × Int32) :=
  if x1 ≤ 0 then (some (mS M 0 x1, (0 : Int32))) else (some (mS M 0 x1, (1 : Int32)))
set_option maxRecDepth 100000 in
set_option maxHeartbeats 4000000 in
theorem ct_X6_refused {E : zE} {l : Launch} {h0 : Hp} {m : Nat} {M : MS} {x1 : Int32} {r : ((MS) × Int32)}  (hf : f_X6_refused M x1 = some r) : zM E l 1 yX6_refused cX6_refused 2 (some .boolean) [.ref m, .int x1] (pM E h0 m M) (some (.int r.2)) (pM E h0 m r.1) := by
  refine zM_of (lv := [(0, .ref m), (1, .int x1)]) (by decide +kernel) (Nat.le_of_ble_eq_true rfl) rfl (fun X hX C => ?_)
  subst hX
  replace C : zC E X RX6 cX6_refused 2 (some .boolean) 1 := C
  unfold f_X6_refused at hf
  refine z_aload_n C dX6_refused_0 0 rfl ?_
  refine z_iload_n C dX6_refused_1 1 rfl ?_
  refine pf_X6_42 C dX6_refused_2 ?_
  refine z_iload_n C dX6_refused_5 1 rfl ?_
  refine z_if_le C 13 dX6_refused_6 (by decide) (fun c6 => ?_) (fun c6 => ?_)
  · replace hf := ip c6 hf
    refine z_iconst C (0 : Int32) dX6_refused_13 (by decide) ?_
    obtain rfl := Option.some.inj hf
    exact z_zreturn (v := (0 : Int32)) C (by decide) dX6_refused_14
  · replace hf := iN c6 hf
    refine z_iconst C (1 : Int32) dX6_refused_9 (by decide) ?_
    refine z_goto C 14 dX6_refused_10 (by decide) ?_
    obtain rfl := Option.some.inj hf
    exact z_zreturn (v := (1 : Int32)) C (by decide) dX6_refused_14
/-! X6_dealOn: depth 1 -/
def f_X6_dealOn_h166 (n : Nat) (j : Nat) (x2 : Int32) (y3 : Int64)  (K166 : MS → Int32 → Option ((MS) × Int32)) (M : MS) (x7 : Int32) : Option ((MS) × Int32) :=
  chk (inB (4 : Int32) 217) (if (M.2 j (4 : Int32).toNatClampNeg) ≤ x7 then (chk (inB (1 : Int32) 217) (chk (inB (2 : Int32) 217) (stt (mA (mA M j (upd (M.2 j) (1 : Int32).toNatClampNeg (1 : Int32))) j (upd ((mA M j (upd (M.2 j) (1 : Int32).toNatClampNeg (1 : Int32))).2 j) (2 : Int32).toNatClampNeg x2)) (fun Mn2 => chk (inB (0 : Int32) 217) (chk (¬ x2 = 0) (chk (inB (3 : Int32) 217) (stt (mA Mn2 j (upd (Mn2.2 j) (3 : Int32).toNatClampNeg (jrem (Mn2.2 j (0 : Int32).toNatClampNeg) x2))) (fun Mn3 => chk (inB (0 : Int32) 217) (chk (inB (0 : Int32) 217) (stt (mA Mn3 j (upd (Mn3.2 j) (0 : Int32).toNatClampNeg ((Mn3.2 j (0 : Int32).toNatClampNeg) + (1 : Int32)))) (fun Mn4 => chk (inB (5 : Int32) 217) (chk (inB (6 : Int32) 217) (stt (mA (mA Mn4 j (upd (Mn4.2 j) (5 : Int32).toNatClampNeg (0 : Int32))) j (upd ((mA Mn4 j (upd (Mn4.2 j) (5 : Int32).toNatClampNeg (0 : Int32))).2 j) (6 : Int32).toNatClampNeg (-1 : Int32))) (fun Mn5 => chk (inB (7 : Int32) 217) (chk (inB (8 : Int32) 217) (stt (mA (mA Mn5 j (upd (Mn5.2 j) (7 : Int32).toNatClampNeg (0 : Int32))) j (upd ((mA Mn5 j (upd (Mn5.2 j) (7 : Int32).toNatClampNeg (0 : Int32))).2 j) (8 : Int32).toNatClampNeg (0 : Int32))) (fun Mn6 => chk (inB (11 : Int32) 217) (chk (inB (12 : Int32) 217) (stt (mA (mA Mn6 j (upd (Mn6.2 j) (11 : Int32).toNatClampNeg (0 : Int32))) j (upd ((mA Mn6 j (upd (Mn6.2 j) (11 : Int32).toNatClampNeg (0 : Int32))).2 j) (12 : Int32).toNatClampNeg (0 : Int32))) (fun Mn7 => chk (inB (0 : Int32) 217) (some (Mn7, (Mn7.2 j (0 : Int32).toNatClampNeg))))))))))))))))))))))) else (chk (inB (((5 : Int32) * x2) + x7) 28) (chk (inB ((49 : Int32) + x7) 217) (stt (mA M j (upd (M.2 j) ((49 : Int32) + x7).toNatClampNeg (M.2 6 (((5 : Int32) * x2) + x7).toNatClampNeg))) (fun Mn8 => K166 Mn8 (x7 + 1))))))
set_option maxRecDepth 100000 in
set_option maxHeartbeats 4000000 in
theorem w_X6_dealOn_h166 {E : zE} {X : zX} {h0 : Hp} {m : Nat} {n : Nat} {j : Nat} {x2 : Int32} {y3 : Int64}  (hj : j = 1 ∨ j = 2) (C : zC E X RX6 cX6_dealOn 10 (some .int) 1)   : ∀ (q : Nat) (M : MS) (x7 : Int32) (r : ((MS) × Int32)), lo2 (f_X6_dealOn_h166 n j x2 y3) q M x7 = some r → zW E X 10 0 0 (MQ (xb X) (zQ E (some (.int r.2)) (pM E h0 m r.1)) (xa X) (xs X) 0 0 (zA E)) 166 (pM E h0 m M) [(0, .ref m), (1, .ref (m + 1 + j)), (2, .int x2), (7, .int x7)] [] := by
  refine lo2_ind _ ?_
  intro K166 hK166 M x7 r hf
  unfold f_X6_dealOn_h166 at hf
  refine z_iload C dX6_dealOn_166 3 rfl ?_
  refine z_aload_n C dX6_dealOn_168 1 rfl ?_
  refine z_iconst C (4 : Int32) dX6_dealOn_169 (by decide) ?_
  obtain ⟨c170, hf⟩ := chk_some hf
  refine z_iald C (pM_at hj) c170 dX6_dealOn_170 ?_
  refine z_icmp_ge C 198 dX6_dealOn_171 (by decide) (fun c171 => ?_) (fun c171 => ?_)
  · replace hf := ip c171 hf
    refine z_aload_n C dX6_dealOn_198 1 rfl ?_
    refine z_iconst C (1 : Int32) dX6_dealOn_199 (by decide) ?_
    refine z_iconst C (1 : Int32) dX6_dealOn_200 (by decide) ?_
    obtain ⟨c201, hf⟩ := chk_some hf
    refine z_iast C (pM_at hj) c201 dX6_dealOn_201 _ (pM_wt hj _) ?_
    refine z_aload_n C dX6_dealOn_202 1 rfl ?_
    refine z_iconst C (2 : Int32) dX6_dealOn_203 (by decide) ?_
    refine z_iload_n C dX6_dealOn_204 2 rfl ?_
    obtain ⟨c205, hf⟩ := chk_some hf
    refine z_iast C (pM_at hj) c205 dX6_dealOn_205 _ (pM_wt hj _) ?_
    obtain ⟨Mn2, eMn2, hf⟩ := st_some hf
    refine z_heap (congrArg (fun z => (pM E h0 m z)) eMn2.symm) ?_
    refine z_aload_n C dX6_dealOn_206 1 rfl ?_
    refine z_iconst C (3 : Int32) dX6_dealOn_207 (by decide) ?_
    refine z_aload_n C dX6_dealOn_208 1 rfl ?_
    refine z_iconst C (0 : Int32) dX6_dealOn_209 (by decide) ?_
    obtain ⟨c210, hf⟩ := chk_some hf
    refine z_iald C (pM_at hj) c210 dX6_dealOn_210 ?_
    refine z_iload_n C dX6_dealOn_211 2 rfl ?_
    obtain ⟨c212, hf⟩ := chk_some hf
    refine z_irem C dX6_dealOn_212 c212 ?_
    obtain ⟨c213, hf⟩ := chk_some hf
    refine z_iast C (pM_at hj) c213 dX6_dealOn_213 _ (pM_wt hj _) ?_
    obtain ⟨Mn3, eMn3, hf⟩ := st_some hf
    refine z_heap (congrArg (fun z => (pM E h0 m z)) eMn3.symm) ?_
    refine z_aload_n C dX6_dealOn_214 1 rfl ?_
    refine z_iconst C (0 : Int32) dX6_dealOn_215 (by decide) ?_
    refine z_dup2 C dX6_dealOn_216 rfl rfl ?_
    obtain ⟨c217, hf⟩ := chk_some hf
    refine z_iald C (pM_at hj) c217 dX6_dealOn_217 ?_
    refine z_iconst C (1 : Int32) dX6_dealOn_218 (by decide) ?_
    refine z_iadd C dX6_dealOn_219 ?_
    obtain ⟨c220, hf⟩ := chk_some hf
    refine z_iast C (pM_at hj) c220 dX6_dealOn_220 _ (pM_wt hj _) ?_
    obtain ⟨Mn4, eMn4, hf⟩ := st_some hf
    refine z_heap (congrArg (fun z => (pM E h0 m z)) eMn4.symm) ?_
    refine z_aload_n C dX6_dealOn_221 1 rfl ?_
    refine z_iconst C (5 : Int32) dX6_dealOn_222 (by decide) ?_
    refine z_iconst C (0 : Int32) dX6_dealOn_223 (by decide) ?_
    obtain ⟨c224, hf⟩ := chk_some hf
    refine z_iast C (pM_at hj) c224 dX6_dealOn_224 _ (pM_wt hj _) ?_
    refine z_aload_n C dX6_dealOn_225 1 rfl ?_
    refine z_bipush C (6 : Int32) dX6_dealOn_226 (by decide) ?_
    refine z_iconst C (-1 : Int32) dX6_dealOn_228 (by decide) ?_
    obtain ⟨c229, hf⟩ := chk_some hf
    refine z_iast C (pM_at hj) c229 dX6_dealOn_229 _ (pM_wt hj _) ?_
    obtain ⟨Mn5, eMn5, hf⟩ := st_some hf
    refine z_heap (congrArg (fun z => (pM E h0 m z)) eMn5.symm) ?_
    refine z_aload_n C dX6_dealOn_230 1 rfl ?_
    refine z_bipush C (7 : Int32) dX6_dealOn_231 (by decide) ?_
    refine z_iconst C (0 : Int32) dX6_dealOn_233 (by decide) ?_
    obtain ⟨c234, hf⟩ := chk_some hf
    refine z_iast C (pM_at hj) c234 dX6_dealOn_234 _ (pM_wt hj _) ?_
    refine z_aload_n C dX6_dealOn_235 1 rfl ?_
    refine z_bipush C (8 : Int32) dX6_dealOn_236 (by decide) ?_
    refine z_iconst C (0 : Int32) dX6_dealOn_238 (by decide) ?_
    obtain ⟨c239, hf⟩ := chk_some hf
    refine z_iast C (pM_at hj) c239 dX6_dealOn_239 _ (pM_wt hj _) ?_
    obtain ⟨Mn6, eMn6, hf⟩ := st_some hf
    refine z_heap (congrArg (fun z => (pM E h0 m z)) eMn6.symm) ?_
    refine z_aload_n C dX6_dealOn_240 1 rfl ?_
    refine z_bipush C (11 : Int32) dX6_dealOn_241 (by decide) ?_
    refine z_iconst C (0 : Int32) dX6_dealOn_243 (by decide) ?_
    obtain ⟨c244, hf⟩ := chk_some hf
    refine z_iast C (pM_at hj) c244 dX6_dealOn_244 _ (pM_wt hj _) ?_
    refine z_aload_n C dX6_dealOn_245 1 rfl ?_
    refine z_bipush C (12 : Int32) dX6_dealOn_246 (by decide) ?_
    refine z_iconst C (0 : Int32) dX6_dealOn_248 (by decide) ?_
    obtain ⟨c249, hf⟩ := chk_some hf
    refine z_iast C (pM_at hj) c249 dX6_dealOn_249 _ (pM_wt hj _) ?_
    obtain ⟨Mn7, eMn7, hf⟩ := st_some hf
    refine z_heap (congrArg (fun z => (pM E h0 m z)) eMn7.symm) ?_
    refine z_aload_n C dX6_dealOn_250 1 rfl ?_
    refine z_iconst C (0 : Int32) dX6_dealOn_251 (by decide) ?_
    obtain ⟨c252, hf⟩ := chk_some hf
    refine z_iald C (pM_at hj) c252 dX6_dealOn_252 ?_
    obtain rfl := Option.some.inj hf
    exact z_ireturn C dX6_dealOn_253
  · replace hf := iN c171 hf
    refine z_aload_n C dX6_dealOn_174 1 rfl ?_
    refine z_bipush C (49 : Int32) dX6_dealOn_175 (by decide) ?_
    refine z_iload C dX6_dealOn_177 3 rfl ?_
    refine z_iadd C dX6_dealOn_179 ?_
    refine z_aload_n C dX6_dealOn_180 0 rfl ?_
    refine gf_X6_29 C dX6_dealOn_181 ?_
    refine z_iconst C (5 : Int32) dX6_dealOn_184 (by decide) ?_
    refine z_iload_n C dX6_dealOn_185 2 rfl ?_
    refine z_imul C dX6_dealOn_186 ?_
    refine z_iload C dX6_dealOn_187 3 rfl ?_
    refine z_iadd C dX6_dealOn_189 ?_
    obtain ⟨c190, hf⟩ := chk_some hf
    refine z_iald C pM_a6 c190 dX6_dealOn_190 ?_
    obtain ⟨c191, hf⟩ := chk_some hf
    refine z_iast C (pM_at hj) c191 dX6_dealOn_191 _ (pM_wt hj _) ?_
    obtain ⟨Mn8, eMn8, hf⟩ := st_some hf
    refine z_heap (congrArg (fun z => (pM E h0 m z)) eMn8.symm) ?_
    refine z_iinc (lv' := [(7, .int (x7 + 1)), (0, .ref m), (1, .ref (m + 1 + j)), (2, .int x2)]) C dX6_dealOn_192 3 (x7 + 1) rfl rfl (by decide) rfl ?_
    refine z_goto C 166 dX6_dealOn_195 (by decide) ?_
    exact z_sub [1, 2, 3, 0] rfl (hK166 _ _ _ hf)
def f_X6_dealOn_b148 (n : Nat) (j : Nat) (x2 : Int32) (y3 : Int64) (K112 : MS → Int32 → Option ((MS) × Int32))  (M : MS) (x7 : Int32) (s0 : Int32) (s1 : Int32) : Option ((MS) × Int32) :=
  chk (inB s1 217) (chk (inB ((49 : Int32) + x7) 217) (stt (mA (mA M j (upd (M.2 j) s1.toNatClampNeg s0)) j (upd ((mA M j (upd (M.2 j) s1.toNatClampNeg s0)).2 j) ((49 : Int32) + x7).toNatClampNeg (0 : Int32))) (fun Mn9 => K112 Mn9 (x7 + 1))))
set_option maxRecDepth 100000 in
set_option maxHeartbeats 4000000 in
theorem w_X6_dealOn_b148 {E : zE} {X : zX} {h0 : Hp} {m : Nat} {n : Nat} {j : Nat} {x2 : Int32} {y3 : Int64} {K112 : MS → Int32 → Option ((MS) × Int32)} (hj : j = 1 ∨ j = 2) (C : zC E X RX6 cX6_dealOn 10 (some .int) 1)  (hK112 : ∀ (M : MS) (x7 : Int32) (r : ((MS) × Int32)), K112 M x7 = some r → zW E X 10 0 0 (MQ (xb X) (zQ E (some (.int r.2)) (pM E h0 m r.1)) (xa X) (xs X) 0 0 (zA E)) 112 (pM E h0 m M) [(0, .ref m), (1, .ref (m + 1 + j)), (2, .int x2), (7, .int x7)] []) {M : MS} {x7 : Int32} {s0 : Int32} {s1 : Int32} {r : ((MS) × Int32)} (hf : f_X6_dealOn_b148 n j x2 y3 K112 M x7 s0 s1 = some r) : zW E X 10 0 0 (MQ (xb X) (zQ E (some (.int r.2)) (pM E h0 m r.1)) (xa X) (xs X) 0 0 (zA E)) 148 (pM E h0 m M) [(0, .ref m), (1, .ref (m + 1 + j)), (2, .int x2), (7, .int x7)] [.int s0, .int s1, .ref (m + 1 + j)] := by
  unfold f_X6_dealOn_b148 at hf
  obtain ⟨c148, hf⟩ := chk_some hf
  refine z_iast C (pM_at hj) c148 dX6_dealOn_148 _ (pM_wt hj _) ?_
  refine z_aload_n C dX6_dealOn_149 1 rfl ?_
  refine z_bipush C (49 : Int32) dX6_dealOn_150 (by decide) ?_
  refine z_iload C dX6_dealOn_152 3 rfl ?_
  refine z_iadd C dX6_dealOn_154 ?_
  refine z_iconst C (0 : Int32) dX6_dealOn_155 (by decide) ?_
  obtain ⟨c156, hf⟩ := chk_some hf
  refine z_iast C (pM_at hj) c156 dX6_dealOn_156 _ (pM_wt hj _) ?_
  obtain ⟨Mn9, eMn9, hf⟩ := st_some hf
  refine z_heap (congrArg (fun z => (pM E h0 m z)) eMn9.symm) ?_
  refine z_iinc (lv' := [(7, .int (x7 + 1)), (0, .ref m), (1, .ref (m + 1 + j)), (2, .int x2)]) C dX6_dealOn_157 3 (x7 + 1) rfl rfl (by decide) rfl ?_
  refine z_goto C 112 dX6_dealOn_160 (by decide) ?_
  exact z_sub [1, 2, 3, 0] rfl (hK112 _ _ _ hf)
def f_X6_dealOn_h112 (n : Nat) (j : Nat) (x2 : Int32) (y3 : Int64)  (K112 : MS → Int32 → Option ((MS) × Int32)) (M : MS) (x7 : Int32) : Option ((MS) × Int32) :=
  if (28 : Int32) ≤ x7 then (lo2 (f_X6_dealOn_h166 n j x2 y3) n M (0 : Int32)) else (chk (¬ (5 : Int32) = 0) (chk (inB x7 28) (if x2 ≤ (x7 / (5 : Int32)) then (f_X6_dealOn_b148 n j x2 y3 K112 M x7 (-1 : Int32) ((21 : Int32) + (M.2 6 x7.toNatClampNeg))) else (f_X6_dealOn_b148 n j x2 y3 K112 M x7 (x7 / (5 : Int32)) ((21 : Int32) + (M.2 6 x7.toNatClampNeg))))))
set_option maxRecDepth 100000 in
set_option maxHeartbeats 4000000 in
theorem w_X6_dealOn_h112 {E : zE} {X : zX} {h0 : Hp} {m : Nat} {n : Nat} {j : Nat} {x2 : Int32} {y3 : Int64}  (hj : j = 1 ∨ j = 2) (C : zC E X RX6 cX6_dealOn 10 (some .int) 1)   : ∀ (q : Nat) (M : MS) (x7 : Int32) (r : ((MS) × Int32)), lo2 (f_X6_dealOn_h112 n j x2 y3) q M x7 = some r → zW E X 10 0 0 (MQ (xb X) (zQ E (some (.int r.2)) (pM E h0 m r.1)) (xa X) (xs X) 0 0 (zA E)) 112 (pM E h0 m M) [(0, .ref m), (1, .ref (m + 1 + j)), (2, .int x2), (7, .int x7)] [] := by
  refine lo2_ind _ ?_
  intro K112 hK112 M x7 r hf
  unfold f_X6_dealOn_h112 at hf
  refine z_iload C dX6_dealOn_112 3 rfl ?_
  refine z_bipush C (28 : Int32) dX6_dealOn_114 (by decide) ?_
  refine z_icmp_ge C 163 dX6_dealOn_116 (by decide) (fun c116 => ?_) (fun c116 => ?_)
  · replace hf := ip c116 hf
    refine z_iconst C (0 : Int32) dX6_dealOn_163 (by decide) ?_
    refine z_istore (lv' := [(7, .int (0 : Int32)), (0, .ref m), (1, .ref (m + 1 + j)), (2, .int x2)]) C dX6_dealOn_164 (by decide) rfl ?_
    exact z_sub [1, 2, 3, 0] rfl (w_X6_dealOn_h166 hj C n _ _ _ hf)
  · replace hf := iN c116 hf
    refine z_iload C dX6_dealOn_119 3 rfl ?_
    refine z_iconst C (5 : Int32) dX6_dealOn_121 (by decide) ?_
    obtain ⟨c122, hf⟩ := chk_some hf
    refine z_idiv C dX6_dealOn_122 c122 ?_
    refine z_istore (lv' := [(8, .int (x7 / (5 : Int32))), (0, .ref m), (1, .ref (m + 1 + j)), (2, .int x2), (7, .int x7)]) C dX6_dealOn_123 (by decide) rfl ?_
    refine z_aload_n C dX6_dealOn_125 2 rfl ?_
    refine z_bipush C (21 : Int32) dX6_dealOn_126 (by decide) ?_
    refine z_aload_n C dX6_dealOn_128 1 rfl ?_
    refine gf_X6_29 C dX6_dealOn_129 ?_
    refine z_iload C dX6_dealOn_132 4 rfl ?_
    obtain ⟨c134, hf⟩ := chk_some hf
    refine z_iald C pM_a6 c134 dX6_dealOn_134 ?_
    refine z_iadd C dX6_dealOn_135 ?_
    refine z_iload C dX6_dealOn_136 0 rfl ?_
    refine z_iload_n C dX6_dealOn_138 3 rfl ?_
    refine z_icmp_ge C 147 dX6_dealOn_139 (by decide) (fun c139 => ?_) (fun c139 => ?_)
    · replace hf := ip c139 hf
      refine z_iconst C (-1 : Int32) dX6_dealOn_147 (by decide) ?_
      exact z_sub [1, 2, 3, 4] rfl (w_X6_dealOn_b148 hj C hK112 hf)
    · replace hf := iN c139 hf
      refine z_iload C dX6_dealOn_142 0 rfl ?_
      refine z_goto C 148 dX6_dealOn_144 (by decide) ?_
      exact z_sub [1, 2, 3, 4] rfl (w_X6_dealOn_b148 hj C hK112 hf)
def f_X6_dealOn_h32 (n : Nat) (j : Nat) (x2 : Int32) (y3 : Int64)  (K32 : MS → Int64 → Int32 → Option ((MS) × Int32)) (M : MS) (y5 : Int64) (x7 : Int32) : Option ((MS) × Int32) :=
  if x7 ≤ 0 then (chk (inB (4 : Int32) 217) (stt (mA M j (upd (M.2 j) (4 : Int32).toNatClampNeg ((28 : Int32) - ((5 : Int32) * x2)))) (fun Mn1 => lo2 (f_X6_dealOn_h112 n j x2 y3) n Mn1 (0 : Int32)))) else (stt (((y5 * (6364136223846793005 : Int64)) + (1442695040888963407 : Int64))) (fun v10 => chk (¬ (x7 + (1 : Int32)) = 0) (stt ((jrem ((jlushr v10 (33 : Int32)).toInt32) (x7 + (1 : Int32)))) (fun v11 => chk (inB x7 28) (chk (inB v11 28) (chk (inB x7 28) (chk (inB v11 28) (stt (mA (mA M 6 (upd (M.2 6) x7.toNatClampNeg (M.2 6 v11.toNatClampNeg))) 6 (upd ((mA M 6 (upd (M.2 6) x7.toNatClampNeg (M.2 6 v11.toNatClampNeg))).2 6) v11.toNatClampNeg (M.2 6 x7.toNatClampNeg))) (fun Mn12 => K32 Mn12 v10 (x7 + (-1)))))))))))
set_option maxRecDepth 100000 in
set_option maxHeartbeats 4000000 in
theorem w_X6_dealOn_h32 {E : zE} {X : zX} {h0 : Hp} {m : Nat} {n : Nat} {j : Nat} {x2 : Int32} {y3 : Int64}  (hj : j = 1 ∨ j = 2) (C : zC E X RX6 cX6_dealOn 10 (some .int) 1)   : ∀ (q : Nat) (M : MS) (y5 : Int64) (x7 : Int32) (r : ((MS) × Int32)), lo3 (f_X6_dealOn_h32 n j x2 y3) q M y5 x7 = some r → zW E X 10 0 0 (MQ (xb X) (zQ E (some (.int r.2)) (pM E h0 m r.1)) (xa X) (xs X) 0 0 (zA E)) 32 (pM E h0 m M) [(0, .ref m), (1, .ref (m + 1 + j)), (2, .int x2), (5, .long y5), (7, .int x7)] [] := by
  refine lo3_ind _ ?_
  intro K32 hK32 M y5 x7 r hf
  unfold f_X6_dealOn_h32 at hf
  refine z_iload C dX6_dealOn_32 4 rfl ?_
  refine z_if_le C 100 dX6_dealOn_34 (by decide) (fun c34 => ?_) (fun c34 => ?_)
  · replace hf := ip c34 hf
    refine z_aload_n C dX6_dealOn_100 1 rfl ?_
    refine z_iconst C (4 : Int32) dX6_dealOn_101 (by decide) ?_
    refine z_bipush C (28 : Int32) dX6_dealOn_102 (by decide) ?_
    refine z_iconst C (5 : Int32) dX6_dealOn_104 (by decide) ?_
    refine z_iload_n C dX6_dealOn_105 2 rfl ?_
    refine z_imul C dX6_dealOn_106 ?_
    refine z_isub C dX6_dealOn_107 ?_
    obtain ⟨c108, hf⟩ := chk_some hf
    refine z_iast C (pM_at hj) c108 dX6_dealOn_108 _ (pM_wt hj _) ?_
    obtain ⟨Mn1, eMn1, hf⟩ := st_some hf
    refine z_heap (congrArg (fun z => (pM E h0 m z)) eMn1.symm) ?_
    refine z_iconst C (0 : Int32) dX6_dealOn_109 (by decide) ?_
    refine z_istore (lv' := [(7, .int (0 : Int32)), (0, .ref m), (1, .ref (m + 1 + j)), (2, .int x2), (5, .long y5)]) C dX6_dealOn_110 (by decide) rfl ?_
    exact z_sub [1, 2, 3, 0] rfl (w_X6_dealOn_h112 hj C n _ _ _ hf)
  · replace hf := iN c34 hf
    refine z_lload C dX6_dealOn_37 3 rfl ?_
    refine z_ldc2 C (6364136223846793005 : Int64) dX6_dealOn_39 cn_X6_105 ?_
    refine z_lmul C dX6_dealOn_42 ?_
    refine z_ldc2 C (1442695040888963407 : Int64) dX6_dealOn_43 cn_X6_107 ?_
    refine z_ladd C dX6_dealOn_46 ?_
    obtain ⟨v10, ev10, hf⟩ := st_some hf
    refine z_stk (congrArg (fun z => Value.long z :: []) ev10.symm) ?_
    refine z_lstore (lv' := [(5, .long v10), (0, .ref m), (1, .ref (m + 1 + j)), (2, .int x2), (7, .int x7)]) C dX6_dealOn_47 (by decide) rfl ?_
    refine z_lload C dX6_dealOn_49 0 rfl ?_
    refine z_bipush C (33 : Int32) dX6_dealOn_51 (by decide) ?_
    refine z_lushr C dX6_dealOn_53 ?_
    refine z_l2i C dX6_dealOn_54 ?_
    refine z_iload C dX6_dealOn_55 4 rfl ?_
    refine z_iconst C (1 : Int32) dX6_dealOn_57 (by decide) ?_
    refine z_iadd C dX6_dealOn_58 ?_
    obtain ⟨c59, hf⟩ := chk_some hf
    refine z_irem C dX6_dealOn_59 c59 ?_
    obtain ⟨v11, ev11, hf⟩ := st_some hf
    refine z_stk (congrArg (fun z => Value.int z :: []) ev11.symm) ?_
    refine z_istore (lv' := [(8, .int v11), (5, .long v10), (0, .ref m), (1, .ref (m + 1 + j)), (2, .int x2), (7, .int x7)]) C dX6_dealOn_60 (by decide) rfl ?_
    refine z_aload_n C dX6_dealOn_62 2 rfl ?_
    refine gf_X6_29 C dX6_dealOn_63 ?_
    refine z_iload C dX6_dealOn_66 5 rfl ?_
    obtain ⟨c68, hf⟩ := chk_some hf
    refine z_iald C pM_a6 c68 dX6_dealOn_68 ?_
    refine z_istore (lv' := [(9, .int (M.2 6 x7.toNatClampNeg)), (8, .int v11), (5, .long v10), (0, .ref m), (1, .ref (m + 1 + j)), (2, .int x2), (7, .int x7)]) C dX6_dealOn_69 (by decide) rfl ?_
    refine z_aload_n C dX6_dealOn_71 3 rfl ?_
    refine gf_X6_29 C dX6_dealOn_72 ?_
    refine z_iload C dX6_dealOn_75 6 rfl ?_
    refine z_aload_n C dX6_dealOn_77 3 rfl ?_
    refine gf_X6_29 C dX6_dealOn_78 ?_
    refine z_iload C dX6_dealOn_81 1 rfl ?_
    obtain ⟨c83, hf⟩ := chk_some hf
    refine z_iald C pM_a6 c83 dX6_dealOn_83 ?_
    obtain ⟨c84, hf⟩ := chk_some hf
    refine z_iast C pM_a6 c84 dX6_dealOn_84 _ (pM_w6 _) ?_
    refine z_aload_n C dX6_dealOn_85 3 rfl ?_
    refine gf_X6_29 C dX6_dealOn_86 ?_
    refine z_iload C dX6_dealOn_89 1 rfl ?_
    refine z_iload C dX6_dealOn_91 0 rfl ?_
    obtain ⟨c93, hf⟩ := chk_some hf
    refine z_iast C pM_a6 c93 dX6_dealOn_93 _ (pM_w6 _) ?_
    obtain ⟨Mn12, eMn12, hf⟩ := st_some hf
    refine z_heap (congrArg (fun z => (pM E h0 m z)) eMn12.symm) ?_
    refine z_iinc (lv' := [(7, .int (x7 + (-1))), (9, .int (M.2 6 x7.toNatClampNeg)), (8, .int v11), (5, .long v10), (0, .ref m), (1, .ref (m + 1 + j)), (2, .int x2)]) C dX6_dealOn_94 6 (x7 + (-1)) rfl rfl (by decide) rfl ?_
    refine z_goto C 32 dX6_dealOn_97 (by decide) ?_
    exact z_sub [4, 5, 6, 3, 0] rfl (hK32 _ _ _ _ hf)
def f_X6_dealOn_h3 (n : Nat) (j : Nat) (x2 : Int32) (y3 : Int64)  (K3 : MS → Int32 → Option ((MS) × Int32)) (M : MS) (x5 : Int32) : Option ((MS) × Int32) :=
  if (28 : Int32) ≤ x5 then (lo3 (f_X6_dealOn_h32 n j x2 y3) n M y3 (27 : Int32)) else (chk (inB x5 28) (K3 (mA M 6 (upd (M.2 6) x5.toNatClampNeg x5)) (x5 + 1)))
set_option maxRecDepth 100000 in
set_option maxHeartbeats 4000000 in
theorem w_X6_dealOn_h3 {E : zE} {X : zX} {h0 : Hp} {m : Nat} {n : Nat} {j : Nat} {x2 : Int32} {y3 : Int64}  (hj : j = 1 ∨ j = 2) (C : zC E X RX6 cX6_dealOn 10 (some .int) 1)   : ∀ (q : Nat) (M : MS) (x5 : Int32) (r : ((MS) × Int32)), lo2 (f_X6_dealOn_h3 n j x2 y3) q M x5 = some r → zW E X 10 0 0 (MQ (xb X) (zQ E (some (.int r.2)) (pM E h0 m r.1)) (xa X) (xs X) 0 0 (zA E)) 3 (pM E h0 m M) [(0, .ref m), (1, .ref (m + 1 + j)), (2, .int x2), (3, .long y3), (5, .int x5)] [] := by
  refine lo2_ind _ ?_
  intro K3 hK3 M x5 r hf
  unfold f_X6_dealOn_h3 at hf
  refine z_iload C dX6_dealOn_3 4 rfl ?_
  refine z_bipush C (28 : Int32) dX6_dealOn_5 (by decide) ?_
  refine z_icmp_ge C 25 dX6_dealOn_7 (by decide) (fun c7 => ?_) (fun c7 => ?_)
  · replace hf := ip c7 hf
    refine z_lload_n C dX6_dealOn_25 3 rfl ?_
    refine z_lstore (lv' := [(5, .long y3), (0, .ref m), (1, .ref (m + 1 + j)), (2, .int x2), (3, .long y3)]) C dX6_dealOn_26 (by decide) rfl ?_
    refine z_bipush C (27 : Int32) dX6_dealOn_28 (by decide) ?_
    refine z_istore (lv' := [(7, .int (27 : Int32)), (5, .long y3), (0, .ref m), (1, .ref (m + 1 + j)), (2, .int x2), (3, .long y3)]) C dX6_dealOn_30 (by decide) rfl ?_
    exact z_sub [2, 3, 4, 1, 0] rfl (w_X6_dealOn_h32 hj C n _ _ _ _ hf)
  · replace hf := iN c7 hf
    refine z_aload_n C dX6_dealOn_10 0 rfl ?_
    refine gf_X6_29 C dX6_dealOn_11 ?_
    refine z_iload C dX6_dealOn_14 4 rfl ?_
    refine z_iload C dX6_dealOn_16 4 rfl ?_
    obtain ⟨c18, hf⟩ := chk_some hf
    refine z_iast C pM_a6 c18 dX6_dealOn_18 _ (pM_w6 _) ?_
    refine z_iinc (lv' := [(5, .int (x5 + 1)), (0, .ref m), (1, .ref (m + 1 + j)), (2, .int x2), (3, .long y3)]) C dX6_dealOn_19 4 (x5 + 1) rfl rfl (by decide) rfl ?_
    refine z_goto C 3 dX6_dealOn_22 (by decide) ?_
    exact z_sub [1, 2, 3, 4, 0] rfl (hK3 _ _ _ hf)
def f_X6_dealOn (n : Nat) (j : Nat) (M : MS) (x2 : Int32) (y3 : Int64) : Option ((MS) × Int32) :=
  lo2 (f_X6_dealOn_h3 n j x2 y3) n M (0 : Int32)
set_option maxRecDepth 100000 in
set_option maxHeartbeats 4000000 in
theorem ct_X6_dealOn {E : zE} {l : Launch} {h0 : Hp} {m : Nat} {n : Nat} {j : Nat} {M : MS} {x2 : Int32} {y3 : Int64} {r : ((MS) × Int32)} (hj : j = 1 ∨ j = 2) (hf : f_X6_dealOn n j M x2 y3 = some r) : zM E l 1 yX6_dealOn cX6_dealOn 10 (some .int) [.ref m, .ref (m + 1 + j), .int x2, .long y3] (pM E h0 m M) (some (.int r.2)) (pM E h0 m r.1) := by
  refine zM_of (lv := [(0, .ref m), (1, .ref (m + 1 + j)), (2, .int x2), (3, .long y3)]) (by decide +kernel) (Nat.le_of_ble_eq_true rfl) rfl (fun X hX C => ?_)
  subst hX
  replace C : zC E X RX6 cX6_dealOn 10 (some .int) 1 := C
  unfold f_X6_dealOn at hf
  refine z_iconst C (0 : Int32) dX6_dealOn_0 (by decide) ?_
  refine z_istore (lv' := [(5, .int (0 : Int32)), (0, .ref m), (1, .ref (m + 1 + j)), (2, .int x2), (3, .long y3)]) C dX6_dealOn_1 (by decide) rfl ?_
  exact z_sub [1, 2, 3, 4, 0] rfl (w_X6_dealOn_h3 hj C n _ _ _ hf)
/-! X6_append: depth 2 -/
def f_X6_append_b31 (x1 : Int32)   (M : MS) (s0 : Int32) : Option ((MS) × Int32) :=
  (f_X6_refused M s0).bind (fun q31 => if q31.2 = 0 then (chk (inB (q31.1.1 1) 120) (stt (mS (mA q31.1 0 (upd (q31.1.2 0) (q31.1.1 1).toNatClampNeg x1)) 1 (((mA q31.1 0 (upd (q31.1.2 0) (q31.1.1 1).toNatClampNeg x1)).1 1) + (1 : Int32))) (fun Mn1 => some (Mn1, (Mn1.1 1))))) else (some (q31.1, (0 : Int32))))
set_option maxRecDepth 100000 in
set_option maxHeartbeats 4000000 in
theorem w_X6_append_b31 {E : zE} {X : zX} {h0 : Hp} {m : Nat} {x1 : Int32}   (C : zC E X RX6 cX6_append 2 (some .int) 2)   {M : MS} {s0 : Int32} {r : ((MS) × Int32)} (hf : f_X6_append_b31 x1 M s0 = some r) : zW E X 2 0 0 (MQ (xb X) (zQ E (some (.int r.2)) (pM E h0 m r.1)) (xa X) (xs X) 0 0 (zA E)) 31 (pM E h0 m M) [(0, .ref m), (1, .int x1)] [.int s0, .ref m] := by
  unfold f_X6_append_b31 at hf
  obtain ⟨q31, hq31, hf⟩ := bd_some hf
  refine iv_X6_141 C [.int s0] [] (ct_X6_refused hq31) pM_o rfl (by decide) rfl (Nat.le_of_ble_eq_true rfl) z_k0 dX6_append_31 ?_
  refine z_if_eq C 39 dX6_append_34 (by decide) (fun c34 => ?_) (fun c34 => ?_)
  · replace hf := ip c34 hf
    refine z_aload_n C dX6_append_39 0 rfl ?_
    refine gf_X6_7 C dX6_append_40 ?_
    refine z_aload_n C dX6_append_43 0 rfl ?_
    refine gf_X6_138 C dX6_append_44 ?_
    refine z_iload_n C dX6_append_47 1 rfl ?_
    obtain ⟨c48, hf⟩ := chk_some hf
    refine z_iast C pM_a0 c48 dX6_append_48 _ (pM_w0 _) ?_
    refine z_aload_n C dX6_append_49 0 rfl ?_
    refine z_dup C dX6_append_50 rfl ?_
    refine gf_X6_138 C dX6_append_51 ?_
    refine z_iconst C (1 : Int32) dX6_append_54 (by decide) ?_
    refine z_iadd C dX6_append_55 ?_
    refine pf_X6_138 C dX6_append_56 ?_
    obtain ⟨Mn1, eMn1, hf⟩ := st_some hf
    refine z_heap (congrArg (fun z => (pM E h0 m z)) eMn1.symm) ?_
    refine z_aload_n C dX6_append_59 0 rfl ?_
    refine gf_X6_138 C dX6_append_60 ?_
    obtain rfl := Option.some.inj hf
    exact z_ireturn C dX6_append_63
  · replace hf := iN c34 hf
    refine z_iconst C (0 : Int32) dX6_append_37 (by decide) ?_
    obtain rfl := Option.some.inj hf
    exact z_ireturn C dX6_append_38
def f_X6_append (M : MS) (x1 : Int32) : Option ((MS) × Int32) :=
  (f_X6_in x1.toInt64 (0 : Int64) (255 : Int64)).bind (fun q7 => if q7 = 0 then (f_X6_append_b31 x1 M (1 : Int32)) else (if (M.1 1) = (120 : Int32) then (f_X6_append_b31 x1 M (2 : Int32)) else (f_X6_append_b31 x1 M (0 : Int32))))
set_option maxRecDepth 100000 in
set_option maxHeartbeats 4000000 in
theorem ct_X6_append {E : zE} {l : Launch} {h0 : Hp} {m : Nat} {M : MS} {x1 : Int32} {r : ((MS) × Int32)}  (hf : f_X6_append M x1 = some r) : zM E l 2 yX6_append cX6_append 2 (some .int) [.ref m, .int x1] (pM E h0 m M) (some (.int r.2)) (pM E h0 m r.1) := by
  refine zM_of (lv := [(0, .ref m), (1, .int x1)]) (by decide +kernel) (Nat.le_of_ble_eq_true rfl) rfl (fun X hX C => ?_)
  subst hX
  replace C : zC E X RX6 cX6_append 2 (some .int) 2 := C
  unfold f_X6_append at hf
  refine z_aload_n C dX6_append_0 0 rfl ?_
  refine z_iload_n C dX6_append_1 1 rfl ?_
  refine z_i2l C dX6_append_2 ?_
  refine z_lconst C (0 : Int64) dX6_append_3 (by decide) ?_
  refine z_ldc2 C (255 : Int64) dX6_append_4 cn_X6_136 ?_
  obtain ⟨q7, hq7, hf⟩ := bd_some hf
  refine iv_X6_55 C [.long x1.toInt64, .long (0 : Int64), .long (255 : Int64)] [.ref m] (ct_X6_in hq7) rfl (by decide) rfl (Nat.le_of_ble_eq_true rfl) z_k0 dX6_append_7 ?_
  refine z_if_ne C 17 dX6_append_10 (by decide) (fun c10 => ?_) (fun c10 => ?_)
  · replace hf := iN c10 hf
    refine z_aload_n C dX6_append_17 0 rfl ?_
    refine gf_X6_138 C dX6_append_18 ?_
    refine z_bipush C (120 : Int32) dX6_append_21 (by decide) ?_
    refine z_icmp_ne C 30 dX6_append_23 (by decide) (fun c23 => ?_) (fun c23 => ?_)
    · replace hf := iN c23 hf
      refine z_iconst C (0 : Int32) dX6_append_30 (by decide) ?_
      exact z_sub [0, 1] rfl (w_X6_append_b31 C hf)
    · replace hf := ip c23 hf
      refine z_iconst C (2 : Int32) dX6_append_26 (by decide) ?_
      refine z_goto C 31 dX6_append_27 (by decide) ?_
      exact z_sub [0, 1] rfl (w_X6_append_b31 C hf)
  · replace hf := ip c10 hf
    refine z_iconst C (1 : Int32) dX6_append_13 (by decide) ?_
    refine z_goto C 31 dX6_append_14 (by decide) ?_
    exact z_sub [0, 1] rfl (w_X6_append_b31 C hf)
/-! X6_clearText: depth 1 -/
def f_X6_clearText (M : MS) : Option ((MS) × Int32) :=
  some (mS (mS M 0 (0 : Int32)) 1 (0 : Int32), ((mS M 0 (0 : Int32)).1 1))
set_option maxRecDepth 100000 in
set_option maxHeartbeats 4000000 in
theorem ct_X6_clearText {E : zE} {l : Launch} {h0 : Hp} {m : Nat} {M : MS} {r : ((MS) × Int32)}  (hf : f_X6_clearText M = some r) : zM E l 1 yX6_clearText cX6_clearText 2 (some .int) [.ref m] (pM E h0 m M) (some (.int r.2)) (pM E h0 m r.1) := by
  refine zM_of (lv := [(0, .ref m)]) (by decide +kernel) (Nat.le_of_ble_eq_true rfl) rfl (fun X hX C => ?_)
  subst hX
  replace C : zC E X RX6 cX6_clearText 2 (some .int) 1 := C
  unfold f_X6_clearText at hf
  refine z_aload_n C dX6_clearText_0 0 rfl ?_
  refine z_iconst C (0 : Int32) dX6_clearText_1 (by decide) ?_
  refine pf_X6_42 C dX6_clearText_2 ?_
  refine z_aload_n C dX6_clearText_5 0 rfl ?_
  refine gf_X6_138 C dX6_clearText_6 ?_
  refine z_istore_n (lv' := [(1, .int ((mS M 0 (0 : Int32)).1 1)), (0, .ref m)]) C dX6_clearText_9 (by decide) rfl ?_
  refine z_aload_n C dX6_clearText_10 1 rfl ?_
  refine z_iconst C (0 : Int32) dX6_clearText_11 (by decide) ?_
  refine pf_X6_138 C dX6_clearText_12 ?_
  refine z_iload_n C dX6_clearText_15 0 rfl ?_
  obtain rfl := Option.some.inj hf
  exact z_ireturn C dX6_clearText_16
/-! X6_figures: depth 2 -/
def f_X6_figures_b122 (n : Nat) (x1 : Int32) (x2 : Int32) (x3 : Int32) (x4 : Int32)   (M : MS) (x5 : Int32) : Option ((MS) × Int32) :=
  if x1 = (-1 : Int32) then (some (M, (-1 : Int32))) else (some (M, x5))
set_option maxRecDepth 100000 in
set_option maxHeartbeats 4000000 in
theorem w_X6_figures_b122 {E : zE} {X : zX} {h0 : Hp} {m : Nat} {n : Nat} {x1 : Int32} {x2 : Int32} {x3 : Int32} {x4 : Int32}   (C : zC E X RX6 cX6_figures 9 (some .int) 2)   {M : MS} {x5 : Int32} {r : ((MS) × Int32)} (hf : f_X6_figures_b122 n x1 x2 x3 x4 M x5 = some r) : zW E X 9 0 0 (MQ (xb X) (zQ E (some (.int r.2)) (pM E h0 m r.1)) (xa X) (xs X) 0 0 (zA E)) 122 (pM E h0 m M) [(1, .int x1), (5, .int x5)] [] := by
  unfold f_X6_figures_b122 at hf
  refine z_iload_n C dX6_figures_122 0 rfl ?_
  refine z_iconst C (-1 : Int32) dX6_figures_123 (by decide) ?_
  refine z_icmp_ne C 131 dX6_figures_124 (by decide) (fun c124 => ?_) (fun c124 => ?_)
  · replace hf := iN c124 hf
    refine z_iload C dX6_figures_131 1 rfl ?_
    obtain rfl := Option.some.inj hf
    exact z_ireturn C dX6_figures_133
  · replace hf := ip c124 hf
    refine z_iconst C (-1 : Int32) dX6_figures_127 (by decide) ?_
    refine z_goto C 133 dX6_figures_128 (by decide) ?_
    obtain rfl := Option.some.inj hf
    exact z_ireturn C dX6_figures_133
def f_X6_figures_b53 (n : Nat) (x1 : Int32) (x2 : Int32) (x3 : Int32) (x4 : Int32) (K16 : MS → Int32 → Int32 → Option ((MS) × Int32))  (M : MS) (x5 : Int32) (x6 : Int32) (s0 : Int32) : Option ((MS) × Int32) :=
  (f_X6_in s0.toInt64 (0 : Int64) (9 : Int64)).bind (fun q72 => if q72 = 0 then (some (M, (-1 : Int32))) else (if x4 < (x5 + (s0 * x6)) then (some (M, (-1 : Int32))) else (if x3 ≤ (((x5 + (s0 * x6)) + x6) - (1 : Int32)) then (chk (¬ (10 : Int32) = 0) (K16 (mS M 3 ((M.1 3) + (1 : Int32))) (x5 + (s0 * x6)) (x6 / (10 : Int32)))) else (some (M, (-1 : Int32))))))
set_option maxRecDepth 100000 in
set_option maxHeartbeats 4000000 in
theorem w_X6_figures_b53 {E : zE} {X : zX} {h0 : Hp} {m : Nat} {n : Nat} {x1 : Int32} {x2 : Int32} {x3 : Int32} {x4 : Int32} {K16 : MS → Int32 → Int32 → Option ((MS) × Int32)}  (C : zC E X RX6 cX6_figures 9 (some .int) 2)  (hK16 : ∀ (M : MS) (x5 : Int32) (x6 : Int32) (r : ((MS) × Int32)), K16 M x5 x6 = some r → zW E X 9 0 0 (MQ (xb X) (zQ E (some (.int r.2)) (pM E h0 m r.1)) (xa X) (xs X) 0 0 (zA E)) 16 (pM E h0 m M) [(0, .ref m), (1, .int x1), (3, .int x3), (4, .int x4), (5, .int x5), (6, .int x6)] []) {M : MS} {x5 : Int32} {x6 : Int32} {s0 : Int32} {r : ((MS) × Int32)} (hf : f_X6_figures_b53 n x1 x2 x3 x4 K16 M x5 x6 s0 = some r) : zW E X 9 0 0 (MQ (xb X) (zQ E (some (.int r.2)) (pM E h0 m r.1)) (xa X) (xs X) 0 0 (zA E)) 53 (pM E h0 m M) [(0, .ref m), (1, .int x1), (3, .int x3), (4, .int x4), (5, .int x5), (6, .int x6)] [.int s0] := by
  unfold f_X6_figures_b53 at hf
  refine z_istore (lv' := [(7, .int s0), (0, .ref m), (1, .int x1), (3, .int x3), (4, .int x4), (5, .int x5), (6, .int x6)]) C dX6_figures_53 (by decide) rfl ?_
  refine z_iload C dX6_figures_55 5 rfl ?_
  refine z_iload C dX6_figures_57 0 rfl ?_
  refine z_iload C dX6_figures_59 6 rfl ?_
  refine z_imul C dX6_figures_61 ?_
  refine z_iadd C dX6_figures_62 ?_
  refine z_istore (lv' := [(8, .int (x5 + (s0 * x6))), (7, .int s0), (0, .ref m), (1, .int x1), (3, .int x3), (4, .int x4), (5, .int x5), (6, .int x6)]) C dX6_figures_63 (by decide) rfl ?_
  refine z_iload C dX6_figures_65 1 rfl ?_
  refine z_i2l C dX6_figures_67 ?_
  refine z_lconst C (0 : Int64) dX6_figures_68 (by decide) ?_
  refine z_ldc2 C (9 : Int64) dX6_figures_69 cn_X6_148 ?_
  obtain ⟨q72, hq72, hf⟩ := bd_some hf
  refine iv_X6_55 C [.long s0.toInt64, .long (0 : Int64), .long (9 : Int64)] [] (ct_X6_in hq72) rfl (by decide) rfl (Nat.le_of_ble_eq_true rfl) z_k0 dX6_figures_72 ?_
  refine z_if_eq C 96 dX6_figures_75 (by decide) (fun c75 => ?_) (fun c75 => ?_)
  · replace hf := ip c75 hf
    refine z_iconst C (-1 : Int32) dX6_figures_96 (by decide) ?_
    obtain rfl := Option.some.inj hf
    exact z_ireturn C dX6_figures_97
  · replace hf := iN c75 hf
    refine z_iload C dX6_figures_78 0 rfl ?_
    refine z_iload C dX6_figures_80 5 rfl ?_
    refine z_icmp_gt C 96 dX6_figures_82 (by decide) (fun c82 => ?_) (fun c82 => ?_)
    · replace hf := ip c82 hf
      refine z_iconst C (-1 : Int32) dX6_figures_96 (by decide) ?_
      obtain rfl := Option.some.inj hf
      exact z_ireturn C dX6_figures_97
    · replace hf := iN c82 hf
      refine z_iload C dX6_figures_85 0 rfl ?_
      refine z_iload C dX6_figures_87 7 rfl ?_
      refine z_iadd C dX6_figures_89 ?_
      refine z_iconst C (1 : Int32) dX6_figures_90 (by decide) ?_
      refine z_isub C dX6_figures_91 ?_
      refine z_iload_n C dX6_figures_92 4 rfl ?_
      refine z_icmp_ge C 98 dX6_figures_93 (by decide) (fun c93 => ?_) (fun c93 => ?_)
      · replace hf := ip c93 hf
        refine z_iload C dX6_figures_98 0 rfl ?_
        refine z_istore (lv' := [(5, .int (x5 + (s0 * x6))), (8, .int (x5 + (s0 * x6))), (7, .int s0), (0, .ref m), (1, .int x1), (3, .int x3), (4, .int x4), (6, .int x6)]) C dX6_figures_100 (by decide) rfl ?_
        refine z_aload_n C dX6_figures_102 3 rfl ?_
        refine z_dup C dX6_figures_103 rfl ?_
        refine gf_X6_145 C dX6_figures_104 ?_
        refine z_iconst C (1 : Int32) dX6_figures_107 (by decide) ?_
        refine z_iadd C dX6_figures_108 ?_
        refine pf_X6_145 C dX6_figures_109 ?_
        refine z_iload C dX6_figures_112 7 rfl ?_
        refine z_bipush C (10 : Int32) dX6_figures_114 (by decide) ?_
        obtain ⟨c116, hf⟩ := chk_some hf
        refine z_idiv C dX6_figures_116 c116 ?_
        refine z_istore (lv' := [(6, .int (x6 / (10 : Int32))), (5, .int (x5 + (s0 * x6))), (8, .int (x5 + (s0 * x6))), (7, .int s0), (0, .ref m), (1, .int x1), (3, .int x3), (4, .int x4)]) C dX6_figures_117 (by decide) rfl ?_
        refine z_goto C 16 dX6_figures_119 (by decide) ?_
        exact z_sub [4, 5, 6, 7, 1, 0] rfl (hK16 _ _ _ _ hf)
      · replace hf := iN c93 hf
        refine z_iconst C (-1 : Int32) dX6_figures_96 (by decide) ?_
        obtain rfl := Option.some.inj hf
        exact z_ireturn C dX6_figures_97
def f_X6_figures_h16 (n : Nat) (x1 : Int32) (x2 : Int32) (x3 : Int32) (x4 : Int32)  (K16 : MS → Int32 → Int32 → Option ((MS) × Int32)) (M : MS) (x5 : Int32) (x6 : Int32) : Option ((MS) × Int32) :=
  if x6 ≤ 0 then (f_X6_figures_b122 n x1 x2 x3 x4 M x5) else (if x1 = (-1 : Int32) then (f_X6_figures_b122 n x1 x2 x3 x4 M x5) else (if (M.1 1) ≤ (M.1 3) then (f_X6_figures_b53 n x1 x2 x3 x4 K16 M x5 x6 (-1 : Int32)) else (chk (inB (M.1 3) 120) (f_X6_figures_b53 n x1 x2 x3 x4 K16 M x5 x6 ((M.2 0 (M.1 3).toNatClampNeg) - (48 : Int32))))))
set_option maxRecDepth 100000 in
set_option maxHeartbeats 4000000 in
theorem w_X6_figures_h16 {E : zE} {X : zX} {h0 : Hp} {m : Nat} {n : Nat} {x1 : Int32} {x2 : Int32} {x3 : Int32} {x4 : Int32}   (C : zC E X RX6 cX6_figures 9 (some .int) 2)   : ∀ (q : Nat) (M : MS) (x5 : Int32) (x6 : Int32) (r : ((MS) × Int32)), lo3 (f_X6_figures_h16 n x1 x2 x3 x4) q M x5 x6 = some r → zW E X 9 0 0 (MQ (xb X) (zQ E (some (.int r.2)) (pM E h0 m r.1)) (xa X) (xs X) 0 0 (zA E)) 16 (pM E h0 m M) [(0, .ref m), (1, .int x1), (3, .int x3), (4, .int x4), (5, .int x5), (6, .int x6)] [] := by
  refine lo3_ind _ ?_
  intro K16 hK16 M x5 x6 r hf
  unfold f_X6_figures_h16 at hf
  refine z_iload C dX6_figures_16 5 rfl ?_
  refine z_if_le C 122 dX6_figures_18 (by decide) (fun c18 => ?_) (fun c18 => ?_)
  · replace hf := ip c18 hf
    exact z_sub [1, 4] rfl (w_X6_figures_b122 C hf)
  · replace hf := iN c18 hf
    refine z_iload_n C dX6_figures_21 1 rfl ?_
    refine z_iconst C (-1 : Int32) dX6_figures_22 (by decide) ?_
    refine z_icmp_eq C 122 dX6_figures_23 (by decide) (fun c23 => ?_) (fun c23 => ?_)
    · replace hf := ip c23 hf
      exact z_sub [1, 4] rfl (w_X6_figures_b122 C hf)
    · replace hf := iN c23 hf
      refine z_aload_n C dX6_figures_26 0 rfl ?_
      refine gf_X6_145 C dX6_figures_27 ?_
      refine z_aload_n C dX6_figures_30 0 rfl ?_
      refine gf_X6_138 C dX6_figures_31 ?_
      refine z_icmp_ge C 52 dX6_figures_34 (by decide) (fun c34 => ?_) (fun c34 => ?_)
      · replace hf := ip c34 hf
        refine z_iconst C (-1 : Int32) dX6_figures_52 (by decide) ?_
        exact z_sub [0, 1, 2, 3, 4, 5] rfl (w_X6_figures_b53 C hK16 hf)
      · replace hf := iN c34 hf
        refine z_aload_n C dX6_figures_37 0 rfl ?_
        refine gf_X6_7 C dX6_figures_38 ?_
        refine z_aload_n C dX6_figures_41 0 rfl ?_
        refine gf_X6_145 C dX6_figures_42 ?_
        obtain ⟨c45, hf⟩ := chk_some hf
        refine z_iald C pM_a0 c45 dX6_figures_45 ?_
        refine z_bipush C (48 : Int32) dX6_figures_46 (by decide) ?_
        refine z_isub C dX6_figures_48 ?_
        refine z_goto C 53 dX6_figures_49 (by decide) ?_
        exact z_sub [0, 1, 2, 3, 4, 5] rfl (w_X6_figures_b53 C hK16 hf)
def f_X6_figures_b14 (n : Nat) (x1 : Int32) (x2 : Int32) (x3 : Int32) (x4 : Int32)   (M : MS) (x5 : Int32) (s0 : Int32) : Option ((MS) × Int32) :=
  lo3 (f_X6_figures_h16 n x1 x2 x3 x4) n M x5 s0
set_option maxRecDepth 100000 in
set_option maxHeartbeats 4000000 in
theorem w_X6_figures_b14 {E : zE} {X : zX} {h0 : Hp} {m : Nat} {n : Nat} {x1 : Int32} {x2 : Int32} {x3 : Int32} {x4 : Int32}   (C : zC E X RX6 cX6_figures 9 (some .int) 2)   {M : MS} {x5 : Int32} {s0 : Int32} {r : ((MS) × Int32)} (hf : f_X6_figures_b14 n x1 x2 x3 x4 M x5 s0 = some r) : zW E X 9 0 0 (MQ (xb X) (zQ E (some (.int r.2)) (pM E h0 m r.1)) (xa X) (xs X) 0 0 (zA E)) 14 (pM E h0 m M) [(0, .ref m), (1, .int x1), (3, .int x3), (4, .int x4), (5, .int x5)] [.int s0] := by
  unfold f_X6_figures_b14 at hf
  refine z_istore (lv' := [(6, .int s0), (0, .ref m), (1, .int x1), (3, .int x3), (4, .int x4), (5, .int x5)]) C dX6_figures_14 (by decide) rfl ?_
  exact z_sub [1, 2, 3, 4, 5, 0] rfl (w_X6_figures_h16 C n _ _ _ _ hf)
def f_X6_figures (n : Nat) (M : MS) (x1 : Int32) (x2 : Int32) (x3 : Int32) (x4 : Int32) : Option ((MS) × Int32) :=
  if x2 = (2 : Int32) then (f_X6_figures_b14 n x1 x2 x3 x4 M (0 : Int32) (10 : Int32)) else (f_X6_figures_b14 n x1 x2 x3 x4 M (0 : Int32) (1 : Int32))
set_option maxRecDepth 100000 in
set_option maxHeartbeats 4000000 in
theorem ct_X6_figures {E : zE} {l : Launch} {h0 : Hp} {m : Nat} {n : Nat} {M : MS} {x1 : Int32} {x2 : Int32} {x3 : Int32} {x4 : Int32} {r : ((MS) × Int32)}  (hf : f_X6_figures n M x1 x2 x3 x4 = some r) : zM E l 2 yX6_figures cX6_figures 9 (some .int) [.ref m, .int x1, .int x2, .int x3, .int x4] (pM E h0 m M) (some (.int r.2)) (pM E h0 m r.1) := by
  refine zM_of (lv := [(0, .ref m), (1, .int x1), (2, .int x2), (3, .int x3), (4, .int x4)]) (by decide +kernel) (Nat.le_of_ble_eq_true rfl) rfl (fun X hX C => ?_)
  subst hX
  replace C : zC E X RX6 cX6_figures 9 (some .int) 2 := C
  unfold f_X6_figures at hf
  refine z_iconst C (0 : Int32) dX6_figures_0 (by decide) ?_
  refine z_istore (lv' := [(5, .int (0 : Int32)), (0, .ref m), (1, .int x1), (2, .int x2), (3, .int x3), (4, .int x4)]) C dX6_figures_1 (by decide) rfl ?_
  refine z_iload_n C dX6_figures_3 3 rfl ?_
  refine z_iconst C (2 : Int32) dX6_figures_4 (by decide) ?_
  refine z_icmp_ne C 13 dX6_figures_5 (by decide) (fun c5 => ?_) (fun c5 => ?_)
  · replace hf := iN c5 hf
    refine z_iconst C (1 : Int32) dX6_figures_13 (by decide) ?_
    exact z_sub [1, 2, 4, 5, 0] rfl (w_X6_figures_b14 C hf)
  · replace hf := ip c5 hf
    refine z_bipush C (10 : Int32) dX6_figures_8 (by decide) ?_
    refine z_goto C 14 dX6_figures_10 (by decide) ?_
    exact z_sub [1, 2, 4, 5, 0] rfl (w_X6_figures_b14 C hf)
/-! X6_done: depth 1 -/
def f_X6_done_b14 (x1 : Int32)   (M : MS) (s0 : Int32) (s1 : Int32) : Option ((MS) × Int32) :=
  some (mS M 4 (s1 + s0), (1 : Int32))
set_option maxRecDepth 100000 in
set_option maxHeartbeats 4000000 in
theorem w_X6_done_b14 {E : zE} {X : zX} {h0 : Hp} {m : Nat} {x1 : Int32}   (C : zC E X RX6 cX6_done 2 (some .boolean) 1)   {M : MS} {s0 : Int32} {s1 : Int32} {r : ((MS) × Int32)} (hf : f_X6_done_b14 x1 M s0 s1 = some r) : zW E X 2 0 0 (MQ (xb X) (zQ E (some (.int r.2)) (pM E h0 m r.1)) (xa X) (xs X) 0 0 (zA E)) 14 (pM E h0 m M) [] [.int s0, .int s1, .ref m] := by
  unfold f_X6_done_b14 at hf
  refine z_iadd C dX6_done_14 ?_
  refine pf_X6_150 C dX6_done_15 ?_
  refine z_iconst C (1 : Int32) dX6_done_18 (by decide) ?_
  obtain rfl := Option.some.inj hf
  exact z_zreturn (v := (1 : Int32)) C (by decide) dX6_done_19
def f_X6_done (M : MS) (x1 : Int32) : Option ((MS) × Int32) :=
  if x1 = 0 then (f_X6_done_b14 x1 M (1 : Int32) (M.1 4)) else (f_X6_done_b14 x1 M (0 : Int32) (M.1 4))
set_option maxRecDepth 100000 in
set_option maxHeartbeats 4000000 in
theorem ct_X6_done {E : zE} {l : Launch} {h0 : Hp} {m : Nat} {M : MS} {x1 : Int32} {r : ((MS) × Int32)}  (hf : f_X6_done M x1 = some r) : zM E l 1 yX6_done cX6_done 2 (some .boolean) [.ref m, .int x1] (pM E h0 m M) (some (.int r.2)) (pM E h0 m r.1) := by
  refine zM_of (lv := [(0, .ref m), (1, .int x1)]) (by decide +kernel) (Nat.le_of_ble_eq_true rfl) rfl (fun X hX C => ?_)
  subst hX
  replace C : zC E X RX6 cX6_done 2 (some .boolean) 1 := C
  unfold f_X6_done at hf
  refine z_aload_n C dX6_done_0 0 rfl ?_
  refine z_dup C dX6_done_1 rfl ?_
  refine gf_X6_150 C dX6_done_2 ?_
  refine z_iload_n C dX6_done_5 1 rfl ?_
  refine z_if_eq C 13 dX6_done_6 (by decide) (fun c6 => ?_) (fun c6 => ?_)
  · replace hf := ip c6 hf
    refine z_iconst C (1 : Int32) dX6_done_13 (by decide) ?_
    exact z_sub [] rfl (w_X6_done_b14 C hf)
  · replace hf := iN c6 hf
    refine z_iconst C (0 : Int32) dX6_done_9 (by decide) ?_
    refine z_goto C 14 dX6_done_10 (by decide) ?_
    exact z_sub [] rfl (w_X6_done_b14 C hf)
/-! X6_readTile: depth 9 -/
def f_X6_readTile_b116 (n : Nat)   (M : MS) (s0 : Int32) : Option ((MS) × Int32) :=
  (f_X6_done M s0).bind (fun q116 => chk (q116.2 = 0 ∨ q116.2 = 1) (some (q116.1, q116.2)))
set_option maxRecDepth 100000 in
set_option maxHeartbeats 4000000 in
theorem w_X6_readTile_b116 {E : zE} {X : zX} {h0 : Hp} {m : Nat} {n : Nat}   (C : zC E X RX6 cX6_readTile 4 (some .boolean) 9)   {M : MS} {s0 : Int32} {r : ((MS) × Int32)} (hf : f_X6_readTile_b116 n M s0 = some r) : zW E X 4 0 0 (MQ (xb X) (zQ E (some (.int r.2)) (pM E h0 m r.1)) (xa X) (xs X) 0 0 (zA E)) 116 (pM E h0 m M) [] [.int s0, .ref m] := by
  unfold f_X6_readTile_b116 at hf
  obtain ⟨q116, hq116, hf⟩ := bd_some hf
  refine iv_X6_161 C [.int s0] [] (ct_X6_done hq116) pM_o rfl (by decide) rfl (Nat.le_of_ble_eq_true rfl) z_k0 dX6_readTile_116 ?_
  obtain ⟨c119, hf⟩ := chk_some hf
  obtain rfl := Option.some.inj hf
  exact z_zreturn C c119 dX6_readTile_119
def f_X6_readTile_b115 (n : Nat)   (M : MS) : Option ((MS) × Int32) :=
  f_X6_readTile_b116 n M (0 : Int32)
set_option maxRecDepth 100000 in
set_option maxHeartbeats 4000000 in
theorem w_X6_readTile_b115 {E : zE} {X : zX} {h0 : Hp} {m : Nat} {n : Nat}   (C : zC E X RX6 cX6_readTile 4 (some .boolean) 9)   {M : MS} {r : ((MS) × Int32)} (hf : f_X6_readTile_b115 n M = some r) : zW E X 4 0 0 (MQ (xb X) (zQ E (some (.int r.2)) (pM E h0 m r.1)) (xa X) (xs X) 0 0 (zA E)) 115 (pM E h0 m M) [] [.ref m] := by
  unfold f_X6_readTile_b115 at hf
  refine z_iconst C (0 : Int32) dX6_readTile_115 (by decide) ?_
  exact z_sub [] rfl (w_X6_readTile_b116 C hf)
def f_X6_readTile_b75 (n : Nat)   (M : MS) (x2 : Int32) (s0 : Int32) : Option ((MS) × Int32) :=
  chk (inB (1 : Int32) 217) (if ((mS M 3 ((M.1 3) + (1 : Int32))).2 2 (1 : Int32).toNatClampNeg) = (1 : Int32) then ((f_X6_reason n ((mS M 3 ((M.1 3) + (1 : Int32))).2 2) x2).bind (fun q96 => if q96 = 0 then ((f_X6_playOn n ((mS M 3 ((M.1 3) + (1 : Int32))).2 2) x2 s0).bind (fun q105 => if q105.2 = 0 then (f_X6_readTile_b116 n (mA (mS M 3 ((M.1 3) + (1 : Int32))) 2 q105.1) (1 : Int32)) else (f_X6_readTile_b115 n (mA (mS M 3 ((M.1 3) + (1 : Int32))) 2 q105.1)))) else (f_X6_readTile_b115 n (mS M 3 ((M.1 3) + (1 : Int32)))))) else (f_X6_readTile_b115 n (mS M 3 ((M.1 3) + (1 : Int32)))))
set_option maxRecDepth 100000 in
set_option maxHeartbeats 4000000 in
theorem w_X6_readTile_b75 {E : zE} {X : zX} {h0 : Hp} {m : Nat} {n : Nat}   (C : zC E X RX6 cX6_readTile 4 (some .boolean) 9)   {M : MS} {x2 : Int32} {s0 : Int32} {r : ((MS) × Int32)} (hf : f_X6_readTile_b75 n M x2 s0 = some r) : zW E X 4 0 0 (MQ (xb X) (zQ E (some (.int r.2)) (pM E h0 m r.1)) (xa X) (xs X) 0 0 (zA E)) 75 (pM E h0 m M) [(0, .ref m), (1, .ref (m + 3)), (2, .int x2)] [.int s0] := by
  unfold f_X6_readTile_b75 at hf
  refine z_istore_n (lv' := [(3, .int s0), (0, .ref m), (1, .ref (m + 3)), (2, .int x2)]) C dX6_readTile_75 (by decide) rfl ?_
  refine z_aload_n C dX6_readTile_76 1 rfl ?_
  refine z_dup C dX6_readTile_77 rfl ?_
  refine gf_X6_145 C dX6_readTile_78 ?_
  refine z_iconst C (1 : Int32) dX6_readTile_81 (by decide) ?_
  refine z_iadd C dX6_readTile_82 ?_
  refine pf_X6_145 C dX6_readTile_83 ?_
  refine z_aload_n C dX6_readTile_86 1 rfl ?_
  refine z_aload_n C dX6_readTile_87 2 rfl ?_
  refine z_iconst C (1 : Int32) dX6_readTile_88 (by decide) ?_
  obtain ⟨c89, hf⟩ := chk_some hf
  refine z_iald C pM_a2 c89 dX6_readTile_89 ?_
  refine z_iconst C (1 : Int32) dX6_readTile_90 (by decide) ?_
  refine z_icmp_ne C 115 dX6_readTile_91 (by decide) (fun c91 => ?_) (fun c91 => ?_)
  · replace hf := iN c91 hf
    exact z_sub [] rfl (w_X6_readTile_b115 C hf)
  · replace hf := ip c91 hf
    refine z_aload_n C dX6_readTile_94 2 rfl ?_
    refine z_iload_n C dX6_readTile_95 3 rfl ?_
    obtain ⟨q96, hq96, hf⟩ := bd_some hf
    refine z_heap pM_i2 ?_
    refine iv_X6_102 C [.ref (m + 3), .int x2] [.ref m] (ct_X6_reason hq96) rfl (by decide) rfl (Nat.le_of_ble_eq_true rfl) z_k0 dX6_readTile_96 ?_
    refine z_heap pM_i2.symm ?_
    refine z_if_ne C 115 dX6_readTile_99 (by decide) (fun c99 => ?_) (fun c99 => ?_)
    · replace hf := iN c99 hf
      exact z_sub [] rfl (w_X6_readTile_b115 C hf)
    · replace hf := ip c99 hf
      refine z_aload_n C dX6_readTile_102 2 rfl ?_
      refine z_iload_n C dX6_readTile_103 3 rfl ?_
      refine z_iload_n C dX6_readTile_104 0 rfl ?_
      obtain ⟨q105, hq105, hf⟩ := bd_some hf
      refine z_heap pM_i2 ?_
      refine iv_X6_157 C [.ref (m + 3), .int x2, .int s0] [.ref m] (ct_X6_playOn hq105) rfl (by decide) rfl (Nat.le_of_ble_eq_true rfl) z_k0 dX6_readTile_105 ?_
      refine z_heap (pM_j2 _) ?_
      refine z_if_ne C 115 dX6_readTile_108 (by decide) (fun c108 => ?_) (fun c108 => ?_)
      · replace hf := iN c108 hf
        exact z_sub [] rfl (w_X6_readTile_b115 C hf)
      · replace hf := ip c108 hf
        refine z_iconst C (1 : Int32) dX6_readTile_111 (by decide) ?_
        refine z_goto C 116 dX6_readTile_112 (by decide) ?_
        exact z_sub [] rfl (w_X6_readTile_b116 C hf)
def f_X6_readTile_b56 (n : Nat)   (M : MS) (x2 : Int32) : Option ((MS) × Int32) :=
  chk (inB (M.1 3) 120) (if (M.2 0 (M.1 3).toNatClampNeg) = (108 : Int32) then (f_X6_readTile_b75 n M x2 (1 : Int32)) else (f_X6_readTile_b75 n M x2 (0 : Int32)))
set_option maxRecDepth 100000 in
set_option maxHeartbeats 4000000 in
theorem w_X6_readTile_b56 {E : zE} {X : zX} {h0 : Hp} {m : Nat} {n : Nat}   (C : zC E X RX6 cX6_readTile 4 (some .boolean) 9)   {M : MS} {x2 : Int32} {r : ((MS) × Int32)} (hf : f_X6_readTile_b56 n M x2 = some r) : zW E X 4 0 0 (MQ (xb X) (zQ E (some (.int r.2)) (pM E h0 m r.1)) (xa X) (xs X) 0 0 (zA E)) 56 (pM E h0 m M) [(0, .ref m), (1, .ref (m + 3)), (2, .int x2)] [] := by
  unfold f_X6_readTile_b56 at hf
  refine z_aload_n C dX6_readTile_56 0 rfl ?_
  refine gf_X6_7 C dX6_readTile_57 ?_
  refine z_aload_n C dX6_readTile_60 0 rfl ?_
  refine gf_X6_145 C dX6_readTile_61 ?_
  obtain ⟨c64, hf⟩ := chk_some hf
  refine z_iald C pM_a0 c64 dX6_readTile_64 ?_
  refine z_bipush C (108 : Int32) dX6_readTile_65 (by decide) ?_
  refine z_icmp_ne C 74 dX6_readTile_67 (by decide) (fun c67 => ?_) (fun c67 => ?_)
  · replace hf := iN c67 hf
    refine z_iconst C (0 : Int32) dX6_readTile_74 (by decide) ?_
    exact z_sub [0, 1, 2] rfl (w_X6_readTile_b75 C hf)
  · replace hf := ip c67 hf
    refine z_iconst C (1 : Int32) dX6_readTile_70 (by decide) ?_
    refine z_goto C 75 dX6_readTile_71 (by decide) ?_
    exact z_sub [0, 1, 2] rfl (w_X6_readTile_b75 C hf)
def f_X6_readTile (n : Nat) (M : MS) : Option ((MS) × Int32) :=
  (f_X6_figures n M (0 : Int32) (2 : Int32) (0 : Int32) (27 : Int32)).bind (fun q6 => if q6.2 = (-1 : Int32) then (some (q6.1, (0 : Int32))) else (if (q6.1.1 3) = (q6.1.1 1) then (some (q6.1, (0 : Int32))) else (chk (inB (q6.1.1 3) 120) (if (q6.1.2 0 (q6.1.1 3).toNatClampNeg) = (114 : Int32) then (f_X6_readTile_b56 n q6.1 q6.2) else (chk (inB (q6.1.1 3) 120) (if (q6.1.2 0 (q6.1.1 3).toNatClampNeg) = (108 : Int32) then (f_X6_readTile_b56 n q6.1 q6.2) else (some (q6.1, (0 : Int32)))))))))
set_option maxRecDepth 100000 in
set_option maxHeartbeats 4000000 in
theorem ct_X6_readTile {E : zE} {l : Launch} {h0 : Hp} {m : Nat} {n : Nat} {M : MS} {r : ((MS) × Int32)}  (hf : f_X6_readTile n M = some r) : zM E l 9 yX6_readTile cX6_readTile 4 (some .boolean) [.ref m, .ref (m + 3)] (pM E h0 m M) (some (.int r.2)) (pM E h0 m r.1) := by
  refine zM_of (lv := [(0, .ref m), (1, .ref (m + 3))]) (by decide +kernel) (Nat.le_of_ble_eq_true rfl) rfl (fun X hX C => ?_)
  subst hX
  replace C : zC E X RX6 cX6_readTile 4 (some .boolean) 9 := C
  unfold f_X6_readTile at hf
  refine z_aload_n C dX6_readTile_0 0 rfl ?_
  refine z_iconst C (0 : Int32) dX6_readTile_1 (by decide) ?_
  refine z_iconst C (2 : Int32) dX6_readTile_2 (by decide) ?_
  refine z_iconst C (0 : Int32) dX6_readTile_3 (by decide) ?_
  refine z_bipush C (27 : Int32) dX6_readTile_4 (by decide) ?_
  obtain ⟨q6, hq6, hf⟩ := bd_some hf
  refine iv_X6_153 C [.int (0 : Int32), .int (2 : Int32), .int (0 : Int32), .int (27 : Int32)] [] (ct_X6_figures hq6) pM_o rfl (by decide) rfl (Nat.le_of_ble_eq_true rfl) z_k0 dX6_readTile_6 ?_
  refine z_istore_n (lv' := [(2, .int q6.2), (0, .ref m), (1, .ref (m + 3))]) C dX6_readTile_9 (by decide) rfl ?_
  refine z_iload_n C dX6_readTile_10 0 rfl ?_
  refine z_iconst C (-1 : Int32) dX6_readTile_11 (by decide) ?_
  refine z_icmp_eq C 54 dX6_readTile_12 (by decide) (fun c12 => ?_) (fun c12 => ?_)
  · replace hf := ip c12 hf
    refine z_iconst C (0 : Int32) dX6_readTile_54 (by decide) ?_
    obtain rfl := Option.some.inj hf
    exact z_zreturn (v := (0 : Int32)) C (by decide) dX6_readTile_55
  · replace hf := iN c12 hf
    refine z_aload_n C dX6_readTile_15 1 rfl ?_
    refine gf_X6_145 C dX6_readTile_16 ?_
    refine z_aload_n C dX6_readTile_19 1 rfl ?_
    refine gf_X6_138 C dX6_readTile_20 ?_
    refine z_icmp_eq C 54 dX6_readTile_23 (by decide) (fun c23 => ?_) (fun c23 => ?_)
    · replace hf := ip c23 hf
      refine z_iconst C (0 : Int32) dX6_readTile_54 (by decide) ?_
      obtain rfl := Option.some.inj hf
      exact z_zreturn (v := (0 : Int32)) C (by decide) dX6_readTile_55
    · replace hf := iN c23 hf
      refine z_aload_n C dX6_readTile_26 1 rfl ?_
      refine gf_X6_7 C dX6_readTile_27 ?_
      refine z_aload_n C dX6_readTile_30 1 rfl ?_
      refine gf_X6_145 C dX6_readTile_31 ?_
      obtain ⟨c34, hf⟩ := chk_some hf
      refine z_iald C pM_a0 c34 dX6_readTile_34 ?_
      refine z_bipush C (114 : Int32) dX6_readTile_35 (by decide) ?_
      refine z_icmp_eq C 56 dX6_readTile_37 (by decide) (fun c37 => ?_) (fun c37 => ?_)
      · replace hf := ip c37 hf
        exact z_sub [1, 2, 0] rfl (w_X6_readTile_b56 C hf)
      · replace hf := iN c37 hf
        refine z_aload_n C dX6_readTile_40 1 rfl ?_
        refine gf_X6_7 C dX6_readTile_41 ?_
        refine z_aload_n C dX6_readTile_44 1 rfl ?_
        refine gf_X6_145 C dX6_readTile_45 ?_
        obtain ⟨c48, hf⟩ := chk_some hf
        refine z_iald C pM_a0 c48 dX6_readTile_48 ?_
        refine z_bipush C (108 : Int32) dX6_readTile_49 (by decide) ?_
        refine z_icmp_eq C 56 dX6_readTile_51 (by decide) (fun c51 => ?_) (fun c51 => ?_)
        · replace hf := ip c51 hf
          exact z_sub [1, 2, 0] rfl (w_X6_readTile_b56 C hf)
        · replace hf := iN c51 hf
          refine z_iconst C (0 : Int32) dX6_readTile_54 (by decide) ?_
          obtain rfl := Option.some.inj hf
          exact z_zreturn (v := (0 : Int32)) C (by decide) dX6_readTile_55
/-! X6_readCommand: depth 10 -/
def f_X6_readCommand_b116 (n : Nat)   (M : MS) (s0 : Int32) : Option ((MS) × Int32) :=
  (f_X6_done M s0).bind (fun q116 => if q116.2 = 0 then (some (q116.1, (0 : Int32))) else (some (q116.1, (1 : Int32))))
set_option maxRecDepth 100000 in
set_option maxHeartbeats 4000000 in
theorem w_X6_readCommand_b116 {E : zE} {X : zX} {h0 : Hp} {m : Nat} {n : Nat}   (C : zC E X RX6 cX6_readCommand 5 (some .boolean) 10)   {M : MS} {s0 : Int32} {r : ((MS) × Int32)} (hf : f_X6_readCommand_b116 n M s0 = some r) : zW E X 5 0 0 (MQ (xb X) (zQ E (some (.int r.2)) (pM E h0 m r.1)) (xa X) (xs X) 0 0 (zA E)) 116 (pM E h0 m M) [] [.int s0, .ref m] := by
  unfold f_X6_readCommand_b116 at hf
  obtain ⟨q116, hq116, hf⟩ := bd_some hf
  refine iv_X6_161 C [.int s0] [] (ct_X6_done hq116) pM_o rfl (by decide) rfl (Nat.le_of_ble_eq_true rfl) z_k0 dX6_readCommand_116 ?_
  refine z_if_eq C 126 dX6_readCommand_119 (by decide) (fun c119 => ?_) (fun c119 => ?_)
  · replace hf := ip c119 hf
    refine z_iconst C (0 : Int32) dX6_readCommand_126 (by decide) ?_
    obtain rfl := Option.some.inj hf
    exact z_zreturn (v := (0 : Int32)) C (by decide) dX6_readCommand_127
  · replace hf := iN c119 hf
    refine z_iconst C (1 : Int32) dX6_readCommand_122 (by decide) ?_
    refine z_goto C 127 dX6_readCommand_123 (by decide) ?_
    obtain rfl := Option.some.inj hf
    exact z_zreturn (v := (1 : Int32)) C (by decide) dX6_readCommand_127
def f_X6_readCommand_b178 (n : Nat)   (M : MS) (s0 : Int32) : Option ((MS) × Int32) :=
  (f_X6_done M s0).bind (fun q178 => chk (q178.2 = 0 ∨ q178.2 = 1) (some (q178.1, q178.2)))
set_option maxRecDepth 100000 in
set_option maxHeartbeats 4000000 in
theorem w_X6_readCommand_b178 {E : zE} {X : zX} {h0 : Hp} {m : Nat} {n : Nat}   (C : zC E X RX6 cX6_readCommand 5 (some .boolean) 10)   {M : MS} {s0 : Int32} {r : ((MS) × Int32)} (hf : f_X6_readCommand_b178 n M s0 = some r) : zW E X 5 0 0 (MQ (xb X) (zQ E (some (.int r.2)) (pM E h0 m r.1)) (xa X) (xs X) 0 0 (zA E)) 178 (pM E h0 m M) [] [.int s0, .ref m] := by
  unfold f_X6_readCommand_b178 at hf
  obtain ⟨q178, hq178, hf⟩ := bd_some hf
  refine iv_X6_161 C [.int s0] [] (ct_X6_done hq178) pM_o rfl (by decide) rfl (Nat.le_of_ble_eq_true rfl) z_k0 dX6_readCommand_178 ?_
  obtain ⟨c181, hf⟩ := chk_some hf
  obtain rfl := Option.some.inj hf
  exact z_zreturn C c181 dX6_readCommand_181
def f_X6_readCommand_b177 (n : Nat)   (M : MS) : Option ((MS) × Int32) :=
  f_X6_readCommand_b178 n M (0 : Int32)
set_option maxRecDepth 100000 in
set_option maxHeartbeats 4000000 in
theorem w_X6_readCommand_b177 {E : zE} {X : zX} {h0 : Hp} {m : Nat} {n : Nat}   (C : zC E X RX6 cX6_readCommand 5 (some .boolean) 10)   {M : MS} {r : ((MS) × Int32)} (hf : f_X6_readCommand_b177 n M = some r) : zW E X 5 0 0 (MQ (xb X) (zQ E (some (.int r.2)) (pM E h0 m r.1)) (xa X) (xs X) 0 0 (zA E)) 177 (pM E h0 m M) [] [.ref m] := by
  unfold f_X6_readCommand_b177 at hf
  refine z_iconst C (0 : Int32) dX6_readCommand_177 (by decide) ?_
  exact z_sub [] rfl (w_X6_readCommand_b178 C hf)
def f_X6_readCommand_b154 (n : Nat)   (M : MS) (s0 : Int32) : Option ((MS) × Int32) :=
  (f_X6_done M s0).bind (fun q154 => chk (q154.2 = 0 ∨ q154.2 = 1) (some (q154.1, q154.2)))
set_option maxRecDepth 100000 in
set_option maxHeartbeats 4000000 in
theorem w_X6_readCommand_b154 {E : zE} {X : zX} {h0 : Hp} {m : Nat} {n : Nat}   (C : zC E X RX6 cX6_readCommand 5 (some .boolean) 10)   {M : MS} {s0 : Int32} {r : ((MS) × Int32)} (hf : f_X6_readCommand_b154 n M s0 = some r) : zW E X 5 0 0 (MQ (xb X) (zQ E (some (.int r.2)) (pM E h0 m r.1)) (xa X) (xs X) 0 0 (zA E)) 154 (pM E h0 m M) [] [.int s0, .ref m] := by
  unfold f_X6_readCommand_b154 at hf
  obtain ⟨q154, hq154, hf⟩ := bd_some hf
  refine iv_X6_161 C [.int s0] [] (ct_X6_done hq154) pM_o rfl (by decide) rfl (Nat.le_of_ble_eq_true rfl) z_k0 dX6_readCommand_154 ?_
  obtain ⟨c157, hf⟩ := chk_some hf
  obtain rfl := Option.some.inj hf
  exact z_zreturn C c157 dX6_readCommand_157
def f_X6_readCommand_b153 (n : Nat)   (M : MS) : Option ((MS) × Int32) :=
  f_X6_readCommand_b154 n M (0 : Int32)
set_option maxRecDepth 100000 in
set_option maxHeartbeats 4000000 in
theorem w_X6_readCommand_b153 {E : zE} {X : zX} {h0 : Hp} {m : Nat} {n : Nat}   (C : zC E X RX6 cX6_readCommand 5 (some .boolean) 10)   {M : MS} {r : ((MS) × Int32)} (hf : f_X6_readCommand_b153 n M = some r) : zW E X 5 0 0 (MQ (xb X) (zQ E (some (.int r.2)) (pM E h0 m r.1)) (xa X) (xs X) 0 0 (zA E)) 153 (pM E h0 m M) [] [.ref m] := by
  unfold f_X6_readCommand_b153 at hf
  refine z_iconst C (0 : Int32) dX6_readCommand_153 (by decide) ?_
  exact z_sub [] rfl (w_X6_readCommand_b154 C hf)
def f_X6_readCommand (n : Nat) (M : MS) : Option ((MS) × Int32) :=
  chk (inB (M.1 3) 120) (if (M.2 0 (M.1 3).toNatClampNeg) = (98 : Int32) then ((f_X6_playBest n ((mS M 3 ((M.1 3) + (1 : Int32))).2 2)).bind (fun q183 => some (mA (mS M 3 ((M.1 3) + (1 : Int32))) 2 q183.1, (1 : Int32)))) else (if (M.2 0 (M.1 3).toNatClampNeg) = (100 : Int32) then ((f_X6_figures n (mS M 3 ((M.1 3) + (1 : Int32))) (0 : Int32) (1 : Int32) (2 : Int32) (4 : Int32)).bind (fun q77 => (f_X6_figures n q77.1 q77.2 (2 : Int32) (0 : Int32) (99 : Int32)).bind (fun q87 => if q87.2 = (-1 : Int32) then (some (q87.1, (0 : Int32))) else ((f_X6_dealOn n 2 q87.1 q77.2 q87.2.toInt64).bind (fun q105 => if q105.2 ≤ 0 then (f_X6_readCommand_b116 n q105.1 (0 : Int32)) else (f_X6_readCommand_b116 n q105.1 (1 : Int32))))))) else (if (M.2 0 (M.1 3).toNatClampNeg) = (112 : Int32) then ((f_X6_readTile n (mS M 3 ((M.1 3) + (1 : Int32)))).bind (fun q130 => chk (q130.2 = 0 ∨ q130.2 = 1) (some (q130.1, q130.2)))) else (if (M.2 0 (M.1 3).toNatClampNeg) = (115 : Int32) then ((f_X6_canPass ((mS M 3 ((M.1 3) + (1 : Int32))).2 2)).bind (fun q160 => if q160 = 0 then (f_X6_readCommand_b177 n (mS M 3 ((M.1 3) + (1 : Int32)))) else ((f_X6_passOn n ((mS M 3 ((M.1 3) + (1 : Int32))).2 2)).bind (fun q167 => if q167.2 ≤ 0 then (f_X6_readCommand_b177 n (mA (mS M 3 ((M.1 3) + (1 : Int32))) 2 q167.1)) else (f_X6_readCommand_b178 n (mA (mS M 3 ((M.1 3) + (1 : Int32))) 2 q167.1) (1 : Int32)))))) else (if (M.2 0 (M.1 3).toNatClampNeg) = (119 : Int32) then ((f_X6_canDraw ((mS M 3 ((M.1 3) + (1 : Int32))).2 2)).bind (fun q136 => if q136 = 0 then (f_X6_readCommand_b153 n (mS M 3 ((M.1 3) + (1 : Int32)))) else ((f_X6_drawOn n ((mS M 3 ((M.1 3) + (1 : Int32))).2 2)).bind (fun q143 => if q143.2 < 0 then (f_X6_readCommand_b153 n (mA (mS M 3 ((M.1 3) + (1 : Int32))) 2 q143.1)) else (f_X6_readCommand_b154 n (mA (mS M 3 ((M.1 3) + (1 : Int32))) 2 q143.1) (1 : Int32)))))) else (stt (mS (mS M 3 ((M.1 3) + (1 : Int32))) 3 (((mS M 3 ((M.1 3) + (1 : Int32))).1 3) - (1 : Int32))) (fun Mn1 => some (Mn1, (0 : Int32)))))))))
set_option maxRecDepth 100000 in
set_option maxHeartbeats 4000000 in
theorem ct_X6_readCommand {E : zE} {l : Launch} {h0 : Hp} {m : Nat} {n : Nat} {M : MS} {r : ((MS) × Int32)}  (hf : f_X6_readCommand n M = some r) : zM E l 10 yX6_readCommand cX6_readCommand 5 (some .boolean) [.ref m, .ref (m + 3)] (pM E h0 m M) (some (.int r.2)) (pM E h0 m r.1) := by
  refine zM_of (lv := [(0, .ref m), (1, .ref (m + 3))]) (by decide +kernel) (Nat.le_of_ble_eq_true rfl) rfl (fun X hX C => ?_)
  subst hX
  replace C : zC E X RX6 cX6_readCommand 5 (some .boolean) 10 := C
  unfold f_X6_readCommand at hf
  refine z_aload_n C dX6_readCommand_0 0 rfl ?_
  refine gf_X6_7 C dX6_readCommand_1 ?_
  refine z_aload_n C dX6_readCommand_4 0 rfl ?_
  refine gf_X6_145 C dX6_readCommand_5 ?_
  obtain ⟨c8, hf⟩ := chk_some hf
  refine z_iald C pM_a0 c8 dX6_readCommand_8 ?_
  refine z_istore_n (lv' := [(2, .int (M.2 0 (M.1 3).toNatClampNeg)), (0, .ref m), (1, .ref (m + 3))]) C dX6_readCommand_9 (by decide) rfl ?_
  refine z_aload_n C dX6_readCommand_10 1 rfl ?_
  refine z_dup C dX6_readCommand_11 rfl ?_
  refine gf_X6_145 C dX6_readCommand_12 ?_
  refine z_iconst C (1 : Int32) dX6_readCommand_15 (by decide) ?_
  refine z_iadd C dX6_readCommand_16 ?_
  refine pf_X6_145 C dX6_readCommand_17 ?_
  refine z_iload_n C dX6_readCommand_20 0 rfl ?_
  by_cases e21_0 : (M.2 0 (M.1 3).toNatClampNeg) = (98 : Int32)
  · replace hf := ip e21_0 hf
    refine z_stk (congrArg (fun z => Value.int z :: []) e21_0) ?_
    refine z_lookup C 161 182 dX6_readCommand_21 (by decide) (by decide) (by decide) ?_
    refine z_aload_n C dX6_readCommand_182 2 rfl ?_
    obtain ⟨q183, hq183, hf⟩ := bd_some hf
    refine z_heap pM_i2 ?_
    refine iv_X6_185 C [.ref (m + 3)] [] (ct_X6_playBest hq183) rfl (by decide) rfl (Nat.le_of_ble_eq_true rfl) z_k0 dX6_readCommand_183 ?_
    refine z_heap (pM_j2 _) ?_
    refine z_pop C dX6_readCommand_186 rfl ?_
    refine z_iconst C (1 : Int32) dX6_readCommand_187 (by decide) ?_
    obtain rfl := Option.some.inj hf
    exact z_zreturn (v := (1 : Int32)) C (by decide) dX6_readCommand_188
  replace hf := iN e21_0 hf
  by_cases e21_1 : (M.2 0 (M.1 3).toNatClampNeg) = (100 : Int32)
  · replace hf := ip e21_1 hf
    refine z_stk (congrArg (fun z => Value.int z :: []) e21_1) ?_
    refine z_lookup C 51 72 dX6_readCommand_21 (by decide) (by decide) (by decide) ?_
    refine z_aload_n C dX6_readCommand_72 1 rfl ?_
    refine z_iconst C (0 : Int32) dX6_readCommand_73 (by decide) ?_
    refine z_iconst C (1 : Int32) dX6_readCommand_74 (by decide) ?_
    refine z_iconst C (2 : Int32) dX6_readCommand_75 (by decide) ?_
    refine z_iconst C (4 : Int32) dX6_readCommand_76 (by decide) ?_
    obtain ⟨q77, hq77, hf⟩ := bd_some hf
    refine iv_X6_153 C [.int (0 : Int32), .int (1 : Int32), .int (2 : Int32), .int (4 : Int32)] [] (ct_X6_figures hq77) pM_o rfl (by decide) rfl (Nat.le_of_ble_eq_true rfl) z_k0 dX6_readCommand_77 ?_
    refine z_istore_n (lv' := [(3, .int q77.2), (2, .int (M.2 0 (M.1 3).toNatClampNeg)), (0, .ref m), (1, .ref (m + 3))]) C dX6_readCommand_80 (by decide) rfl ?_
    refine z_aload_n C dX6_readCommand_81 2 rfl ?_
    refine z_iload_n C dX6_readCommand_82 0 rfl ?_
    refine z_iconst C (2 : Int32) dX6_readCommand_83 (by decide) ?_
    refine z_iconst C (0 : Int32) dX6_readCommand_84 (by decide) ?_
    refine z_bipush C (99 : Int32) dX6_readCommand_85 (by decide) ?_
    obtain ⟨q87, hq87, hf⟩ := bd_some hf
    refine iv_X6_153 C [.int q77.2, .int (2 : Int32), .int (0 : Int32), .int (99 : Int32)] [] (ct_X6_figures hq87) pM_o rfl (by decide) rfl (Nat.le_of_ble_eq_true rfl) z_k0 dX6_readCommand_87 ?_
    refine z_istore (lv' := [(4, .int q87.2), (3, .int q77.2), (2, .int (M.2 0 (M.1 3).toNatClampNeg)), (0, .ref m), (1, .ref (m + 3))]) C dX6_readCommand_90 (by decide) rfl ?_
    refine z_iload C dX6_readCommand_92 0 rfl ?_
    refine z_iconst C (-1 : Int32) dX6_readCommand_94 (by decide) ?_
    refine z_icmp_eq C 126 dX6_readCommand_95 (by decide) (fun c95 => ?_) (fun c95 => ?_)
    · replace hf := ip c95 hf
      refine z_iconst C (0 : Int32) dX6_readCommand_126 (by decide) ?_
      obtain rfl := Option.some.inj hf
      exact z_zreturn (v := (0 : Int32)) C (by decide) dX6_readCommand_127
    · replace hf := iN c95 hf
      refine z_aload_n C dX6_readCommand_98 3 rfl ?_
      refine z_aload_n C dX6_readCommand_99 3 rfl ?_
      refine z_aload_n C dX6_readCommand_100 4 rfl ?_
      refine z_iload_n C dX6_readCommand_101 1 rfl ?_
      refine z_iload C dX6_readCommand_102 0 rfl ?_
      refine z_i2l C dX6_readCommand_104 ?_
      obtain ⟨q105, hq105, hf⟩ := bd_some hf
      refine iv_X6_165 C [.ref (m + 3), .int q77.2, .long q87.2.toInt64] [.ref m] (ct_X6_dealOn (Or.inr rfl) hq105) pM_o rfl (by decide) rfl (Nat.le_of_ble_eq_true rfl) z_k0 dX6_readCommand_105 ?_
      refine z_if_le C 115 dX6_readCommand_108 (by decide) (fun c108 => ?_) (fun c108 => ?_)
      · replace hf := ip c108 hf
        refine z_iconst C (0 : Int32) dX6_readCommand_115 (by decide) ?_
        exact z_sub [] rfl (w_X6_readCommand_b116 C hf)
      · replace hf := iN c108 hf
        refine z_iconst C (1 : Int32) dX6_readCommand_111 (by decide) ?_
        refine z_goto C 116 dX6_readCommand_112 (by decide) ?_
        exact z_sub [] rfl (w_X6_readCommand_b116 C hf)
  replace hf := iN e21_1 hf
  by_cases e21_2 : (M.2 0 (M.1 3).toNatClampNeg) = (112 : Int32)
  · replace hf := ip e21_2 hf
    refine z_stk (congrArg (fun z => Value.int z :: []) e21_2) ?_
    refine z_lookup C 107 128 dX6_readCommand_21 (by decide) (by decide) (by decide) ?_
    refine z_aload_n C dX6_readCommand_128 1 rfl ?_
    refine z_aload_n C dX6_readCommand_129 2 rfl ?_
    obtain ⟨q130, hq130, hf⟩ := bd_some hf
    refine iv_X6_169 C [.ref (m + 3)] [] (ct_X6_readTile hq130) pM_o rfl (by decide) rfl (Nat.le_of_ble_eq_true rfl) z_k0 dX6_readCommand_130 ?_
    obtain ⟨c133, hf⟩ := chk_some hf
    obtain rfl := Option.some.inj hf
    exact z_zreturn C c133 dX6_readCommand_133
  replace hf := iN e21_2 hf
  by_cases e21_3 : (M.2 0 (M.1 3).toNatClampNeg) = (115 : Int32)
  · replace hf := ip e21_3 hf
    refine z_stk (congrArg (fun z => Value.int z :: []) e21_3) ?_
    refine z_lookup C 137 158 dX6_readCommand_21 (by decide) (by decide) (by decide) ?_
    refine z_aload_n C dX6_readCommand_158 1 rfl ?_
    refine z_aload_n C dX6_readCommand_159 2 rfl ?_
    obtain ⟨q160, hq160, hf⟩ := bd_some hf
    refine z_heap pM_i2 ?_
    refine iv_X6_179 C [.ref (m + 3)] [.ref m] (ct_X6_canPass hq160) rfl (by decide) rfl (Nat.le_of_ble_eq_true rfl) z_k0 dX6_readCommand_160 ?_
    refine z_heap pM_i2.symm ?_
    refine z_if_eq C 177 dX6_readCommand_163 (by decide) (fun c163 => ?_) (fun c163 => ?_)
    · replace hf := ip c163 hf
      exact z_sub [] rfl (w_X6_readCommand_b177 C hf)
    · replace hf := iN c163 hf
      refine z_aload_n C dX6_readCommand_166 2 rfl ?_
      obtain ⟨q167, hq167, hf⟩ := bd_some hf
      refine z_heap pM_i2 ?_
      refine iv_X6_182 C [.ref (m + 3)] [.ref m] (ct_X6_passOn hq167) rfl (by decide) rfl (Nat.le_of_ble_eq_true rfl) z_k0 dX6_readCommand_167 ?_
      refine z_heap (pM_j2 _) ?_
      refine z_if_le C 177 dX6_readCommand_170 (by decide) (fun c170 => ?_) (fun c170 => ?_)
      · replace hf := ip c170 hf
        exact z_sub [] rfl (w_X6_readCommand_b177 C hf)
      · replace hf := iN c170 hf
        refine z_iconst C (1 : Int32) dX6_readCommand_173 (by decide) ?_
        refine z_goto C 178 dX6_readCommand_174 (by decide) ?_
        exact z_sub [] rfl (w_X6_readCommand_b178 C hf)
  replace hf := iN e21_3 hf
  by_cases e21_4 : (M.2 0 (M.1 3).toNatClampNeg) = (119 : Int32)
  · replace hf := ip e21_4 hf
    refine z_stk (congrArg (fun z => Value.int z :: []) e21_4) ?_
    refine z_lookup C 113 134 dX6_readCommand_21 (by decide) (by decide) (by decide) ?_
    refine z_aload_n C dX6_readCommand_134 1 rfl ?_
    refine z_aload_n C dX6_readCommand_135 2 rfl ?_
    obtain ⟨q136, hq136, hf⟩ := bd_some hf
    refine z_heap pM_i2 ?_
    refine iv_X6_173 C [.ref (m + 3)] [.ref m] (ct_X6_canDraw hq136) rfl (by decide) rfl (Nat.le_of_ble_eq_true rfl) z_k0 dX6_readCommand_136 ?_
    refine z_heap pM_i2.symm ?_
    refine z_if_eq C 153 dX6_readCommand_139 (by decide) (fun c139 => ?_) (fun c139 => ?_)
    · replace hf := ip c139 hf
      exact z_sub [] rfl (w_X6_readCommand_b153 C hf)
    · replace hf := iN c139 hf
      refine z_aload_n C dX6_readCommand_142 2 rfl ?_
      obtain ⟨q143, hq143, hf⟩ := bd_some hf
      refine z_heap pM_i2 ?_
      refine iv_X6_176 C [.ref (m + 3)] [.ref m] (ct_X6_drawOn hq143) rfl (by decide) rfl (Nat.le_of_ble_eq_true rfl) z_k0 dX6_readCommand_143 ?_
      refine z_heap (pM_j2 _) ?_
      refine z_if_lt C 153 dX6_readCommand_146 (by decide) (fun c146 => ?_) (fun c146 => ?_)
      · replace hf := ip c146 hf
        exact z_sub [] rfl (w_X6_readCommand_b153 C hf)
      · replace hf := iN c146 hf
        refine z_iconst C (1 : Int32) dX6_readCommand_149 (by decide) ?_
        refine z_goto C 154 dX6_readCommand_150 (by decide) ?_
        exact z_sub [] rfl (w_X6_readCommand_b154 C hf)
  replace hf := iN e21_4 hf
  refine z_lookup C (168) 189 dX6_readCommand_21 (by decide) (by have n0 := ne_toInt (v := (98 : Int32)) (z := 98) (by decide) e21_0; have n1 := ne_toInt (v := (100 : Int32)) (z := 100) (by decide) e21_1; have n2 := ne_toInt (v := (112 : Int32)) (z := 112) (by decide) e21_2; have n3 := ne_toInt (v := (115 : Int32)) (z := 115) (by decide) e21_3; have n4 := ne_toInt (v := (119 : Int32)) (z := 119) (by decide) e21_4; simp [Op.lookupswitch.offset, Ne.symm n0, Ne.symm n1, Ne.symm n2, Ne.symm n3, Ne.symm n4]) (by decide) ?_
  refine z_aload_n C dX6_readCommand_189 1 rfl ?_
  refine z_dup C dX6_readCommand_190 rfl ?_
  refine gf_X6_145 C dX6_readCommand_191 ?_
  refine z_iconst C (1 : Int32) dX6_readCommand_194 (by decide) ?_
  refine z_isub C dX6_readCommand_195 ?_
  refine pf_X6_145 C dX6_readCommand_196 ?_
  obtain ⟨Mn1, eMn1, hf⟩ := st_some hf
  refine z_heap (congrArg (fun z => (pM E h0 m z)) eMn1.symm) ?_
  refine z_iconst C (0 : Int32) dX6_readCommand_199 (by decide) ?_
  obtain rfl := Option.some.inj hf
  exact z_zreturn (v := (0 : Int32)) C (by decide) dX6_readCommand_200
/-! X6_readText: depth 11 -/
def f_X6_readText_h39 (n : Nat)  (K39 : MS → Option ((MS) × Int32)) (M : MS) : Option ((MS) × Int32) :=
  if (M.1 1) ≤ (M.1 3) then (some (M, (-1 : Int32))) else ((f_X6_readCommand n M).bind (fun q52 => if q52.2 = 0 then (some (q52.1, (q52.1.1 3))) else (K39 q52.1)))
set_option maxRecDepth 100000 in
set_option maxHeartbeats 4000000 in
theorem w_X6_readText_h39 {E : zE} {X : zX} {h0 : Hp} {m : Nat} {n : Nat}   (C : zC E X RX6 cX6_readText 2 (some .int) 11)   : ∀ (q : Nat) (M : MS) (r : ((MS) × Int32)), lo1 (f_X6_readText_h39 n) q M = some r → zW E X 2 0 0 (MQ (xb X) (zQ E (some (.int r.2)) (pM E h0 m r.1)) (xa X) (xs X) 0 0 (zA E)) 39 (pM E h0 m M) [(0, .ref m), (1, .ref (m + 3))] [] := by
  refine lo1_ind _ ?_
  intro K39 hK39 M r hf
  unfold f_X6_readText_h39 at hf
  refine z_aload_n C dX6_readText_39 0 rfl ?_
  refine gf_X6_145 C dX6_readText_40 ?_
  refine z_aload_n C dX6_readText_43 0 rfl ?_
  refine gf_X6_138 C dX6_readText_44 ?_
  refine z_icmp_ge C 63 dX6_readText_47 (by decide) (fun c47 => ?_) (fun c47 => ?_)
  · replace hf := ip c47 hf
    refine z_iconst C (-1 : Int32) dX6_readText_63 (by decide) ?_
    obtain rfl := Option.some.inj hf
    exact z_ireturn C dX6_readText_64
  · replace hf := iN c47 hf
    refine z_aload_n C dX6_readText_50 0 rfl ?_
    refine z_aload_n C dX6_readText_51 1 rfl ?_
    obtain ⟨q52, hq52, hf⟩ := bd_some hf
    refine iv_X6_188 C [.ref (m + 3)] [] (ct_X6_readCommand hq52) pM_o rfl (by decide) rfl (Nat.le_of_ble_eq_true rfl) z_k0 dX6_readText_52 ?_
    refine z_if_ne C 39 dX6_readText_55 (by decide) (fun c55 => ?_) (fun c55 => ?_)
    · replace hf := iN c55 hf
      exact z_sub [0, 1] rfl (hK39 _ _ hf)
    · replace hf := ip c55 hf
      refine z_aload_n C dX6_readText_58 0 rfl ?_
      refine gf_X6_145 C dX6_readText_59 ?_
      obtain rfl := Option.some.inj hf
      exact z_ireturn C dX6_readText_62
def f_X6_readText (n : Nat) (M : MS) : Option ((MS) × Int32) :=
  (f_X6_clear n (M.2 2)).bind (fun q1 => if ((mS (mS (mA M 2 q1) 4 (0 : Int32)) 3 (0 : Int32)).1 1) = 0 then (some (mS (mS (mA M 2 q1) 4 (0 : Int32)) 3 (0 : Int32), (0 : Int32))) else (chk (inB (0 : Int32) 120) (if ((mS (mS (mA M 2 q1) 4 (0 : Int32)) 3 (0 : Int32)).2 0 (0 : Int32).toNatClampNeg) = (78 : Int32) then (lo1 (f_X6_readText_h39 n) n (mS (mS (mS (mA M 2 q1) 4 (0 : Int32)) 3 (0 : Int32)) 3 (1 : Int32))) else (some (mS (mS (mA M 2 q1) 4 (0 : Int32)) 3 (0 : Int32), (0 : Int32))))))
set_option maxRecDepth 100000 in
set_option maxHeartbeats 4000000 in
theorem ct_X6_readText {E : zE} {l : Launch} {h0 : Hp} {m : Nat} {n : Nat} {M : MS} {r : ((MS) × Int32)}  (hf : f_X6_readText n M = some r) : zM E l 11 yX6_readText cX6_readText 2 (some .int) [.ref m, .ref (m + 3)] (pM E h0 m M) (some (.int r.2)) (pM E h0 m r.1) := by
  refine zM_of (lv := [(0, .ref m), (1, .ref (m + 3))]) (by decide +kernel) (Nat.le_of_ble_eq_true rfl) rfl (fun X hX C => ?_)
  subst hX
  replace C : zC E X RX6 cX6_readText 2 (some .int) 11 := C
  unfold f_X6_readText at hf
  refine z_aload_n C dX6_readText_0 1 rfl ?_
  obtain ⟨q1, hq1, hf⟩ := bd_some hf
  refine z_heap pM_i2 ?_
  refine iv_X6_38 C [.ref (m + 3)] [] (ct_X6_clear hq1) rfl (by decide) rfl (Nat.le_of_ble_eq_true rfl) z_k0 dX6_readText_1 ?_
  refine z_heap (pM_j2 _) ?_
  refine z_aload_n C dX6_readText_4 0 rfl ?_
  refine z_iconst C (0 : Int32) dX6_readText_5 (by decide) ?_
  refine pf_X6_150 C dX6_readText_6 ?_
  refine z_aload_n C dX6_readText_9 0 rfl ?_
  refine z_iconst C (0 : Int32) dX6_readText_10 (by decide) ?_
  refine pf_X6_145 C dX6_readText_11 ?_
  refine z_aload_n C dX6_readText_14 0 rfl ?_
  refine gf_X6_138 C dX6_readText_15 ?_
  refine z_if_eq C 32 dX6_readText_18 (by decide) (fun c18 => ?_) (fun c18 => ?_)
  · replace hf := ip c18 hf
    refine z_iconst C (0 : Int32) dX6_readText_32 (by decide) ?_
    obtain rfl := Option.some.inj hf
    exact z_ireturn C dX6_readText_33
  · replace hf := iN c18 hf
    refine z_aload_n C dX6_readText_21 0 rfl ?_
    refine gf_X6_7 C dX6_readText_22 ?_
    refine z_iconst C (0 : Int32) dX6_readText_25 (by decide) ?_
    obtain ⟨c26, hf⟩ := chk_some hf
    refine z_iald C pM_a0 c26 dX6_readText_26 ?_
    refine z_bipush C (78 : Int32) dX6_readText_27 (by decide) ?_
    refine z_icmp_eq C 34 dX6_readText_29 (by decide) (fun c29 => ?_) (fun c29 => ?_)
    · replace hf := ip c29 hf
      refine z_aload_n C dX6_readText_34 0 rfl ?_
      refine z_iconst C (1 : Int32) dX6_readText_35 (by decide) ?_
      refine pf_X6_145 C dX6_readText_36 ?_
      exact z_sub [0, 1] rfl (w_X6_readText_h39 C n _ _ hf)
    · replace hf := iN c29 hf
      refine z_iconst C (0 : Int32) dX6_readText_32 (by decide) ?_
      obtain rfl := Option.some.inj hf
      exact z_ireturn C dX6_readText_33
/-! X6_errorPosition: depth 12 -/
def f_X6_errorPosition (n : Nat) (M : MS) : Option ((MS) × Int32) :=
  (f_X6_readText n (mS M 0 (0 : Int32))).bind (fun q10 => some (q10.1, q10.2))
set_option maxRecDepth 100000 in
set_option maxHeartbeats 4000000 in
theorem ct_X6_errorPosition {E : zE} {l : Launch} {h0 : Hp} {m : Nat} {n : Nat} {M : MS} {r : ((MS) × Int32)}  (hf : f_X6_errorPosition n M = some r) : zM E l 12 yX6_errorPosition cX6_errorPosition 1 (some .int) [.ref m] (pM E h0 m M) (some (.int r.2)) (pM E h0 m r.1) := by
  refine zM_of (lv := [(0, .ref m)]) (by decide +kernel) (Nat.le_of_ble_eq_true rfl) rfl (fun X hX C => ?_)
  subst hX
  replace C : zC E X RX6 cX6_errorPosition 1 (some .int) 12 := C
  unfold f_X6_errorPosition at hf
  refine z_aload_n C dX6_errorPosition_0 0 rfl ?_
  refine z_iconst C (0 : Int32) dX6_errorPosition_1 (by decide) ?_
  refine pf_X6_42 C dX6_errorPosition_2 ?_
  refine z_aload_n C dX6_errorPosition_5 0 rfl ?_
  refine z_aload_n C dX6_errorPosition_6 0 rfl ?_
  refine gf_X6_16 C dX6_errorPosition_7 ?_
  obtain ⟨q10, hq10, hf⟩ := bd_some hf
  refine iv_X6_191 C [.ref (m + 3)] [] (ct_X6_readText hq10) pM_o rfl (by decide) rfl (Nat.le_of_ble_eq_true rfl) z_k0 dX6_errorPosition_10 ?_
  obtain rfl := Option.some.inj hf
  exact z_ireturn C dX6_errorPosition_13
/-! X6_load: depth 12 -/
def f_X6_load_b18 (n : Nat)   (M : MS) (s0 : Int32) : Option ((MS) × Int32) :=
  (f_X6_refused M s0).bind (fun q18 => if q18.2 = 0 then ((f_X6_copyState n 217 217 (q18.1.2 2) (q18.1.2 1) (0 : Int32) (0 : Int32)).bind (fun q36 => chk (inB (0 : Int32) 2) (stt (mA (mS (mA q18.1 1 q36) 2 (0 : Int32)) 5 (upd ((mS (mA q18.1 1 q36) 2 (0 : Int32)).2 5) (0 : Int32).toNatClampNeg (vp_nar .boolean (0 : Int32)))) (fun Mn1 => chk (inB (1 : Int32) 2) (stt (mA Mn1 5 (upd (Mn1.2 5) (1 : Int32).toNatClampNeg (vp_nar .boolean (0 : Int32)))) (fun Mn2 => some (Mn2, (Mn2.1 4)))))))) else (some (q18.1, (0 : Int32))))
set_option maxRecDepth 100000 in
set_option maxHeartbeats 4000000 in
theorem w_X6_load_b18 {E : zE} {X : zX} {h0 : Hp} {m : Nat} {n : Nat}   (C : zC E X RX6 cX6_load 1 (some .int) 12)   {M : MS} {s0 : Int32} {r : ((MS) × Int32)} (hf : f_X6_load_b18 n M s0 = some r) : zW E X 1 0 0 (MQ (xb X) (zQ E (some (.int r.2)) (pM E h0 m r.1)) (xa X) (xs X) 0 0 (zA E)) 18 (pM E h0 m M) [(0, .ref m)] [.int s0, .ref m] := by
  unfold f_X6_load_b18 at hf
  obtain ⟨q18, hq18, hf⟩ := bd_some hf
  refine iv_X6_141 C [.int s0] [] (ct_X6_refused hq18) pM_o rfl (by decide) rfl (Nat.le_of_ble_eq_true rfl) z_k0 dX6_load_18 ?_
  refine z_if_eq C 26 dX6_load_21 (by decide) (fun c21 => ?_) (fun c21 => ?_)
  · replace hf := ip c21 hf
    refine z_aload_n C dX6_load_26 0 rfl ?_
    refine gf_X6_16 C dX6_load_27 ?_
    refine z_iconst C (0 : Int32) dX6_load_30 (by decide) ?_
    refine z_aload_n C dX6_load_31 0 rfl ?_
    refine gf_X6_13 C dX6_load_32 ?_
    refine z_iconst C (0 : Int32) dX6_load_35 (by decide) ?_
    obtain ⟨q36, hq36, hf⟩ := bd_some hf
    refine z_heap (pI_of pM_a1) ?_
    refine iv_X6_194 C [.ref (m + 3), .int (0 : Int32), .ref (m + 2), .int (0 : Int32)] [] (ct_X6_copyState (a1 := (m + 3)) (by omega) pM_a2 hq36) rfl (by decide) rfl (Nat.le_of_ble_eq_true rfl) z_k0 dX6_load_36 ?_
    refine z_heap (pM_w1 _) ?_
    refine z_aload_n C dX6_load_39 0 rfl ?_
    refine z_iconst C (0 : Int32) dX6_load_40 (by decide) ?_
    refine pf_X6_198 C dX6_load_41 ?_
    refine z_aload_n C dX6_load_44 0 rfl ?_
    refine gf_X6_25 C dX6_load_45 ?_
    refine z_iconst C (0 : Int32) dX6_load_48 (by decide) ?_
    refine z_iconst C (0 : Int32) dX6_load_49 (by decide) ?_
    obtain ⟨c50, hf⟩ := chk_some hf
    refine z_zast C pM_a5 c50 dX6_load_50 _ (pM_w5 _) ?_
    obtain ⟨Mn1, eMn1, hf⟩ := st_some hf
    refine z_heap (congrArg (fun z => (pM E h0 m z)) eMn1.symm) ?_
    refine z_aload_n C dX6_load_51 0 rfl ?_
    refine gf_X6_25 C dX6_load_52 ?_
    refine z_iconst C (1 : Int32) dX6_load_55 (by decide) ?_
    refine z_iconst C (0 : Int32) dX6_load_56 (by decide) ?_
    obtain ⟨c57, hf⟩ := chk_some hf
    refine z_zast C pM_a5 c57 dX6_load_57 _ (pM_w5 _) ?_
    obtain ⟨Mn2, eMn2, hf⟩ := st_some hf
    refine z_heap (congrArg (fun z => (pM E h0 m z)) eMn2.symm) ?_
    refine z_aload_n C dX6_load_58 0 rfl ?_
    refine gf_X6_150 C dX6_load_59 ?_
    obtain rfl := Option.some.inj hf
    exact z_ireturn C dX6_load_62
  · replace hf := iN c21 hf
    refine z_iconst C (0 : Int32) dX6_load_24 (by decide) ?_
    obtain rfl := Option.some.inj hf
    exact z_ireturn C dX6_load_25
def f_X6_load (n : Nat) (M : MS) : Option ((MS) × Int32) :=
  (f_X6_readText n M).bind (fun q6 => if q6.2 = (-1 : Int32) then (f_X6_load_b18 n q6.1 (0 : Int32)) else (f_X6_load_b18 n q6.1 (1 : Int32)))
set_option maxRecDepth 100000 in
set_option maxHeartbeats 4000000 in
theorem ct_X6_load {E : zE} {l : Launch} {h0 : Hp} {m : Nat} {n : Nat} {M : MS} {r : ((MS) × Int32)}  (hf : f_X6_load n M = some r) : zM E l 12 yX6_load cX6_load 1 (some .int) [.ref m] (pM E h0 m M) (some (.int r.2)) (pM E h0 m r.1) := by
  refine zM_of (lv := [(0, .ref m)]) (by decide +kernel) (Nat.le_of_ble_eq_true rfl) rfl (fun X hX C => ?_)
  subst hX
  replace C : zC E X RX6 cX6_load 1 (some .int) 12 := C
  unfold f_X6_load at hf
  refine z_aload_n C dX6_load_0 0 rfl ?_
  refine z_aload_n C dX6_load_1 0 rfl ?_
  refine z_aload_n C dX6_load_2 0 rfl ?_
  refine gf_X6_16 C dX6_load_3 ?_
  obtain ⟨q6, hq6, hf⟩ := bd_some hf
  refine iv_X6_191 C [.ref (m + 3)] [.ref m] (ct_X6_readText hq6) pM_o rfl (by decide) rfl (Nat.le_of_ble_eq_true rfl) z_k0 dX6_load_6 ?_
  refine z_iconst C (-1 : Int32) dX6_load_9 (by decide) ?_
  refine z_icmp_ne C 17 dX6_load_10 (by decide) (fun c10 => ?_) (fun c10 => ?_)
  · replace hf := iN c10 hf
    refine z_iconst C (1 : Int32) dX6_load_17 (by decide) ?_
    exact z_sub [0] rfl (w_X6_load_b18 C hf)
  · replace hf := ip c10 hf
    refine z_iconst C (0 : Int32) dX6_load_13 (by decide) ?_
    refine z_goto C 18 dX6_load_14 (by decide) ?_
    exact z_sub [0] rfl (w_X6_load_b18 C hf)
/-! X6_about: depth 5 -/
def f_X6_about_b18 (n : Nat) (x1 : Int32)   (M : MS) (s0 : Int32) : Option ((MS) × Int32) :=
  (f_X6_refused M s0).bind (fun q18 => if q18.2 = 0 then (if x1 = (3 : Int32) then (chk (inB (1 : Int32) 217) (if (q18.1.2 1 (1 : Int32).toNatClampNeg) = (1 : Int32) then (chk (inB (3 : Int32) 217) (some (q18.1, (q18.1.2 1 (3 : Int32).toNatClampNeg)))) else (some (q18.1, (-1 : Int32))))) else (if x1 = (4 : Int32) then (chk (inB x1 217) (some (q18.1, (q18.1.2 1 x1.toNatClampNeg)))) else (if x1 = (5 : Int32) then (chk (inB x1 217) (some (q18.1, (q18.1.2 1 x1.toNatClampNeg)))) else (if x1 = (6 : Int32) then (chk (inB x1 217) (some (q18.1, (q18.1.2 1 x1.toNatClampNeg)))) else (if x1 = (7 : Int32) then (chk (inB x1 217) (some (q18.1, (q18.1.2 1 x1.toNatClampNeg)))) else (if x1 = (8 : Int32) then (chk (inB x1 217) (some (q18.1, (q18.1.2 1 x1.toNatClampNeg)))) else (if x1 = (9 : Int32) then ((f_X6_tablePips n (q18.1.2 1)).bind (fun q101 => some (q18.1, q101))) else (if x1 = (10 : Int32) then (chk (inB (x1 - (1 : Int32)) 217) (some (q18.1, (q18.1.2 1 (x1 - (1 : Int32)).toNatClampNeg)))) else (if x1 = (11 : Int32) then (chk (inB (x1 - (1 : Int32)) 217) (some (q18.1, (q18.1.2 1 (x1 - (1 : Int32)).toNatClampNeg)))) else (chk (inB x1 217) (some (q18.1, (q18.1.2 1 x1.toNatClampNeg))))))))))))) else (some (q18.1, (0 : Int32))))
set_option maxRecDepth 100000 in
set_option maxHeartbeats 4000000 in
theorem w_X6_about_b18 {E : zE} {X : zX} {h0 : Hp} {m : Nat} {n : Nat} {x1 : Int32}   (C : zC E X RX6 cX6_about 2 (some .int) 5)   {M : MS} {s0 : Int32} {r : ((MS) × Int32)} (hf : f_X6_about_b18 n x1 M s0 = some r) : zW E X 2 0 0 (MQ (xb X) (zQ E (some (.int r.2)) (pM E h0 m r.1)) (xa X) (xs X) 0 0 (zA E)) 18 (pM E h0 m M) [(0, .ref m), (1, .int x1)] [.int s0, .ref m] := by
  unfold f_X6_about_b18 at hf
  obtain ⟨q18, hq18, hf⟩ := bd_some hf
  refine iv_X6_141 C [.int s0] [] (ct_X6_refused hq18) pM_o rfl (by decide) rfl (Nat.le_of_ble_eq_true rfl) z_k0 dX6_about_18 ?_
  refine z_if_eq C 26 dX6_about_21 (by decide) (fun c21 => ?_) (fun c21 => ?_)
  · replace hf := ip c21 hf
    refine z_iload_n C dX6_about_26 1 rfl ?_
    by_cases e27_0 : x1 = (3 : Int32)
    · replace hf := ip e27_0 hf
      refine z_stk (congrArg (fun z => Value.int z :: []) e27_0) ?_
      refine z_tableIn C 49 76 dX6_about_27 (by decide) (by decide) (by decide) (by decide) ?_
      refine z_aload_n C dX6_about_76 0 rfl ?_
      refine gf_X6_13 C dX6_about_77 ?_
      refine z_iconst C (1 : Int32) dX6_about_80 (by decide) ?_
      obtain ⟨c81, hf⟩ := chk_some hf
      refine z_iald C pM_a1 c81 dX6_about_81 ?_
      refine z_iconst C (1 : Int32) dX6_about_82 (by decide) ?_
      refine z_icmp_ne C 95 dX6_about_83 (by decide) (fun c83 => ?_) (fun c83 => ?_)
      · replace hf := iN c83 hf
        refine z_iconst C (-1 : Int32) dX6_about_95 (by decide) ?_
        obtain rfl := Option.some.inj hf
        exact z_ireturn C dX6_about_96
      · replace hf := ip c83 hf
        refine z_aload_n C dX6_about_86 0 rfl ?_
        refine gf_X6_13 C dX6_about_87 ?_
        refine z_iconst C (3 : Int32) dX6_about_90 (by decide) ?_
        obtain ⟨c91, hf⟩ := chk_some hf
        refine z_iald C pM_a1 c91 dX6_about_91 ?_
        refine z_goto C 96 dX6_about_92 (by decide) ?_
        obtain rfl := Option.some.inj hf
        exact z_ireturn C dX6_about_96
    replace hf := iN e27_0 hf
    by_cases e27_1 : x1 = (4 : Int32)
    · replace hf := ip e27_1 hf
      refine z_stk (congrArg (fun z => Value.int z :: []) e27_1) ?_
      refine z_tableIn C 87 114 dX6_about_27 (by decide) (by decide) (by decide) (by decide) ?_
      refine z_aload_n C dX6_about_114 0 rfl ?_
      refine gf_X6_13 C dX6_about_115 ?_
      refine z_iload_n C dX6_about_118 1 rfl ?_
      obtain ⟨c119, hf⟩ := chk_some hf
      refine z_iald C pM_a1 c119 dX6_about_119 ?_
      obtain rfl := Option.some.inj hf
      exact z_ireturn C dX6_about_120
    replace hf := iN e27_1 hf
    by_cases e27_2 : x1 = (5 : Int32)
    · replace hf := ip e27_2 hf
      refine z_stk (congrArg (fun z => Value.int z :: []) e27_2) ?_
      refine z_tableIn C 87 114 dX6_about_27 (by decide) (by decide) (by decide) (by decide) ?_
      refine z_aload_n C dX6_about_114 0 rfl ?_
      refine gf_X6_13 C dX6_about_115 ?_
      refine z_iload_n C dX6_about_118 1 rfl ?_
      obtain ⟨c119, hf⟩ := chk_some hf
      refine z_iald C pM_a1 c119 dX6_about_119 ?_
      obtain rfl := Option.some.inj hf
      exact z_ireturn C dX6_about_120
    replace hf := iN e27_2 hf
    by_cases e27_3 : x1 = (6 : Int32)
    · replace hf := ip e27_3 hf
      refine z_stk (congrArg (fun z => Value.int z :: []) e27_3) ?_
      refine z_tableIn C 87 114 dX6_about_27 (by decide) (by decide) (by decide) (by decide) ?_
      refine z_aload_n C dX6_about_114 0 rfl ?_
      refine gf_X6_13 C dX6_about_115 ?_
      refine z_iload_n C dX6_about_118 1 rfl ?_
      obtain ⟨c119, hf⟩ := chk_some hf
      refine z_iald C pM_a1 c119 dX6_about_119 ?_
      obtain rfl := Option.some.inj hf
      exact z_ireturn C dX6_about_120
    replace hf := iN e27_3 hf
    by_cases e27_4 : x1 = (7 : Int32)
    · replace hf := ip e27_4 hf
      refine z_stk (congrArg (fun z => Value.int z :: []) e27_4) ?_
      refine z_tableIn C 87 114 dX6_about_27 (by decide) (by decide) (by decide) (by decide) ?_
      refine z_aload_n C dX6_about_114 0 rfl ?_
      refine gf_X6_13 C dX6_about_115 ?_
      refine z_iload_n C dX6_about_118 1 rfl ?_
      obtain ⟨c119, hf⟩ := chk_some hf
      refine z_iald C pM_a1 c119 dX6_about_119 ?_
      obtain rfl := Option.some.inj hf
      exact z_ireturn C dX6_about_120
    replace hf := iN e27_4 hf
    by_cases e27_5 : x1 = (8 : Int32)
    · replace hf := ip e27_5 hf
      refine z_stk (congrArg (fun z => Value.int z :: []) e27_5) ?_
      refine z_tableIn C 87 114 dX6_about_27 (by decide) (by decide) (by decide) (by decide) ?_
      refine z_aload_n C dX6_about_114 0 rfl ?_
      refine gf_X6_13 C dX6_about_115 ?_
      refine z_iload_n C dX6_about_118 1 rfl ?_
      obtain ⟨c119, hf⟩ := chk_some hf
      refine z_iald C pM_a1 c119 dX6_about_119 ?_
      obtain rfl := Option.some.inj hf
      exact z_ireturn C dX6_about_120
    replace hf := iN e27_5 hf
    by_cases e27_6 : x1 = (9 : Int32)
    · replace hf := ip e27_6 hf
      refine z_stk (congrArg (fun z => Value.int z :: []) e27_6) ?_
      refine z_tableIn C 70 97 dX6_about_27 (by decide) (by decide) (by decide) (by decide) ?_
      refine z_aload_n C dX6_about_97 0 rfl ?_
      refine gf_X6_13 C dX6_about_98 ?_
      obtain ⟨q101, hq101, hf⟩ := bd_some hf
      refine z_heap pM_i1 ?_
      refine iv_X6_203 C [.ref (m + 2)] [] (ct_X6_tablePips hq101) rfl (by decide) rfl (Nat.le_of_ble_eq_true rfl) z_k0 dX6_about_101 ?_
      refine z_heap pM_i1.symm ?_
      obtain rfl := Option.some.inj hf
      exact z_ireturn C dX6_about_104
    replace hf := iN e27_6 hf
    by_cases e27_7 : x1 = (10 : Int32)
    · replace hf := ip e27_7 hf
      refine z_stk (congrArg (fun z => Value.int z :: []) e27_7) ?_
      refine z_tableIn C 78 105 dX6_about_27 (by decide) (by decide) (by decide) (by decide) ?_
      refine z_aload_n C dX6_about_105 0 rfl ?_
      refine gf_X6_13 C dX6_about_106 ?_
      refine z_iload_n C dX6_about_109 1 rfl ?_
      refine z_iconst C (1 : Int32) dX6_about_110 (by decide) ?_
      refine z_isub C dX6_about_111 ?_
      obtain ⟨c112, hf⟩ := chk_some hf
      refine z_iald C pM_a1 c112 dX6_about_112 ?_
      obtain rfl := Option.some.inj hf
      exact z_ireturn C dX6_about_113
    replace hf := iN e27_7 hf
    by_cases e27_8 : x1 = (11 : Int32)
    · replace hf := ip e27_8 hf
      refine z_stk (congrArg (fun z => Value.int z :: []) e27_8) ?_
      refine z_tableIn C 78 105 dX6_about_27 (by decide) (by decide) (by decide) (by decide) ?_
      refine z_aload_n C dX6_about_105 0 rfl ?_
      refine gf_X6_13 C dX6_about_106 ?_
      refine z_iload_n C dX6_about_109 1 rfl ?_
      refine z_iconst C (1 : Int32) dX6_about_110 (by decide) ?_
      refine z_isub C dX6_about_111 ?_
      obtain ⟨c112, hf⟩ := chk_some hf
      refine z_iald C pM_a1 c112 dX6_about_112 ?_
      obtain rfl := Option.some.inj hf
      exact z_ireturn C dX6_about_113
    replace hf := iN e27_8 hf
    refine z_tableOut C 114 dX6_about_27 (by have n0 := ne_toInt (v := (3 : Int32)) (z := 3) (by decide) e27_0; have n1 := ne_toInt (v := (4 : Int32)) (z := 4) (by decide) e27_1; have n2 := ne_toInt (v := (5 : Int32)) (z := 5) (by decide) e27_2; have n3 := ne_toInt (v := (6 : Int32)) (z := 6) (by decide) e27_3; have n4 := ne_toInt (v := (7 : Int32)) (z := 7) (by decide) e27_4; have n5 := ne_toInt (v := (8 : Int32)) (z := 8) (by decide) e27_5; have n6 := ne_toInt (v := (9 : Int32)) (z := 9) (by decide) e27_6; have n7 := ne_toInt (v := (10 : Int32)) (z := 10) (by decide) e27_7; have n8 := ne_toInt (v := (11 : Int32)) (z := 11) (by decide) e27_8; omega) (by decide) ?_
    refine z_aload_n C dX6_about_114 0 rfl ?_
    refine gf_X6_13 C dX6_about_115 ?_
    refine z_iload_n C dX6_about_118 1 rfl ?_
    obtain ⟨c119, hf⟩ := chk_some hf
    refine z_iald C pM_a1 c119 dX6_about_119 ?_
    obtain rfl := Option.some.inj hf
    exact z_ireturn C dX6_about_120
  · replace hf := iN c21 hf
    refine z_iconst C (0 : Int32) dX6_about_24 (by decide) ?_
    obtain rfl := Option.some.inj hf
    exact z_ireturn C dX6_about_25
def f_X6_about (n : Nat) (M : MS) (x1 : Int32) : Option ((MS) × Int32) :=
  (f_X6_in x1.toInt64 (0 : Int64) (11 : Int64)).bind (fun q7 => if q7 = 0 then (f_X6_about_b18 n x1 M (1 : Int32)) else (f_X6_about_b18 n x1 M (0 : Int32)))
set_option maxRecDepth 100000 in
set_option maxHeartbeats 4000000 in
theorem ct_X6_about {E : zE} {l : Launch} {h0 : Hp} {m : Nat} {n : Nat} {M : MS} {x1 : Int32} {r : ((MS) × Int32)}  (hf : f_X6_about n M x1 = some r) : zM E l 5 yX6_about cX6_about 2 (some .int) [.ref m, .int x1] (pM E h0 m M) (some (.int r.2)) (pM E h0 m r.1) := by
  refine zM_of (lv := [(0, .ref m), (1, .int x1)]) (by decide +kernel) (Nat.le_of_ble_eq_true rfl) rfl (fun X hX C => ?_)
  subst hX
  replace C : zC E X RX6 cX6_about 2 (some .int) 5 := C
  unfold f_X6_about at hf
  refine z_aload_n C dX6_about_0 0 rfl ?_
  refine z_iload_n C dX6_about_1 1 rfl ?_
  refine z_i2l C dX6_about_2 ?_
  refine z_lconst C (0 : Int64) dX6_about_3 (by decide) ?_
  refine z_ldc2 C (11 : Int64) dX6_about_4 cn_X6_201 ?_
  obtain ⟨q7, hq7, hf⟩ := bd_some hf
  refine iv_X6_55 C [.long x1.toInt64, .long (0 : Int64), .long (11 : Int64)] [.ref m] (ct_X6_in hq7) rfl (by decide) rfl (Nat.le_of_ble_eq_true rfl) z_k0 dX6_about_7 ?_
  refine z_if_eq C 17 dX6_about_10 (by decide) (fun c10 => ?_) (fun c10 => ?_)
  · replace hf := ip c10 hf
    refine z_iconst C (1 : Int32) dX6_about_17 (by decide) ?_
    exact z_sub [0, 1] rfl (w_X6_about_b18 C hf)
  · replace hf := iN c10 hf
    refine z_iconst C (0 : Int32) dX6_about_13 (by decide) ?_
    refine z_goto C 18 dX6_about_14 (by decide) ?_
    exact z_sub [0, 1] rfl (w_X6_about_b18 C hf)
/-! X6_tileOf: depth 3 -/
def f_X6_tileOf_b29 (n : Nat) (x1 : Int32) (x2 : Int32)   (M : MS) (s0 : Int32) : Option ((MS) × Int32) :=
  (f_X6_refused M s0).bind (fun q29 => if q29.2 = 0 then (if x2 = 0 then ((f_X6_lesser n x1).bind (fun q42 => some (q29.1, q42))) else (if x2 = (1 : Int32) then ((f_X6_greater n x1).bind (fun q54 => some (q29.1, q54))) else (if x2 = (2 : Int32) then (chk (inB ((21 : Int32) + x1) 217) (some (q29.1, (q29.1.2 1 ((21 : Int32) + x1).toNatClampNeg)))) else (if x2 = (3 : Int32) then ((f_X6_placeOf n (q29.1.2 1) x1).bind (fun q87 => some (q29.1, q87))) else ((f_X6_inHeap n (q29.1.2 1) x1).bind (fun q98 => some (q29.1, q98))))))) else (some (q29.1, (0 : Int32))))
set_option maxRecDepth 100000 in
set_option maxHeartbeats 4000000 in
theorem w_X6_tileOf_b29 {E : zE} {X : zX} {h0 : Hp} {m : Nat} {n : Nat} {x1 : Int32} {x2 : Int32}   (C : zC E X RX6 cX6_tileOf 3 (some .int) 3)   {M : MS} {s0 : Int32} {r : ((MS) × Int32)} (hf : f_X6_tileOf_b29 n x1 x2 M s0 = some r) : zW E X 3 0 0 (MQ (xb X) (zQ E (some (.int r.2)) (pM E h0 m r.1)) (xa X) (xs X) 0 0 (zA E)) 29 (pM E h0 m M) [(0, .ref m), (1, .int x1), (2, .int x2)] [.int s0, .ref m] := by
  unfold f_X6_tileOf_b29 at hf
  obtain ⟨q29, hq29, hf⟩ := bd_some hf
  refine iv_X6_141 C [.int s0] [] (ct_X6_refused hq29) pM_o rfl (by decide) rfl (Nat.le_of_ble_eq_true rfl) z_k0 dX6_tileOf_29 ?_
  refine z_if_eq C 37 dX6_tileOf_32 (by decide) (fun c32 => ?_) (fun c32 => ?_)
  · replace hf := ip c32 hf
    refine z_iload_n C dX6_tileOf_37 2 rfl ?_
    refine z_if_ne C 48 dX6_tileOf_38 (by decide) (fun c38 => ?_) (fun c38 => ?_)
    · replace hf := iN c38 hf
      refine z_iload_n C dX6_tileOf_48 2 rfl ?_
      refine z_iconst C (1 : Int32) dX6_tileOf_49 (by decide) ?_
      refine z_icmp_ne C 60 dX6_tileOf_50 (by decide) (fun c50 => ?_) (fun c50 => ?_)
      · replace hf := iN c50 hf
        refine z_iload_n C dX6_tileOf_60 2 rfl ?_
        refine z_iconst C (2 : Int32) dX6_tileOf_61 (by decide) ?_
        refine z_icmp_ne C 77 dX6_tileOf_62 (by decide) (fun c62 => ?_) (fun c62 => ?_)
        · replace hf := iN c62 hf
          refine z_iload_n C dX6_tileOf_77 2 rfl ?_
          refine z_iconst C (3 : Int32) dX6_tileOf_78 (by decide) ?_
          refine z_icmp_ne C 93 dX6_tileOf_79 (by decide) (fun c79 => ?_) (fun c79 => ?_)
          · replace hf := iN c79 hf
            refine z_aload_n C dX6_tileOf_93 0 rfl ?_
            refine gf_X6_13 C dX6_tileOf_94 ?_
            refine z_iload_n C dX6_tileOf_97 1 rfl ?_
            obtain ⟨q98, hq98, hf⟩ := bd_some hf
            refine z_heap pM_i1 ?_
            refine iv_X6_214 C [.ref (m + 2), .int x1] [] (ct_X6_inHeap hq98) rfl (by decide) rfl (Nat.le_of_ble_eq_true rfl) z_k0 dX6_tileOf_98 ?_
            refine z_heap pM_i1.symm ?_
            obtain rfl := Option.some.inj hf
            exact z_ireturn C dX6_tileOf_101
          · replace hf := ip c79 hf
            refine z_aload_n C dX6_tileOf_82 0 rfl ?_
            refine gf_X6_13 C dX6_tileOf_83 ?_
            refine z_iload_n C dX6_tileOf_86 1 rfl ?_
            obtain ⟨q87, hq87, hf⟩ := bd_some hf
            refine z_heap pM_i1 ?_
            refine iv_X6_211 C [.ref (m + 2), .int x1] [] (ct_X6_placeOf hq87) rfl (by decide) rfl (Nat.le_of_ble_eq_true rfl) z_k0 dX6_tileOf_87 ?_
            refine z_heap pM_i1.symm ?_
            refine z_goto C 101 dX6_tileOf_90 (by decide) ?_
            obtain rfl := Option.some.inj hf
            exact z_ireturn C dX6_tileOf_101
        · replace hf := ip c62 hf
          refine z_aload_n C dX6_tileOf_65 0 rfl ?_
          refine gf_X6_13 C dX6_tileOf_66 ?_
          refine z_bipush C (21 : Int32) dX6_tileOf_69 (by decide) ?_
          refine z_iload_n C dX6_tileOf_71 1 rfl ?_
          refine z_iadd C dX6_tileOf_72 ?_
          obtain ⟨c73, hf⟩ := chk_some hf
          refine z_iald C pM_a1 c73 dX6_tileOf_73 ?_
          refine z_goto C 101 dX6_tileOf_74 (by decide) ?_
          obtain rfl := Option.some.inj hf
          exact z_ireturn C dX6_tileOf_101
      · replace hf := ip c50 hf
        refine z_iload_n C dX6_tileOf_53 1 rfl ?_
        obtain ⟨q54, hq54, hf⟩ := bd_some hf
        refine iv_X6_50 C [.int x1] [] (ct_X6_greater hq54) rfl (by decide) rfl (Nat.le_of_ble_eq_true rfl) z_k0 dX6_tileOf_54 ?_
        refine z_goto C 101 dX6_tileOf_57 (by decide) ?_
        obtain rfl := Option.some.inj hf
        exact z_ireturn C dX6_tileOf_101
    · replace hf := ip c38 hf
      refine z_iload_n C dX6_tileOf_41 1 rfl ?_
      obtain ⟨q42, hq42, hf⟩ := bd_some hf
      refine iv_X6_46 C [.int x1] [] (ct_X6_lesser hq42) rfl (by decide) rfl (Nat.le_of_ble_eq_true rfl) z_k0 dX6_tileOf_42 ?_
      refine z_goto C 101 dX6_tileOf_45 (by decide) ?_
      obtain rfl := Option.some.inj hf
      exact z_ireturn C dX6_tileOf_101
  · replace hf := iN c32 hf
    refine z_iconst C (0 : Int32) dX6_tileOf_35 (by decide) ?_
    obtain rfl := Option.some.inj hf
    exact z_ireturn C dX6_tileOf_36
def f_X6_tileOf (n : Nat) (M : MS) (x1 : Int32) (x2 : Int32) : Option ((MS) × Int32) :=
  (f_X6_isTile x1).bind (fun q2 => if q2 = 0 then (f_X6_tileOf_b29 n x1 x2 M (1 : Int32)) else ((f_X6_in x2.toInt64 (0 : Int64) (4 : Int64)).bind (fun q18 => if q18 = 0 then (f_X6_tileOf_b29 n x1 x2 M (2 : Int32)) else (f_X6_tileOf_b29 n x1 x2 M (0 : Int32)))))
set_option maxRecDepth 100000 in
set_option maxHeartbeats 4000000 in
theorem ct_X6_tileOf {E : zE} {l : Launch} {h0 : Hp} {m : Nat} {n : Nat} {M : MS} {x1 : Int32} {x2 : Int32} {r : ((MS) × Int32)}  (hf : f_X6_tileOf n M x1 x2 = some r) : zM E l 3 yX6_tileOf cX6_tileOf 3 (some .int) [.ref m, .int x1, .int x2] (pM E h0 m M) (some (.int r.2)) (pM E h0 m r.1) := by
  refine zM_of (lv := [(0, .ref m), (1, .int x1), (2, .int x2)]) (by decide +kernel) (Nat.le_of_ble_eq_true rfl) rfl (fun X hX C => ?_)
  subst hX
  replace C : zC E X RX6 cX6_tileOf 3 (some .int) 3 := C
  unfold f_X6_tileOf at hf
  refine z_aload_n C dX6_tileOf_0 0 rfl ?_
  refine z_iload_n C dX6_tileOf_1 1 rfl ?_
  obtain ⟨q2, hq2, hf⟩ := bd_some hf
  refine iv_X6_206 C [.int x1] [.ref m] (ct_X6_isTile hq2) rfl (by decide) rfl (Nat.le_of_ble_eq_true rfl) z_k0 dX6_tileOf_2 ?_
  refine z_if_ne C 12 dX6_tileOf_5 (by decide) (fun c5 => ?_) (fun c5 => ?_)
  · replace hf := iN c5 hf
    refine z_iload_n C dX6_tileOf_12 2 rfl ?_
    refine z_i2l C dX6_tileOf_13 ?_
    refine z_lconst C (0 : Int64) dX6_tileOf_14 (by decide) ?_
    refine z_ldc2 C (4 : Int64) dX6_tileOf_15 cn_X6_209 ?_
    obtain ⟨q18, hq18, hf⟩ := bd_some hf
    refine iv_X6_55 C [.long x2.toInt64, .long (0 : Int64), .long (4 : Int64)] [.ref m] (ct_X6_in hq18) rfl (by decide) rfl (Nat.le_of_ble_eq_true rfl) z_k0 dX6_tileOf_18 ?_
    refine z_if_eq C 28 dX6_tileOf_21 (by decide) (fun c21 => ?_) (fun c21 => ?_)
    · replace hf := ip c21 hf
      refine z_iconst C (2 : Int32) dX6_tileOf_28 (by decide) ?_
      exact z_sub [0, 1, 2] rfl (w_X6_tileOf_b29 C hf)
    · replace hf := iN c21 hf
      refine z_iconst C (0 : Int32) dX6_tileOf_24 (by decide) ?_
      refine z_goto C 29 dX6_tileOf_25 (by decide) ?_
      exact z_sub [0, 1, 2] rfl (w_X6_tileOf_b29 C hf)
  · replace hf := ip c5 hf
    refine z_iconst C (1 : Int32) dX6_tileOf_8 (by decide) ?_
    refine z_goto C 29 dX6_tileOf_9 (by decide) ?_
    exact z_sub [0, 1, 2] rfl (w_X6_tileOf_b29 C hf)
/-! X6_laid: depth 5 -/
def f_X6_laid_b40 (n : Nat) (x1 : Int32) (x2 : Int32)   (M : MS) (s0 : Int32) : Option ((MS) × Int32) :=
  (f_X6_refused M s0).bind (fun q40 => if q40.2 = 0 then (if (5 : Int32) ≤ x2 then ((f_X6_otherPips n (q40.1.2 1) x1).bind (fun q70 => some (q40.1, q70))) else ((f_X6_onTable (q40.1.2 1) x1 x2).bind (fun q59 => some (q40.1, q59)))) else (some (q40.1, (0 : Int32))))
set_option maxRecDepth 100000 in
set_option maxHeartbeats 4000000 in
theorem w_X6_laid_b40 {E : zE} {X : zX} {h0 : Hp} {m : Nat} {n : Nat} {x1 : Int32} {x2 : Int32}   (C : zC E X RX6 cX6_laid 3 (some .int) 5)   {M : MS} {s0 : Int32} {r : ((MS) × Int32)} (hf : f_X6_laid_b40 n x1 x2 M s0 = some r) : zW E X 3 0 0 (MQ (xb X) (zQ E (some (.int r.2)) (pM E h0 m r.1)) (xa X) (xs X) 0 0 (zA E)) 40 (pM E h0 m M) [(0, .ref m), (1, .int x1), (2, .int x2)] [.int s0, .ref m] := by
  unfold f_X6_laid_b40 at hf
  obtain ⟨q40, hq40, hf⟩ := bd_some hf
  refine iv_X6_141 C [.int s0] [] (ct_X6_refused hq40) pM_o rfl (by decide) rfl (Nat.le_of_ble_eq_true rfl) z_k0 dX6_laid_40 ?_
  refine z_if_eq C 48 dX6_laid_43 (by decide) (fun c43 => ?_) (fun c43 => ?_)
  · replace hf := ip c43 hf
    refine z_iload_n C dX6_laid_48 2 rfl ?_
    refine z_iconst C (5 : Int32) dX6_laid_49 (by decide) ?_
    refine z_icmp_ge C 65 dX6_laid_50 (by decide) (fun c50 => ?_) (fun c50 => ?_)
    · replace hf := ip c50 hf
      refine z_aload_n C dX6_laid_65 0 rfl ?_
      refine gf_X6_13 C dX6_laid_66 ?_
      refine z_iload_n C dX6_laid_69 1 rfl ?_
      obtain ⟨q70, hq70, hf⟩ := bd_some hf
      refine z_heap pM_i1 ?_
      refine iv_X6_78 C [.ref (m + 2), .int x1] [] (ct_X6_otherPips hq70) rfl (by decide) rfl (Nat.le_of_ble_eq_true rfl) z_k0 dX6_laid_70 ?_
      refine z_heap pM_i1.symm ?_
      obtain rfl := Option.some.inj hf
      exact z_ireturn C dX6_laid_73
    · replace hf := iN c50 hf
      refine z_aload_n C dX6_laid_53 0 rfl ?_
      refine gf_X6_13 C dX6_laid_54 ?_
      refine z_iload_n C dX6_laid_57 1 rfl ?_
      refine z_iload_n C dX6_laid_58 2 rfl ?_
      obtain ⟨q59, hq59, hf⟩ := bd_some hf
      refine z_heap pM_i1 ?_
      refine iv_X6_62 C [.ref (m + 2), .int x1, .int x2] [] (ct_X6_onTable hq59) rfl (by decide) rfl (Nat.le_of_ble_eq_true rfl) z_k0 dX6_laid_59 ?_
      refine z_heap pM_i1.symm ?_
      refine z_goto C 73 dX6_laid_62 (by decide) ?_
      obtain rfl := Option.some.inj hf
      exact z_ireturn C dX6_laid_73
  · replace hf := iN c43 hf
    refine z_iconst C (0 : Int32) dX6_laid_46 (by decide) ?_
    obtain rfl := Option.some.inj hf
    exact z_ireturn C dX6_laid_47
def f_X6_laid (n : Nat) (M : MS) (x1 : Int32) (x2 : Int32) : Option ((MS) × Int32) :=
  chk (inB (5 : Int32) 217) ((f_X6_in x1.toInt64 (0 : Int64) (((M.2 1 (5 : Int32).toNatClampNeg) - (1 : Int32)).toInt64)).bind (fun q13 => if q13 = 0 then (f_X6_laid_b40 n x1 x2 M (1 : Int32)) else ((f_X6_in x2.toInt64 (0 : Int64) (5 : Int64)).bind (fun q29 => if q29 = 0 then (f_X6_laid_b40 n x1 x2 M (2 : Int32)) else (f_X6_laid_b40 n x1 x2 M (0 : Int32))))))
set_option maxRecDepth 100000 in
set_option maxHeartbeats 4000000 in
theorem ct_X6_laid {E : zE} {l : Launch} {h0 : Hp} {m : Nat} {n : Nat} {M : MS} {x1 : Int32} {x2 : Int32} {r : ((MS) × Int32)}  (hf : f_X6_laid n M x1 x2 = some r) : zM E l 5 yX6_laid cX6_laid 3 (some .int) [.ref m, .int x1, .int x2] (pM E h0 m M) (some (.int r.2)) (pM E h0 m r.1) := by
  refine zM_of (lv := [(0, .ref m), (1, .int x1), (2, .int x2)]) (by decide +kernel) (Nat.le_of_ble_eq_true rfl) rfl (fun X hX C => ?_)
  subst hX
  replace C : zC E X RX6 cX6_laid 3 (some .int) 5 := C
  unfold f_X6_laid at hf
  refine z_aload_n C dX6_laid_0 0 rfl ?_
  refine z_iload_n C dX6_laid_1 1 rfl ?_
  refine z_i2l C dX6_laid_2 ?_
  refine z_lconst C (0 : Int64) dX6_laid_3 (by decide) ?_
  refine z_aload_n C dX6_laid_4 0 rfl ?_
  refine gf_X6_13 C dX6_laid_5 ?_
  refine z_iconst C (5 : Int32) dX6_laid_8 (by decide) ?_
  obtain ⟨c9, hf⟩ := chk_some hf
  refine z_iald C pM_a1 c9 dX6_laid_9 ?_
  refine z_iconst C (1 : Int32) dX6_laid_10 (by decide) ?_
  refine z_isub C dX6_laid_11 ?_
  refine z_i2l C dX6_laid_12 ?_
  obtain ⟨q13, hq13, hf⟩ := bd_some hf
  refine iv_X6_55 C [.long x1.toInt64, .long (0 : Int64), .long (((M.2 1 (5 : Int32).toNatClampNeg) - (1 : Int32)).toInt64)] [.ref m] (ct_X6_in hq13) rfl (by decide) rfl (Nat.le_of_ble_eq_true rfl) z_k0 dX6_laid_13 ?_
  refine z_if_ne C 23 dX6_laid_16 (by decide) (fun c16 => ?_) (fun c16 => ?_)
  · replace hf := iN c16 hf
    refine z_iload_n C dX6_laid_23 2 rfl ?_
    refine z_i2l C dX6_laid_24 ?_
    refine z_lconst C (0 : Int64) dX6_laid_25 (by decide) ?_
    refine z_ldc2 C (5 : Int64) dX6_laid_26 cn_X6_217 ?_
    obtain ⟨q29, hq29, hf⟩ := bd_some hf
    refine iv_X6_55 C [.long x2.toInt64, .long (0 : Int64), .long (5 : Int64)] [.ref m] (ct_X6_in hq29) rfl (by decide) rfl (Nat.le_of_ble_eq_true rfl) z_k0 dX6_laid_29 ?_
    refine z_if_eq C 39 dX6_laid_32 (by decide) (fun c32 => ?_) (fun c32 => ?_)
    · replace hf := ip c32 hf
      refine z_iconst C (2 : Int32) dX6_laid_39 (by decide) ?_
      exact z_sub [0, 1, 2] rfl (w_X6_laid_b40 C hf)
    · replace hf := iN c32 hf
      refine z_iconst C (0 : Int32) dX6_laid_35 (by decide) ?_
      refine z_goto C 40 dX6_laid_36 (by decide) ?_
      exact z_sub [0, 1, 2] rfl (w_X6_laid_b40 C hf)
  · replace hf := ip c16 hf
    refine z_iconst C (1 : Int32) dX6_laid_19 (by decide) ?_
    refine z_goto C 40 dX6_laid_20 (by decide) ?_
    exact z_sub [0, 1, 2] rfl (w_X6_laid_b40 C hf)
/-! X6_playerOf: depth 5 -/
def f_X6_playerOf_b34 (n : Nat) (x1 : Int32) (x2 : Int32)   (M : MS) (s0 : Int32) : Option ((MS) × Int32) :=
  (f_X6_refused M s0).bind (fun q34 => if q34.2 = 0 then (if x2 = 0 then ((f_X6_handMany n (q34.1.2 1) x1).bind (fun q51 => some (q34.1, q51))) else (if x2 = (1 : Int32) then ((f_X6_handPips n (q34.1.2 1) x1).bind (fun q67 => some (q34.1, q67))) else (if x2 = (2 : Int32) then (chk (inB ((13 : Int32) + x1) 217) (some (q34.1, (q34.1.2 1 ((13 : Int32) + x1).toNatClampNeg)))) else (chk (inB ((17 : Int32) + x1) 217) (some (q34.1, (q34.1.2 1 ((17 : Int32) + x1).toNatClampNeg))))))) else (some (q34.1, (0 : Int32))))
set_option maxRecDepth 100000 in
set_option maxHeartbeats 4000000 in
theorem w_X6_playerOf_b34 {E : zE} {X : zX} {h0 : Hp} {m : Nat} {n : Nat} {x1 : Int32} {x2 : Int32}   (C : zC E X RX6 cX6_playerOf 3 (some .int) 5)   {M : MS} {s0 : Int32} {r : ((MS) × Int32)} (hf : f_X6_playerOf_b34 n x1 x2 M s0 = some r) : zW E X 3 0 0 (MQ (xb X) (zQ E (some (.int r.2)) (pM E h0 m r.1)) (xa X) (xs X) 0 0 (zA E)) 34 (pM E h0 m M) [(0, .ref m), (1, .int x1), (2, .int x2)] [.int s0, .ref m] := by
  unfold f_X6_playerOf_b34 at hf
  obtain ⟨q34, hq34, hf⟩ := bd_some hf
  refine iv_X6_141 C [.int s0] [] (ct_X6_refused hq34) pM_o rfl (by decide) rfl (Nat.le_of_ble_eq_true rfl) z_k0 dX6_playerOf_34 ?_
  refine z_if_eq C 42 dX6_playerOf_37 (by decide) (fun c37 => ?_) (fun c37 => ?_)
  · replace hf := ip c37 hf
    refine z_iload_n C dX6_playerOf_42 2 rfl ?_
    refine z_if_ne C 57 dX6_playerOf_43 (by decide) (fun c43 => ?_) (fun c43 => ?_)
    · replace hf := iN c43 hf
      refine z_iload_n C dX6_playerOf_57 2 rfl ?_
      refine z_iconst C (1 : Int32) dX6_playerOf_58 (by decide) ?_
      refine z_icmp_ne C 73 dX6_playerOf_59 (by decide) (fun c59 => ?_) (fun c59 => ?_)
      · replace hf := iN c59 hf
        refine z_iload_n C dX6_playerOf_73 2 rfl ?_
        refine z_iconst C (2 : Int32) dX6_playerOf_74 (by decide) ?_
        refine z_icmp_ne C 90 dX6_playerOf_75 (by decide) (fun c75 => ?_) (fun c75 => ?_)
        · replace hf := iN c75 hf
          refine z_aload_n C dX6_playerOf_90 0 rfl ?_
          refine gf_X6_13 C dX6_playerOf_91 ?_
          refine z_bipush C (17 : Int32) dX6_playerOf_94 (by decide) ?_
          refine z_iload_n C dX6_playerOf_96 1 rfl ?_
          refine z_iadd C dX6_playerOf_97 ?_
          obtain ⟨c98, hf⟩ := chk_some hf
          refine z_iald C pM_a1 c98 dX6_playerOf_98 ?_
          obtain rfl := Option.some.inj hf
          exact z_ireturn C dX6_playerOf_99
        · replace hf := ip c75 hf
          refine z_aload_n C dX6_playerOf_78 0 rfl ?_
          refine gf_X6_13 C dX6_playerOf_79 ?_
          refine z_bipush C (13 : Int32) dX6_playerOf_82 (by decide) ?_
          refine z_iload_n C dX6_playerOf_84 1 rfl ?_
          refine z_iadd C dX6_playerOf_85 ?_
          obtain ⟨c86, hf⟩ := chk_some hf
          refine z_iald C pM_a1 c86 dX6_playerOf_86 ?_
          refine z_goto C 99 dX6_playerOf_87 (by decide) ?_
          obtain rfl := Option.some.inj hf
          exact z_ireturn C dX6_playerOf_99
      · replace hf := ip c59 hf
        refine z_aload_n C dX6_playerOf_62 0 rfl ?_
        refine gf_X6_13 C dX6_playerOf_63 ?_
        refine z_iload_n C dX6_playerOf_66 1 rfl ?_
        obtain ⟨q67, hq67, hf⟩ := bd_some hf
        refine z_heap pM_i1 ?_
        refine iv_X6_109 C [.ref (m + 2), .int x1] [] (ct_X6_handPips hq67) rfl (by decide) rfl (Nat.le_of_ble_eq_true rfl) z_k0 dX6_playerOf_67 ?_
        refine z_heap pM_i1.symm ?_
        refine z_goto C 99 dX6_playerOf_70 (by decide) ?_
        obtain rfl := Option.some.inj hf
        exact z_ireturn C dX6_playerOf_99
    · replace hf := ip c43 hf
      refine z_aload_n C dX6_playerOf_46 0 rfl ?_
      refine gf_X6_13 C dX6_playerOf_47 ?_
      refine z_iload_n C dX6_playerOf_50 1 rfl ?_
      obtain ⟨q51, hq51, hf⟩ := bd_some hf
      refine z_heap pM_i1 ?_
      refine iv_X6_119 C [.ref (m + 2), .int x1] [] (ct_X6_handMany hq51) rfl (by decide) rfl (Nat.le_of_ble_eq_true rfl) z_k0 dX6_playerOf_51 ?_
      refine z_heap pM_i1.symm ?_
      refine z_goto C 99 dX6_playerOf_54 (by decide) ?_
      obtain rfl := Option.some.inj hf
      exact z_ireturn C dX6_playerOf_99
  · replace hf := iN c37 hf
    refine z_iconst C (0 : Int32) dX6_playerOf_40 (by decide) ?_
    obtain rfl := Option.some.inj hf
    exact z_ireturn C dX6_playerOf_41
def f_X6_playerOf (n : Nat) (M : MS) (x1 : Int32) (x2 : Int32) : Option ((MS) × Int32) :=
  (f_X6_in x1.toInt64 (0 : Int64) (3 : Int64)).bind (fun q7 => if q7 = 0 then (f_X6_playerOf_b34 n x1 x2 M (1 : Int32)) else ((f_X6_in x2.toInt64 (0 : Int64) (3 : Int64)).bind (fun q23 => if q23 = 0 then (f_X6_playerOf_b34 n x1 x2 M (2 : Int32)) else (f_X6_playerOf_b34 n x1 x2 M (0 : Int32)))))
set_option maxRecDepth 100000 in
set_option maxHeartbeats 4000000 in
theorem ct_X6_playerOf {E : zE} {l : Launch} {h0 : Hp} {m : Nat} {n : Nat} {M : MS} {x1 : Int32} {x2 : Int32} {r : ((MS) × Int32)}  (hf : f_X6_playerOf n M x1 x2 = some r) : zM E l 5 yX6_playerOf cX6_playerOf 3 (some .int) [.ref m, .int x1, .int x2] (pM E h0 m M) (some (.int r.2)) (pM E h0 m r.1) := by
  refine zM_of (lv := [(0, .ref m), (1, .int x1), (2, .int x2)]) (by decide +kernel) (Nat.le_of_ble_eq_true rfl) rfl (fun X hX C => ?_)
  subst hX
  replace C : zC E X RX6 cX6_playerOf 3 (some .int) 5 := C
  unfold f_X6_playerOf at hf
  refine z_aload_n C dX6_playerOf_0 0 rfl ?_
  refine z_iload_n C dX6_playerOf_1 1 rfl ?_
  refine z_i2l C dX6_playerOf_2 ?_
  refine z_lconst C (0 : Int64) dX6_playerOf_3 (by decide) ?_
  refine z_ldc2 C (3 : Int64) dX6_playerOf_4 cn_X6_219 ?_
  obtain ⟨q7, hq7, hf⟩ := bd_some hf
  refine iv_X6_55 C [.long x1.toInt64, .long (0 : Int64), .long (3 : Int64)] [.ref m] (ct_X6_in hq7) rfl (by decide) rfl (Nat.le_of_ble_eq_true rfl) z_k0 dX6_playerOf_7 ?_
  refine z_if_ne C 17 dX6_playerOf_10 (by decide) (fun c10 => ?_) (fun c10 => ?_)
  · replace hf := iN c10 hf
    refine z_iload_n C dX6_playerOf_17 2 rfl ?_
    refine z_i2l C dX6_playerOf_18 ?_
    refine z_lconst C (0 : Int64) dX6_playerOf_19 (by decide) ?_
    refine z_ldc2 C (3 : Int64) dX6_playerOf_20 cn_X6_219 ?_
    obtain ⟨q23, hq23, hf⟩ := bd_some hf
    refine iv_X6_55 C [.long x2.toInt64, .long (0 : Int64), .long (3 : Int64)] [.ref m] (ct_X6_in hq23) rfl (by decide) rfl (Nat.le_of_ble_eq_true rfl) z_k0 dX6_playerOf_23 ?_
    refine z_if_eq C 33 dX6_playerOf_26 (by decide) (fun c26 => ?_) (fun c26 => ?_)
    · replace hf := ip c26 hf
      refine z_iconst C (2 : Int32) dX6_playerOf_33 (by decide) ?_
      exact z_sub [0, 1, 2] rfl (w_X6_playerOf_b34 C hf)
    · replace hf := iN c26 hf
      refine z_iconst C (0 : Int32) dX6_playerOf_29 (by decide) ?_
      refine z_goto C 34 dX6_playerOf_30 (by decide) ?_
      exact z_sub [0, 1, 2] rfl (w_X6_playerOf_b34 C hf)
  · replace hf := ip c10 hf
    refine z_iconst C (1 : Int32) dX6_playerOf_13 (by decide) ?_
    refine z_goto C 34 dX6_playerOf_14 (by decide) ?_
    exact z_sub [0, 1, 2] rfl (w_X6_playerOf_b34 C hf)
/-! X6_at: depth 6 -/
def f_X6_at_b30 (n : Nat) (x1 : Int32) (x2 : Int32)   (M : MS) (s0 : Int32) : Option ((MS) × Int32) :=
  (f_X6_refused M s0).bind (fun q30 => if q30.2 = 0 then ((f_X6_cellAt n (q30.1.2 1) x1 x2).bind (fun q44 => some (q30.1, q44))) else (some (q30.1, (0 : Int32))))
set_option maxRecDepth 100000 in
set_option maxHeartbeats 4000000 in
theorem w_X6_at_b30 {E : zE} {X : zX} {h0 : Hp} {m : Nat} {n : Nat} {x1 : Int32} {x2 : Int32}   (C : zC E X RX6 cX6_at 3 (some .int) 6)   {M : MS} {s0 : Int32} {r : ((MS) × Int32)} (hf : f_X6_at_b30 n x1 x2 M s0 = some r) : zW E X 3 0 0 (MQ (xb X) (zQ E (some (.int r.2)) (pM E h0 m r.1)) (xa X) (xs X) 0 0 (zA E)) 30 (pM E h0 m M) [(0, .ref m), (1, .int x1), (2, .int x2)] [.int s0, .ref m] := by
  unfold f_X6_at_b30 at hf
  obtain ⟨q30, hq30, hf⟩ := bd_some hf
  refine iv_X6_141 C [.int s0] [] (ct_X6_refused hq30) pM_o rfl (by decide) rfl (Nat.le_of_ble_eq_true rfl) z_k0 dX6_at_30 ?_
  refine z_if_eq C 38 dX6_at_33 (by decide) (fun c33 => ?_) (fun c33 => ?_)
  · replace hf := ip c33 hf
    refine z_aload_n C dX6_at_38 0 rfl ?_
    refine gf_X6_13 C dX6_at_39 ?_
    refine z_iload_n C dX6_at_42 1 rfl ?_
    refine z_iload_n C dX6_at_43 2 rfl ?_
    obtain ⟨q44, hq44, hf⟩ := bd_some hf
    refine z_heap pM_i1 ?_
    refine iv_X6_84 C [.ref (m + 2), .int x1, .int x2] [] (ct_X6_cellAt hq44) rfl (by decide) rfl (Nat.le_of_ble_eq_true rfl) z_k0 dX6_at_44 ?_
    refine z_heap pM_i1.symm ?_
    obtain rfl := Option.some.inj hf
    exact z_ireturn C dX6_at_47
  · replace hf := iN c33 hf
    refine z_iconst C (0 : Int32) dX6_at_36 (by decide) ?_
    obtain rfl := Option.some.inj hf
    exact z_ireturn C dX6_at_37
def f_X6_at_b29 (n : Nat) (x1 : Int32) (x2 : Int32)   (M : MS) : Option ((MS) × Int32) :=
  f_X6_at_b30 n x1 x2 M (1 : Int32)
set_option maxRecDepth 100000 in
set_option maxHeartbeats 4000000 in
theorem w_X6_at_b29 {E : zE} {X : zX} {h0 : Hp} {m : Nat} {n : Nat} {x1 : Int32} {x2 : Int32}   (C : zC E X RX6 cX6_at 3 (some .int) 6)   {M : MS} {r : ((MS) × Int32)} (hf : f_X6_at_b29 n x1 x2 M = some r) : zW E X 3 0 0 (MQ (xb X) (zQ E (some (.int r.2)) (pM E h0 m r.1)) (xa X) (xs X) 0 0 (zA E)) 29 (pM E h0 m M) [(0, .ref m), (1, .int x1), (2, .int x2)] [.ref m] := by
  unfold f_X6_at_b29 at hf
  refine z_iconst C (1 : Int32) dX6_at_29 (by decide) ?_
  exact z_sub [0, 1, 2] rfl (w_X6_at_b30 C hf)
def f_X6_at (n : Nat) (M : MS) (x1 : Int32) (x2 : Int32) : Option ((MS) × Int32) :=
  (f_X6_in x1.toInt64 (0 : Int64) (24 : Int64)).bind (fun q7 => if q7 = 0 then (f_X6_at_b29 n x1 x2 M) else ((f_X6_in x2.toInt64 (0 : Int64) (24 : Int64)).bind (fun q19 => if q19 = 0 then (f_X6_at_b29 n x1 x2 M) else (f_X6_at_b30 n x1 x2 M (0 : Int32)))))
set_option maxRecDepth 100000 in
set_option maxHeartbeats 4000000 in
theorem ct_X6_at {E : zE} {l : Launch} {h0 : Hp} {m : Nat} {n : Nat} {M : MS} {x1 : Int32} {x2 : Int32} {r : ((MS) × Int32)}  (hf : f_X6_at n M x1 x2 = some r) : zM E l 6 yX6_at cX6_at 3 (some .int) [.ref m, .int x1, .int x2] (pM E h0 m M) (some (.int r.2)) (pM E h0 m r.1) := by
  refine zM_of (lv := [(0, .ref m), (1, .int x1), (2, .int x2)]) (by decide +kernel) (Nat.le_of_ble_eq_true rfl) rfl (fun X hX C => ?_)
  subst hX
  replace C : zC E X RX6 cX6_at 3 (some .int) 6 := C
  unfold f_X6_at at hf
  refine z_aload_n C dX6_at_0 0 rfl ?_
  refine z_iload_n C dX6_at_1 1 rfl ?_
  refine z_i2l C dX6_at_2 ?_
  refine z_lconst C (0 : Int64) dX6_at_3 (by decide) ?_
  refine z_ldc2 C (24 : Int64) dX6_at_4 cn_X6_82 ?_
  obtain ⟨q7, hq7, hf⟩ := bd_some hf
  refine iv_X6_55 C [.long x1.toInt64, .long (0 : Int64), .long (24 : Int64)] [.ref m] (ct_X6_in hq7) rfl (by decide) rfl (Nat.le_of_ble_eq_true rfl) z_k0 dX6_at_7 ?_
  refine z_if_eq C 29 dX6_at_10 (by decide) (fun c10 => ?_) (fun c10 => ?_)
  · replace hf := ip c10 hf
    exact z_sub [0, 1, 2] rfl (w_X6_at_b29 C hf)
  · replace hf := iN c10 hf
    refine z_iload_n C dX6_at_13 2 rfl ?_
    refine z_i2l C dX6_at_14 ?_
    refine z_lconst C (0 : Int64) dX6_at_15 (by decide) ?_
    refine z_ldc2 C (24 : Int64) dX6_at_16 cn_X6_82 ?_
    obtain ⟨q19, hq19, hf⟩ := bd_some hf
    refine iv_X6_55 C [.long x2.toInt64, .long (0 : Int64), .long (24 : Int64)] [.ref m] (ct_X6_in hq19) rfl (by decide) rfl (Nat.le_of_ble_eq_true rfl) z_k0 dX6_at_19 ?_
    refine z_if_eq C 29 dX6_at_22 (by decide) (fun c22 => ?_) (fun c22 => ?_)
    · replace hf := ip c22 hf
      exact z_sub [0, 1, 2] rfl (w_X6_at_b29 C hf)
    · replace hf := iN c22 hf
      refine z_iconst C (0 : Int32) dX6_at_25 (by decide) ?_
      refine z_goto C 30 dX6_at_26 (by decide) ?_
      exact z_sub [0, 1, 2] rfl (w_X6_at_b30 C hf)
/-! X6_free: depth 2 -/
def f_X6_free_b16 (x1 : Int32)   (M : MS) (s0 : Int32) : Option ((MS) × Int32) :=
  (f_X6_refused M s0).bind (fun q16 => if q16.2 = 0 then (chk (inB (5 : Int32) 217) (some (q16.1, ((625 : Int32) - ((2 : Int32) * (q16.1.2 1 (5 : Int32).toNatClampNeg)))))) else (some (q16.1, (0 : Int32))))
set_option maxRecDepth 100000 in
set_option maxHeartbeats 4000000 in
theorem w_X6_free_b16 {E : zE} {X : zX} {h0 : Hp} {m : Nat} {x1 : Int32}   (C : zC E X RX6 cX6_free 2 (some .int) 2)   {M : MS} {s0 : Int32} {r : ((MS) × Int32)} (hf : f_X6_free_b16 x1 M s0 = some r) : zW E X 2 0 0 (MQ (xb X) (zQ E (some (.int r.2)) (pM E h0 m r.1)) (xa X) (xs X) 0 0 (zA E)) 16 (pM E h0 m M) [(0, .ref m)] [.int s0, .ref m] := by
  unfold f_X6_free_b16 at hf
  obtain ⟨q16, hq16, hf⟩ := bd_some hf
  refine iv_X6_141 C [.int s0] [] (ct_X6_refused hq16) pM_o rfl (by decide) rfl (Nat.le_of_ble_eq_true rfl) z_k0 dX6_free_16 ?_
  refine z_if_eq C 24 dX6_free_19 (by decide) (fun c19 => ?_) (fun c19 => ?_)
  · replace hf := ip c19 hf
    refine z_sipush C (625 : Int32) dX6_free_24 (by decide) ?_
    refine z_iconst C (2 : Int32) dX6_free_27 (by decide) ?_
    refine z_aload_n C dX6_free_28 0 rfl ?_
    refine gf_X6_13 C dX6_free_29 ?_
    refine z_iconst C (5 : Int32) dX6_free_32 (by decide) ?_
    obtain ⟨c33, hf⟩ := chk_some hf
    refine z_iald C pM_a1 c33 dX6_free_33 ?_
    refine z_imul C dX6_free_34 ?_
    refine z_isub C dX6_free_35 ?_
    obtain rfl := Option.some.inj hf
    exact z_ireturn C dX6_free_36
  · replace hf := iN c19 hf
    refine z_iconst C (0 : Int32) dX6_free_22 (by decide) ?_
    obtain rfl := Option.some.inj hf
    exact z_ireturn C dX6_free_23
def f_X6_free (M : MS) (x1 : Int32) : Option ((MS) × Int32) :=
  (f_X6_in x1.toInt64 (0 : Int64) (1 : Int64)).bind (fun q5 => if q5 = 0 then (f_X6_free_b16 x1 M (1 : Int32)) else (f_X6_free_b16 x1 M (0 : Int32)))
set_option maxRecDepth 100000 in
set_option maxHeartbeats 4000000 in
theorem ct_X6_free {E : zE} {l : Launch} {h0 : Hp} {m : Nat} {M : MS} {x1 : Int32} {r : ((MS) × Int32)}  (hf : f_X6_free M x1 = some r) : zM E l 2 yX6_free cX6_free 2 (some .int) [.ref m, .int x1] (pM E h0 m M) (some (.int r.2)) (pM E h0 m r.1) := by
  refine zM_of (lv := [(0, .ref m), (1, .int x1)]) (by decide +kernel) (Nat.le_of_ble_eq_true rfl) rfl (fun X hX C => ?_)
  subst hX
  replace C : zC E X RX6 cX6_free 2 (some .int) 2 := C
  unfold f_X6_free at hf
  refine z_aload_n C dX6_free_0 0 rfl ?_
  refine z_iload_n C dX6_free_1 1 rfl ?_
  refine z_i2l C dX6_free_2 ?_
  refine z_lconst C (0 : Int64) dX6_free_3 (by decide) ?_
  refine z_lconst C (1 : Int64) dX6_free_4 (by decide) ?_
  obtain ⟨q5, hq5, hf⟩ := bd_some hf
  refine iv_X6_55 C [.long x1.toInt64, .long (0 : Int64), .long (1 : Int64)] [.ref m] (ct_X6_in hq5) rfl (by decide) rfl (Nat.le_of_ble_eq_true rfl) z_k0 dX6_free_5 ?_
  refine z_if_eq C 15 dX6_free_8 (by decide) (fun c8 => ?_) (fun c8 => ?_)
  · replace hf := ip c8 hf
    refine z_iconst C (1 : Int32) dX6_free_15 (by decide) ?_
    exact z_sub [0] rfl (w_X6_free_b16 C hf)
  · replace hf := iN c8 hf
    refine z_iconst C (0 : Int32) dX6_free_11 (by decide) ?_
    refine z_goto C 16 dX6_free_12 (by decide) ?_
    exact z_sub [0] rfl (w_X6_free_b16 C hf)
/-! X6_remember: depth 2 -/
def f_X6_remember_b50 (n : Nat)   (M : MS) : Option MS :=
  (f_X6_copyState n 217 3038 (M.2 1) (M.2 3) (0 : Int32) ((217 : Int32) * (M.1 2))).bind (fun q67 => some (mS (mA M 3 q67) 2 (((mA M 3 q67).1 2) + (1 : Int32))))
set_option maxRecDepth 100000 in
set_option maxHeartbeats 4000000 in
theorem w_X6_remember_b50 {E : zE} {X : zX} {h0 : Hp} {m : Nat} {n : Nat}   (C : zC E X RX6 cX6_remember 2 none 2)   {M : MS} {r : MS} (hf : f_X6_remember_b50 n M = some r) : zW E X 2 0 0 (MQ (xb X) (zQ E none (pM E h0 m r)) (xa X) (xs X) 0 0 (zA E)) 50 (pM E h0 m M) [(0, .ref m)] [] := by
  unfold f_X6_remember_b50 at hf
  refine z_aload_n C dX6_remember_50 0 rfl ?_
  refine gf_X6_13 C dX6_remember_51 ?_
  refine z_iconst C (0 : Int32) dX6_remember_54 (by decide) ?_
  refine z_aload_n C dX6_remember_55 0 rfl ?_
  refine gf_X6_19 C dX6_remember_56 ?_
  refine z_sipush C (217 : Int32) dX6_remember_59 (by decide) ?_
  refine z_aload_n C dX6_remember_62 0 rfl ?_
  refine gf_X6_198 C dX6_remember_63 ?_
  refine z_imul C dX6_remember_66 ?_
  obtain ⟨q67, hq67, hf⟩ := bd_some hf
  refine z_heap (pI_of pM_a3) ?_
  refine iv_X6_194 C [.ref (m + 2), .int (0 : Int32), .ref (m + 4), .int ((217 : Int32) * (M.1 2))] [] (ct_X6_copyState (a1 := (m + 2)) (by omega) pM_a1 hq67) rfl (by decide) rfl (Nat.le_of_ble_eq_true rfl) z_k0 dX6_remember_67 ?_
  refine z_heap (pM_w3 _) ?_
  refine z_aload_n C dX6_remember_70 0 rfl ?_
  refine z_dup C dX6_remember_71 rfl ?_
  refine gf_X6_198 C dX6_remember_72 ?_
  refine z_iconst C (1 : Int32) dX6_remember_75 (by decide) ?_
  refine z_iadd C dX6_remember_76 ?_
  refine pf_X6_198 C dX6_remember_77 ?_
  obtain rfl := Option.some.inj hf
  exact z_return C dX6_remember_80
def f_X6_remember_h11 (n : Nat)  (K11 : MS → Int32 → Option MS) (M : MS) (x1 : Int32) : Option MS :=
  if (2821 : Int32) ≤ x1 then (f_X6_remember_b50 n (mS M 2 ((M.1 2) - (1 : Int32)))) else (chk (inB (x1 + (217 : Int32)) 3038) (chk (inB x1 3038) (stt (mA M 3 (upd (M.2 3) x1.toNatClampNeg (M.2 3 (x1 + (217 : Int32)).toNatClampNeg))) (fun Mn1 => K11 Mn1 (x1 + 1)))))
set_option maxRecDepth 100000 in
set_option maxHeartbeats 4000000 in
theorem w_X6_remember_h11 {E : zE} {X : zX} {h0 : Hp} {m : Nat} {n : Nat}   (C : zC E X RX6 cX6_remember 2 none 2)   : ∀ (q : Nat) (M : MS) (x1 : Int32) (r : MS), lo2 (f_X6_remember_h11 n) q M x1 = some r → zW E X 2 0 0 (MQ (xb X) (zQ E none (pM E h0 m r)) (xa X) (xs X) 0 0 (zA E)) 11 (pM E h0 m M) [(0, .ref m), (1, .int x1)] [] := by
  refine lo2_ind _ ?_
  intro K11 hK11 M x1 r hf
  unfold f_X6_remember_h11 at hf
  refine z_iload_n C dX6_remember_11 1 rfl ?_
  refine z_sipush C (2821 : Int32) dX6_remember_12 (by decide) ?_
  refine z_icmp_ge C 40 dX6_remember_15 (by decide) (fun c15 => ?_) (fun c15 => ?_)
  · replace hf := ip c15 hf
    refine z_aload_n C dX6_remember_40 0 rfl ?_
    refine z_dup C dX6_remember_41 rfl ?_
    refine gf_X6_198 C dX6_remember_42 ?_
    refine z_iconst C (1 : Int32) dX6_remember_45 (by decide) ?_
    refine z_isub C dX6_remember_46 ?_
    refine pf_X6_198 C dX6_remember_47 ?_
    exact z_sub [0] rfl (w_X6_remember_b50 C hf)
  · replace hf := iN c15 hf
    refine z_aload_n C dX6_remember_18 0 rfl ?_
    refine gf_X6_19 C dX6_remember_19 ?_
    refine z_iload_n C dX6_remember_22 1 rfl ?_
    refine z_aload_n C dX6_remember_23 0 rfl ?_
    refine gf_X6_19 C dX6_remember_24 ?_
    refine z_iload_n C dX6_remember_27 1 rfl ?_
    refine z_sipush C (217 : Int32) dX6_remember_28 (by decide) ?_
    refine z_iadd C dX6_remember_31 ?_
    obtain ⟨c32, hf⟩ := chk_some hf
    refine z_iald C pM_a3 c32 dX6_remember_32 ?_
    obtain ⟨c33, hf⟩ := chk_some hf
    refine z_iast C pM_a3 c33 dX6_remember_33 _ (pM_w3 _) ?_
    obtain ⟨Mn1, eMn1, hf⟩ := st_some hf
    refine z_heap (congrArg (fun z => (pM E h0 m z)) eMn1.symm) ?_
    refine z_iinc (lv' := [(1, .int (x1 + 1)), (0, .ref m)]) C dX6_remember_34 1 (x1 + 1) rfl rfl (by decide) rfl ?_
    refine z_goto C 11 dX6_remember_37 (by decide) ?_
    exact z_sub [1, 0] rfl (hK11 _ _ _ hf)
def f_X6_remember (n : Nat) (M : MS) : Option MS :=
  if (M.1 2) = (14 : Int32) then (lo2 (f_X6_remember_h11 n) n M (0 : Int32)) else (f_X6_remember_b50 n M)
set_option maxRecDepth 100000 in
set_option maxHeartbeats 4000000 in
theorem ct_X6_remember {E : zE} {l : Launch} {h0 : Hp} {m : Nat} {n : Nat} {M : MS} {r : MS}  (hf : f_X6_remember n M = some r) : zM E l 2 yX6_remember cX6_remember 2 none [.ref m] (pM E h0 m M) none (pM E h0 m r) := by
  refine zM_of (lv := [(0, .ref m)]) (by decide +kernel) (Nat.le_of_ble_eq_true rfl) rfl (fun X hX C => ?_)
  subst hX
  replace C : zC E X RX6 cX6_remember 2 none 2 := C
  unfold f_X6_remember at hf
  refine z_aload_n C dX6_remember_0 0 rfl ?_
  refine gf_X6_198 C dX6_remember_1 ?_
  refine z_bipush C (14 : Int32) dX6_remember_4 (by decide) ?_
  refine z_icmp_ne C 50 dX6_remember_6 (by decide) (fun c6 => ?_) (fun c6 => ?_)
  · replace hf := iN c6 hf
    exact z_sub [0] rfl (w_X6_remember_b50 C hf)
  · replace hf := ip c6 hf
    refine z_iconst C (0 : Int32) dX6_remember_9 (by decide) ?_
    refine z_istore_n (lv' := [(1, .int (0 : Int32)), (0, .ref m)]) C dX6_remember_10 (by decide) rfl ?_
    exact z_sub [1, 0] rfl (w_X6_remember_h11 C n _ _ _ hf)
/-! X6_deal: depth 3 -/
def f_X6_deal_b20 (n : Nat) (x1 : Int32) (y2 : Int64)   (M : MS) (s0 : Int32) : Option ((MS) × Int32) :=
  (f_X6_refused M s0).bind (fun q20 => if q20.2 = 0 then ((f_X6_remember n q20.1).bind (fun q29 => (f_X6_dealOn n 1 q29 x1 y2).bind (fun q39 => some (q39.1, q39.2)))) else (some (q20.1, (0 : Int32))))
set_option maxRecDepth 100000 in
set_option maxHeartbeats 4000000 in
theorem w_X6_deal_b20 {E : zE} {X : zX} {h0 : Hp} {m : Nat} {n : Nat} {x1 : Int32} {y2 : Int64}   (C : zC E X RX6 cX6_deal 4 (some .int) 3)   {M : MS} {s0 : Int32} {r : ((MS) × Int32)} (hf : f_X6_deal_b20 n x1 y2 M s0 = some r) : zW E X 4 0 0 (MQ (xb X) (zQ E (some (.int r.2)) (pM E h0 m r.1)) (xa X) (xs X) 0 0 (zA E)) 20 (pM E h0 m M) [(0, .ref m), (1, .int x1), (2, .long y2)] [.int s0, .ref m] := by
  unfold f_X6_deal_b20 at hf
  obtain ⟨q20, hq20, hf⟩ := bd_some hf
  refine iv_X6_141 C [.int s0] [] (ct_X6_refused hq20) pM_o rfl (by decide) rfl (Nat.le_of_ble_eq_true rfl) z_k0 dX6_deal_20 ?_
  refine z_if_eq C 28 dX6_deal_23 (by decide) (fun c23 => ?_) (fun c23 => ?_)
  · replace hf := ip c23 hf
    refine z_aload_n C dX6_deal_28 0 rfl ?_
    obtain ⟨q29, hq29, hf⟩ := bd_some hf
    refine iv_X6_223 C [] [] (ct_X6_remember hq29) pM_o rfl (by decide) rfl (Nat.le_of_ble_eq_true rfl) z_k0 dX6_deal_29 ?_
    refine z_aload_n C dX6_deal_32 0 rfl ?_
    refine z_aload_n C dX6_deal_33 0 rfl ?_
    refine gf_X6_13 C dX6_deal_34 ?_
    refine z_iload_n C dX6_deal_37 1 rfl ?_
    refine z_lload_n C dX6_deal_38 2 rfl ?_
    obtain ⟨q39, hq39, hf⟩ := bd_some hf
    refine iv_X6_165 C [.ref (m + 2), .int x1, .long y2] [] (ct_X6_dealOn (Or.inl rfl) hq39) pM_o rfl (by decide) rfl (Nat.le_of_ble_eq_true rfl) z_k0 dX6_deal_39 ?_
    obtain rfl := Option.some.inj hf
    exact z_ireturn C dX6_deal_42
  · replace hf := iN c23 hf
    refine z_iconst C (0 : Int32) dX6_deal_26 (by decide) ?_
    obtain rfl := Option.some.inj hf
    exact z_ireturn C dX6_deal_27
def f_X6_deal (n : Nat) (M : MS) (x1 : Int32) (y2 : Int64) : Option ((MS) × Int32) :=
  (f_X6_in x1.toInt64 (2 : Int64) (4 : Int64)).bind (fun q9 => if q9 = 0 then (f_X6_deal_b20 n x1 y2 M (1 : Int32)) else (f_X6_deal_b20 n x1 y2 M (0 : Int32)))
set_option maxRecDepth 100000 in
set_option maxHeartbeats 4000000 in
theorem ct_X6_deal {E : zE} {l : Launch} {h0 : Hp} {m : Nat} {n : Nat} {M : MS} {x1 : Int32} {y2 : Int64} {r : ((MS) × Int32)}  (hf : f_X6_deal n M x1 y2 = some r) : zM E l 3 yX6_deal cX6_deal 4 (some .int) [.ref m, .int x1, .long y2] (pM E h0 m M) (some (.int r.2)) (pM E h0 m r.1) := by
  refine zM_of (lv := [(0, .ref m), (1, .int x1), (2, .long y2)]) (by decide +kernel) (Nat.le_of_ble_eq_true rfl) rfl (fun X hX C => ?_)
  subst hX
  replace C : zC E X RX6 cX6_deal 4 (some .int) 3 := C
  unfold f_X6_deal at hf
  refine z_aload_n C dX6_deal_0 0 rfl ?_
  refine z_iload_n C dX6_deal_1 1 rfl ?_
  refine z_i2l C dX6_deal_2 ?_
  refine z_ldc2 C (2 : Int64) dX6_deal_3 cn_X6_221 ?_
  refine z_ldc2 C (4 : Int64) dX6_deal_6 cn_X6_209 ?_
  obtain ⟨q9, hq9, hf⟩ := bd_some hf
  refine iv_X6_55 C [.long x1.toInt64, .long (2 : Int64), .long (4 : Int64)] [.ref m] (ct_X6_in hq9) rfl (by decide) rfl (Nat.le_of_ble_eq_true rfl) z_k0 dX6_deal_9 ?_
  refine z_if_eq C 19 dX6_deal_12 (by decide) (fun c12 => ?_) (fun c12 => ?_)
  · replace hf := ip c12 hf
    refine z_iconst C (1 : Int32) dX6_deal_19 (by decide) ?_
    exact z_sub [0, 1, 2] rfl (w_X6_deal_b20 C hf)
  · replace hf := iN c12 hf
    refine z_iconst C (0 : Int32) dX6_deal_15 (by decide) ?_
    refine z_goto C 20 dX6_deal_16 (by decide) ?_
    exact z_sub [0, 1, 2] rfl (w_X6_deal_b20 C hf)
/-! X6_play: depth 9 -/
def f_X6_play_b27 (n : Nat) (x1 : Int32) (x2 : Int32)   (M : MS) (s0 : Int32) : Option ((MS) × Int32) :=
  (f_X6_refused M s0).bind (fun q27 => if q27.2 = 0 then ((f_X6_remember n q27.1).bind (fun q36 => (f_X6_playOn n (q36.2 1) x1 x2).bind (fun q45 => some (mA q36 1 q45.1, q45.2)))) else (some (q27.1, (0 : Int32))))
set_option maxRecDepth 100000 in
set_option maxHeartbeats 4000000 in
theorem w_X6_play_b27 {E : zE} {X : zX} {h0 : Hp} {m : Nat} {n : Nat} {x1 : Int32} {x2 : Int32}   (C : zC E X RX6 cX6_play 3 (some .int) 9)   {M : MS} {s0 : Int32} {r : ((MS) × Int32)} (hf : f_X6_play_b27 n x1 x2 M s0 = some r) : zW E X 3 0 0 (MQ (xb X) (zQ E (some (.int r.2)) (pM E h0 m r.1)) (xa X) (xs X) 0 0 (zA E)) 27 (pM E h0 m M) [(0, .ref m), (1, .int x1), (2, .int x2)] [.int s0, .ref m] := by
  unfold f_X6_play_b27 at hf
  obtain ⟨q27, hq27, hf⟩ := bd_some hf
  refine iv_X6_141 C [.int s0] [] (ct_X6_refused hq27) pM_o rfl (by decide) rfl (Nat.le_of_ble_eq_true rfl) z_k0 dX6_play_27 ?_
  refine z_if_eq C 35 dX6_play_30 (by decide) (fun c30 => ?_) (fun c30 => ?_)
  · replace hf := ip c30 hf
    refine z_aload_n C dX6_play_35 0 rfl ?_
    obtain ⟨q36, hq36, hf⟩ := bd_some hf
    refine iv_X6_223 C [] [] (ct_X6_remember hq36) pM_o rfl (by decide) rfl (Nat.le_of_ble_eq_true rfl) z_k0 dX6_play_36 ?_
    refine z_aload_n C dX6_play_39 0 rfl ?_
    refine gf_X6_13 C dX6_play_40 ?_
    refine z_iload_n C dX6_play_43 1 rfl ?_
    refine z_iload_n C dX6_play_44 2 rfl ?_
    obtain ⟨q45, hq45, hf⟩ := bd_some hf
    refine z_heap pM_i1 ?_
    refine iv_X6_157 C [.ref (m + 2), .int x1, .int x2] [] (ct_X6_playOn hq45) rfl (by decide) rfl (Nat.le_of_ble_eq_true rfl) z_k0 dX6_play_45 ?_
    refine z_heap (pM_j1 _) ?_
    obtain rfl := Option.some.inj hf
    exact z_ireturn C dX6_play_48
  · replace hf := iN c30 hf
    refine z_iconst C (0 : Int32) dX6_play_33 (by decide) ?_
    obtain rfl := Option.some.inj hf
    exact z_ireturn C dX6_play_34
def f_X6_play (n : Nat) (M : MS) (x1 : Int32) (x2 : Int32) : Option ((MS) × Int32) :=
  (f_X6_isTile x1).bind (fun q2 => if q2 = 0 then (f_X6_play_b27 n x1 x2 M (1 : Int32)) else (chk (inB (1 : Int32) 217) (if (M.2 1 (1 : Int32).toNatClampNeg) = (1 : Int32) then (f_X6_play_b27 n x1 x2 M (0 : Int32)) else (f_X6_play_b27 n x1 x2 M (2 : Int32)))))
set_option maxRecDepth 100000 in
set_option maxHeartbeats 4000000 in
theorem ct_X6_play {E : zE} {l : Launch} {h0 : Hp} {m : Nat} {n : Nat} {M : MS} {x1 : Int32} {x2 : Int32} {r : ((MS) × Int32)}  (hf : f_X6_play n M x1 x2 = some r) : zM E l 9 yX6_play cX6_play 3 (some .int) [.ref m, .int x1, .int x2] (pM E h0 m M) (some (.int r.2)) (pM E h0 m r.1) := by
  refine zM_of (lv := [(0, .ref m), (1, .int x1), (2, .int x2)]) (by decide +kernel) (Nat.le_of_ble_eq_true rfl) rfl (fun X hX C => ?_)
  subst hX
  replace C : zC E X RX6 cX6_play 3 (some .int) 9 := C
  unfold f_X6_play at hf
  refine z_aload_n C dX6_play_0 0 rfl ?_
  refine z_iload_n C dX6_play_1 1 rfl ?_
  obtain ⟨q2, hq2, hf⟩ := bd_some hf
  refine iv_X6_206 C [.int x1] [.ref m] (ct_X6_isTile hq2) rfl (by decide) rfl (Nat.le_of_ble_eq_true rfl) z_k0 dX6_play_2 ?_
  refine z_if_ne C 12 dX6_play_5 (by decide) (fun c5 => ?_) (fun c5 => ?_)
  · replace hf := iN c5 hf
    refine z_aload_n C dX6_play_12 0 rfl ?_
    refine gf_X6_13 C dX6_play_13 ?_
    refine z_iconst C (1 : Int32) dX6_play_16 (by decide) ?_
    obtain ⟨c17, hf⟩ := chk_some hf
    refine z_iald C pM_a1 c17 dX6_play_17 ?_
    refine z_iconst C (1 : Int32) dX6_play_18 (by decide) ?_
    refine z_icmp_ne C 26 dX6_play_19 (by decide) (fun c19 => ?_) (fun c19 => ?_)
    · replace hf := iN c19 hf
      refine z_iconst C (2 : Int32) dX6_play_26 (by decide) ?_
      exact z_sub [0, 1, 2] rfl (w_X6_play_b27 C hf)
    · replace hf := ip c19 hf
      refine z_iconst C (0 : Int32) dX6_play_22 (by decide) ?_
      refine z_goto C 27 dX6_play_23 (by decide) ?_
      exact z_sub [0, 1, 2] rfl (w_X6_play_b27 C hf)
  · replace hf := ip c5 hf
    refine z_iconst C (1 : Int32) dX6_play_8 (by decide) ?_
    refine z_goto C 27 dX6_play_9 (by decide) ?_
    exact z_sub [0, 1, 2] rfl (w_X6_play_b27 C hf)
/-! X6_draw: depth 3 -/
def f_X6_draw_b16 (n : Nat)   (M : MS) (s0 : Int32) : Option ((MS) × Int32) :=
  (f_X6_refused M s0).bind (fun q16 => if q16.2 = 0 then ((f_X6_remember n q16.1).bind (fun q25 => (f_X6_drawOn n (q25.2 1)).bind (fun q32 => some (mA q25 1 q32.1, q32.2)))) else (some (q16.1, (0 : Int32))))
set_option maxRecDepth 100000 in
set_option maxHeartbeats 4000000 in
theorem w_X6_draw_b16 {E : zE} {X : zX} {h0 : Hp} {m : Nat} {n : Nat}   (C : zC E X RX6 cX6_draw 1 (some .int) 3)   {M : MS} {s0 : Int32} {r : ((MS) × Int32)} (hf : f_X6_draw_b16 n M s0 = some r) : zW E X 1 0 0 (MQ (xb X) (zQ E (some (.int r.2)) (pM E h0 m r.1)) (xa X) (xs X) 0 0 (zA E)) 16 (pM E h0 m M) [(0, .ref m)] [.int s0, .ref m] := by
  unfold f_X6_draw_b16 at hf
  obtain ⟨q16, hq16, hf⟩ := bd_some hf
  refine iv_X6_141 C [.int s0] [] (ct_X6_refused hq16) pM_o rfl (by decide) rfl (Nat.le_of_ble_eq_true rfl) z_k0 dX6_draw_16 ?_
  refine z_if_eq C 24 dX6_draw_19 (by decide) (fun c19 => ?_) (fun c19 => ?_)
  · replace hf := ip c19 hf
    refine z_aload_n C dX6_draw_24 0 rfl ?_
    obtain ⟨q25, hq25, hf⟩ := bd_some hf
    refine iv_X6_223 C [] [] (ct_X6_remember hq25) pM_o rfl (by decide) rfl (Nat.le_of_ble_eq_true rfl) z_k0 dX6_draw_25 ?_
    refine z_aload_n C dX6_draw_28 0 rfl ?_
    refine gf_X6_13 C dX6_draw_29 ?_
    obtain ⟨q32, hq32, hf⟩ := bd_some hf
    refine z_heap pM_i1 ?_
    refine iv_X6_176 C [.ref (m + 2)] [] (ct_X6_drawOn hq32) rfl (by decide) rfl (Nat.le_of_ble_eq_true rfl) z_k0 dX6_draw_32 ?_
    refine z_heap (pM_j1 _) ?_
    obtain rfl := Option.some.inj hf
    exact z_ireturn C dX6_draw_35
  · replace hf := iN c19 hf
    refine z_iconst C (0 : Int32) dX6_draw_22 (by decide) ?_
    obtain rfl := Option.some.inj hf
    exact z_ireturn C dX6_draw_23
def f_X6_draw (n : Nat) (M : MS) : Option ((MS) × Int32) :=
  (f_X6_canDraw (M.2 1)).bind (fun q5 => if q5 = 0 then (f_X6_draw_b16 n M (1 : Int32)) else (f_X6_draw_b16 n M (0 : Int32)))
set_option maxRecDepth 100000 in
set_option maxHeartbeats 4000000 in
theorem ct_X6_draw {E : zE} {l : Launch} {h0 : Hp} {m : Nat} {n : Nat} {M : MS} {r : ((MS) × Int32)}  (hf : f_X6_draw n M = some r) : zM E l 3 yX6_draw cX6_draw 1 (some .int) [.ref m] (pM E h0 m M) (some (.int r.2)) (pM E h0 m r.1) := by
  refine zM_of (lv := [(0, .ref m)]) (by decide +kernel) (Nat.le_of_ble_eq_true rfl) rfl (fun X hX C => ?_)
  subst hX
  replace C : zC E X RX6 cX6_draw 1 (some .int) 3 := C
  unfold f_X6_draw at hf
  refine z_aload_n C dX6_draw_0 0 rfl ?_
  refine z_aload_n C dX6_draw_1 0 rfl ?_
  refine gf_X6_13 C dX6_draw_2 ?_
  obtain ⟨q5, hq5, hf⟩ := bd_some hf
  refine z_heap pM_i1 ?_
  refine iv_X6_173 C [.ref (m + 2)] [.ref m] (ct_X6_canDraw hq5) rfl (by decide) rfl (Nat.le_of_ble_eq_true rfl) z_k0 dX6_draw_5 ?_
  refine z_heap pM_i1.symm ?_
  refine z_if_eq C 15 dX6_draw_8 (by decide) (fun c8 => ?_) (fun c8 => ?_)
  · replace hf := ip c8 hf
    refine z_iconst C (1 : Int32) dX6_draw_15 (by decide) ?_
    exact z_sub [0] rfl (w_X6_draw_b16 C hf)
  · replace hf := iN c8 hf
    refine z_iconst C (0 : Int32) dX6_draw_11 (by decide) ?_
    refine z_goto C 16 dX6_draw_12 (by decide) ?_
    exact z_sub [0] rfl (w_X6_draw_b16 C hf)
/-! X6_pass: depth 8 -/
def f_X6_pass_b16 (n : Nat)   (M : MS) (s0 : Int32) : Option ((MS) × Int32) :=
  (f_X6_refused M s0).bind (fun q16 => if q16.2 = 0 then ((f_X6_remember n q16.1).bind (fun q25 => (f_X6_passOn n (q25.2 1)).bind (fun q32 => some (mA q25 1 q32.1, q32.2)))) else (some (q16.1, (0 : Int32))))
set_option maxRecDepth 100000 in
set_option maxHeartbeats 4000000 in
theorem w_X6_pass_b16 {E : zE} {X : zX} {h0 : Hp} {m : Nat} {n : Nat}   (C : zC E X RX6 cX6_pass 1 (some .int) 8)   {M : MS} {s0 : Int32} {r : ((MS) × Int32)} (hf : f_X6_pass_b16 n M s0 = some r) : zW E X 1 0 0 (MQ (xb X) (zQ E (some (.int r.2)) (pM E h0 m r.1)) (xa X) (xs X) 0 0 (zA E)) 16 (pM E h0 m M) [(0, .ref m)] [.int s0, .ref m] := by
  unfold f_X6_pass_b16 at hf
  obtain ⟨q16, hq16, hf⟩ := bd_some hf
  refine iv_X6_141 C [.int s0] [] (ct_X6_refused hq16) pM_o rfl (by decide) rfl (Nat.le_of_ble_eq_true rfl) z_k0 dX6_pass_16 ?_
  refine z_if_eq C 24 dX6_pass_19 (by decide) (fun c19 => ?_) (fun c19 => ?_)
  · replace hf := ip c19 hf
    refine z_aload_n C dX6_pass_24 0 rfl ?_
    obtain ⟨q25, hq25, hf⟩ := bd_some hf
    refine iv_X6_223 C [] [] (ct_X6_remember hq25) pM_o rfl (by decide) rfl (Nat.le_of_ble_eq_true rfl) z_k0 dX6_pass_25 ?_
    refine z_aload_n C dX6_pass_28 0 rfl ?_
    refine gf_X6_13 C dX6_pass_29 ?_
    obtain ⟨q32, hq32, hf⟩ := bd_some hf
    refine z_heap pM_i1 ?_
    refine iv_X6_182 C [.ref (m + 2)] [] (ct_X6_passOn hq32) rfl (by decide) rfl (Nat.le_of_ble_eq_true rfl) z_k0 dX6_pass_32 ?_
    refine z_heap (pM_j1 _) ?_
    obtain rfl := Option.some.inj hf
    exact z_ireturn C dX6_pass_35
  · replace hf := iN c19 hf
    refine z_iconst C (0 : Int32) dX6_pass_22 (by decide) ?_
    obtain rfl := Option.some.inj hf
    exact z_ireturn C dX6_pass_23
def f_X6_pass (n : Nat) (M : MS) : Option ((MS) × Int32) :=
  (f_X6_canPass (M.2 1)).bind (fun q5 => if q5 = 0 then (f_X6_pass_b16 n M (1 : Int32)) else (f_X6_pass_b16 n M (0 : Int32)))
set_option maxRecDepth 100000 in
set_option maxHeartbeats 4000000 in
theorem ct_X6_pass {E : zE} {l : Launch} {h0 : Hp} {m : Nat} {n : Nat} {M : MS} {r : ((MS) × Int32)}  (hf : f_X6_pass n M = some r) : zM E l 8 yX6_pass cX6_pass 1 (some .int) [.ref m] (pM E h0 m M) (some (.int r.2)) (pM E h0 m r.1) := by
  refine zM_of (lv := [(0, .ref m)]) (by decide +kernel) (Nat.le_of_ble_eq_true rfl) rfl (fun X hX C => ?_)
  subst hX
  replace C : zC E X RX6 cX6_pass 1 (some .int) 8 := C
  unfold f_X6_pass at hf
  refine z_aload_n C dX6_pass_0 0 rfl ?_
  refine z_aload_n C dX6_pass_1 0 rfl ?_
  refine gf_X6_13 C dX6_pass_2 ?_
  obtain ⟨q5, hq5, hf⟩ := bd_some hf
  refine z_heap pM_i1 ?_
  refine iv_X6_179 C [.ref (m + 2)] [.ref m] (ct_X6_canPass hq5) rfl (by decide) rfl (Nat.le_of_ble_eq_true rfl) z_k0 dX6_pass_5 ?_
  refine z_heap pM_i1.symm ?_
  refine z_if_eq C 15 dX6_pass_8 (by decide) (fun c8 => ?_) (fun c8 => ?_)
  · replace hf := ip c8 hf
    refine z_iconst C (1 : Int32) dX6_pass_15 (by decide) ?_
    exact z_sub [0] rfl (w_X6_pass_b16 C hf)
  · replace hf := iN c8 hf
    refine z_iconst C (0 : Int32) dX6_pass_11 (by decide) ?_
    refine z_goto C 16 dX6_pass_12 (by decide) ?_
    exact z_sub [0] rfl (w_X6_pass_b16 C hf)
/-! X6_undo: depth 2 -/
def f_X6_undo_b13 (n : Nat)   (M : MS) (s0 : Int32) : Option ((MS) × Int32) :=
  (f_X6_refused M s0).bind (fun q13 => if q13.2 = 0 then ((f_X6_copyState n 3038 217 ((mS q13.1 2 ((q13.1.1 2) - (1 : Int32))).2 3) ((mS q13.1 2 ((q13.1.1 2) - (1 : Int32))).2 1) ((217 : Int32) * ((mS q13.1 2 ((q13.1.1 2) - (1 : Int32))).1 2)) (0 : Int32)).bind (fun q48 => some (mA (mS q13.1 2 ((q13.1.1 2) - (1 : Int32))) 1 q48, ((mA (mS q13.1 2 ((q13.1.1 2) - (1 : Int32))) 1 q48).1 2)))) else (some (q13.1, (0 : Int32))))
set_option maxRecDepth 100000 in
set_option maxHeartbeats 4000000 in
theorem w_X6_undo_b13 {E : zE} {X : zX} {h0 : Hp} {m : Nat} {n : Nat}   (C : zC E X RX6 cX6_undo 1 (some .int) 2)   {M : MS} {s0 : Int32} {r : ((MS) × Int32)} (hf : f_X6_undo_b13 n M s0 = some r) : zW E X 1 0 0 (MQ (xb X) (zQ E (some (.int r.2)) (pM E h0 m r.1)) (xa X) (xs X) 0 0 (zA E)) 13 (pM E h0 m M) [(0, .ref m)] [.int s0, .ref m] := by
  unfold f_X6_undo_b13 at hf
  obtain ⟨q13, hq13, hf⟩ := bd_some hf
  refine iv_X6_141 C [.int s0] [] (ct_X6_refused hq13) pM_o rfl (by decide) rfl (Nat.le_of_ble_eq_true rfl) z_k0 dX6_undo_13 ?_
  refine z_if_eq C 21 dX6_undo_16 (by decide) (fun c16 => ?_) (fun c16 => ?_)
  · replace hf := ip c16 hf
    refine z_aload_n C dX6_undo_21 0 rfl ?_
    refine z_dup C dX6_undo_22 rfl ?_
    refine gf_X6_198 C dX6_undo_23 ?_
    refine z_iconst C (1 : Int32) dX6_undo_26 (by decide) ?_
    refine z_isub C dX6_undo_27 ?_
    refine pf_X6_198 C dX6_undo_28 ?_
    refine z_aload_n C dX6_undo_31 0 rfl ?_
    refine gf_X6_19 C dX6_undo_32 ?_
    refine z_sipush C (217 : Int32) dX6_undo_35 (by decide) ?_
    refine z_aload_n C dX6_undo_38 0 rfl ?_
    refine gf_X6_198 C dX6_undo_39 ?_
    refine z_imul C dX6_undo_42 ?_
    refine z_aload_n C dX6_undo_43 0 rfl ?_
    refine gf_X6_13 C dX6_undo_44 ?_
    refine z_iconst C (0 : Int32) dX6_undo_47 (by decide) ?_
    obtain ⟨q48, hq48, hf⟩ := bd_some hf
    refine z_heap (pI_of pM_a1) ?_
    refine iv_X6_194 C [.ref (m + 4), .int ((217 : Int32) * ((mS q13.1 2 ((q13.1.1 2) - (1 : Int32))).1 2)), .ref (m + 2), .int (0 : Int32)] [] (ct_X6_copyState (a1 := (m + 4)) (by omega) pM_a3 hq48) rfl (by decide) rfl (Nat.le_of_ble_eq_true rfl) z_k0 dX6_undo_48 ?_
    refine z_heap (pM_w1 _) ?_
    refine z_aload_n C dX6_undo_51 0 rfl ?_
    refine gf_X6_198 C dX6_undo_52 ?_
    obtain rfl := Option.some.inj hf
    exact z_ireturn C dX6_undo_55
  · replace hf := iN c16 hf
    refine z_iconst C (0 : Int32) dX6_undo_19 (by decide) ?_
    obtain rfl := Option.some.inj hf
    exact z_ireturn C dX6_undo_20
def f_X6_undo (n : Nat) (M : MS) : Option ((MS) × Int32) :=
  if (M.1 2) = 0 then (f_X6_undo_b13 n M (1 : Int32)) else (f_X6_undo_b13 n M (0 : Int32))
set_option maxRecDepth 100000 in
set_option maxHeartbeats 4000000 in
theorem ct_X6_undo {E : zE} {l : Launch} {h0 : Hp} {m : Nat} {n : Nat} {M : MS} {r : ((MS) × Int32)}  (hf : f_X6_undo n M = some r) : zM E l 2 yX6_undo cX6_undo 1 (some .int) [.ref m] (pM E h0 m M) (some (.int r.2)) (pM E h0 m r.1) := by
  refine zM_of (lv := [(0, .ref m)]) (by decide +kernel) (Nat.le_of_ble_eq_true rfl) rfl (fun X hX C => ?_)
  subst hX
  replace C : zC E X RX6 cX6_undo 1 (some .int) 2 := C
  unfold f_X6_undo at hf
  refine z_aload_n C dX6_undo_0 0 rfl ?_
  refine z_aload_n C dX6_undo_1 0 rfl ?_
  refine gf_X6_198 C dX6_undo_2 ?_
  refine z_if_ne C 12 dX6_undo_5 (by decide) (fun c5 => ?_) (fun c5 => ?_)
  · replace hf := iN c5 hf
    refine z_iconst C (0 : Int32) dX6_undo_12 (by decide) ?_
    exact z_sub [0] rfl (w_X6_undo_b13 C hf)
  · replace hf := ip c5 hf
    refine z_iconst C (1 : Int32) dX6_undo_8 (by decide) ?_
    refine z_goto C 13 dX6_undo_9 (by decide) ?_
    exact z_sub [0] rfl (w_X6_undo_b13 C hf)
/-! X6_why: depth 8 -/
def f_X6_why_b13 (n : Nat) (x1 : Int32)   (M : MS) (s0 : Int32) : Option ((MS) × Int32) :=
  (f_X6_refused M s0).bind (fun q13 => if q13.2 = 0 then (chk (inB (1 : Int32) 217) (if (q13.1.2 1 (1 : Int32).toNatClampNeg) = (1 : Int32) then ((f_X6_reason n (q13.1.2 1) x1).bind (fun q36 => some (q13.1, q36))) else (some (q13.1, (-1 : Int32))))) else (some (q13.1, (0 : Int32))))
set_option maxRecDepth 100000 in
set_option maxHeartbeats 4000000 in
theorem w_X6_why_b13 {E : zE} {X : zX} {h0 : Hp} {m : Nat} {n : Nat} {x1 : Int32}   (C : zC E X RX6 cX6_why 2 (some .int) 8)   {M : MS} {s0 : Int32} {r : ((MS) × Int32)} (hf : f_X6_why_b13 n x1 M s0 = some r) : zW E X 2 0 0 (MQ (xb X) (zQ E (some (.int r.2)) (pM E h0 m r.1)) (xa X) (xs X) 0 0 (zA E)) 13 (pM E h0 m M) [(0, .ref m), (1, .int x1)] [.int s0, .ref m] := by
  unfold f_X6_why_b13 at hf
  obtain ⟨q13, hq13, hf⟩ := bd_some hf
  refine iv_X6_141 C [.int s0] [] (ct_X6_refused hq13) pM_o rfl (by decide) rfl (Nat.le_of_ble_eq_true rfl) z_k0 dX6_why_13 ?_
  refine z_if_eq C 21 dX6_why_16 (by decide) (fun c16 => ?_) (fun c16 => ?_)
  · replace hf := ip c16 hf
    refine z_aload_n C dX6_why_21 0 rfl ?_
    refine gf_X6_13 C dX6_why_22 ?_
    refine z_iconst C (1 : Int32) dX6_why_25 (by decide) ?_
    obtain ⟨c26, hf⟩ := chk_some hf
    refine z_iald C pM_a1 c26 dX6_why_26 ?_
    refine z_iconst C (1 : Int32) dX6_why_27 (by decide) ?_
    refine z_icmp_ne C 42 dX6_why_28 (by decide) (fun c28 => ?_) (fun c28 => ?_)
    · replace hf := iN c28 hf
      refine z_iconst C (-1 : Int32) dX6_why_42 (by decide) ?_
      obtain rfl := Option.some.inj hf
      exact z_ireturn C dX6_why_43
    · replace hf := ip c28 hf
      refine z_aload_n C dX6_why_31 0 rfl ?_
      refine gf_X6_13 C dX6_why_32 ?_
      refine z_iload_n C dX6_why_35 1 rfl ?_
      obtain ⟨q36, hq36, hf⟩ := bd_some hf
      refine z_heap pM_i1 ?_
      refine iv_X6_102 C [.ref (m + 2), .int x1] [] (ct_X6_reason hq36) rfl (by decide) rfl (Nat.le_of_ble_eq_true rfl) z_k0 dX6_why_36 ?_
      refine z_heap pM_i1.symm ?_
      refine z_goto C 43 dX6_why_39 (by decide) ?_
      obtain rfl := Option.some.inj hf
      exact z_ireturn C dX6_why_43
  · replace hf := iN c16 hf
    refine z_iconst C (0 : Int32) dX6_why_19 (by decide) ?_
    obtain rfl := Option.some.inj hf
    exact z_ireturn C dX6_why_20
def f_X6_why (n : Nat) (M : MS) (x1 : Int32) : Option ((MS) × Int32) :=
  (f_X6_isTile x1).bind (fun q2 => if q2 = 0 then (f_X6_why_b13 n x1 M (1 : Int32)) else (f_X6_why_b13 n x1 M (0 : Int32)))
set_option maxRecDepth 100000 in
set_option maxHeartbeats 4000000 in
theorem ct_X6_why {E : zE} {l : Launch} {h0 : Hp} {m : Nat} {n : Nat} {M : MS} {x1 : Int32} {r : ((MS) × Int32)}  (hf : f_X6_why n M x1 = some r) : zM E l 8 yX6_why cX6_why 2 (some .int) [.ref m, .int x1] (pM E h0 m M) (some (.int r.2)) (pM E h0 m r.1) := by
  refine zM_of (lv := [(0, .ref m), (1, .int x1)]) (by decide +kernel) (Nat.le_of_ble_eq_true rfl) rfl (fun X hX C => ?_)
  subst hX
  replace C : zC E X RX6 cX6_why 2 (some .int) 8 := C
  unfold f_X6_why at hf
  refine z_aload_n C dX6_why_0 0 rfl ?_
  refine z_iload_n C dX6_why_1 1 rfl ?_
  obtain ⟨q2, hq2, hf⟩ := bd_some hf
  refine iv_X6_206 C [.int x1] [.ref m] (ct_X6_isTile hq2) rfl (by decide) rfl (Nat.le_of_ble_eq_true rfl) z_k0 dX6_why_2 ?_
  refine z_if_eq C 12 dX6_why_5 (by decide) (fun c5 => ?_) (fun c5 => ?_)
  · replace hf := ip c5 hf
    refine z_iconst C (1 : Int32) dX6_why_12 (by decide) ?_
    exact z_sub [0, 1] rfl (w_X6_why_b13 C hf)
  · replace hf := iN c5 hf
    refine z_iconst C (0 : Int32) dX6_why_8 (by decide) ?_
    refine z_goto C 13 dX6_why_9 (by decide) ?_
    exact z_sub [0, 1] rfl (w_X6_why_b13 C hf)
/-! X6_legal: depth 8 -/
def f_X6_legal_b44 (n : Nat) (K9 : MS → Int32 → Int32 → Option ((MS) × Int32))  (M : MS) (x2 : Int32) (s0 : Int32) (s1 : Int32) : Option ((MS) × Int32) :=
  K9 M (s1 ||| s0) (x2 + 1)
set_option maxRecDepth 100000 in
set_option maxHeartbeats 4000000 in
theorem w_X6_legal_b44 {E : zE} {X : zX} {h0 : Hp} {m : Nat} {n : Nat} {K9 : MS → Int32 → Int32 → Option ((MS) × Int32)}  (C : zC E X RX6 cX6_legal 3 (some .int) 8)  (hK9 : ∀ (M : MS) (x1 : Int32) (x2 : Int32) (r : ((MS) × Int32)), K9 M x1 x2 = some r → zW E X 3 0 0 (MQ (xb X) (zQ E (some (.int r.2)) (pM E h0 m r.1)) (xa X) (xs X) 0 0 (zA E)) 9 (pM E h0 m M) [(0, .ref m), (1, .int x1), (2, .int x2)] []) {M : MS} {x2 : Int32} {s0 : Int32} {s1 : Int32} {r : ((MS) × Int32)} (hf : f_X6_legal_b44 n K9 M x2 s0 s1 = some r) : zW E X 3 0 0 (MQ (xb X) (zQ E (some (.int r.2)) (pM E h0 m r.1)) (xa X) (xs X) 0 0 (zA E)) 44 (pM E h0 m M) [(0, .ref m), (2, .int x2)] [.int s0, .int s1] := by
  unfold f_X6_legal_b44 at hf
  refine z_ior C dX6_legal_44 ?_
  refine z_istore_n (lv' := [(1, .int (s1 ||| s0)), (0, .ref m), (2, .int x2)]) C dX6_legal_45 (by decide) rfl ?_
  refine z_iinc (lv' := [(2, .int (x2 + 1)), (1, .int (s1 ||| s0)), (0, .ref m)]) C dX6_legal_46 2 (x2 + 1) rfl rfl (by decide) rfl ?_
  refine z_goto C 9 dX6_legal_49 (by decide) ?_
  exact z_sub [2, 1, 0] rfl (hK9 _ _ _ _ hf)
def f_X6_legal_h9 (n : Nat)  (K9 : MS → Int32 → Int32 → Option ((MS) × Int32)) (M : MS) (x1 : Int32) (x2 : Int32) : Option ((MS) × Int32) :=
  if (28 : Int32) ≤ x2 then (some (M, x1)) else (chk (inB (1 : Int32) 217) (if (M.2 1 (1 : Int32).toNatClampNeg) = (1 : Int32) then ((f_X6_reason n (M.2 1) x2).bind (fun q31 => if q31 = 0 then (f_X6_legal_b44 n K9 M x2 (jshl (1 : Int32) x2) x1) else (f_X6_legal_b44 n K9 M x2 (0 : Int32) x1))) else (some (M, x1))))
set_option maxRecDepth 100000 in
set_option maxHeartbeats 4000000 in
theorem w_X6_legal_h9 {E : zE} {X : zX} {h0 : Hp} {m : Nat} {n : Nat}   (C : zC E X RX6 cX6_legal 3 (some .int) 8)   : ∀ (q : Nat) (M : MS) (x1 : Int32) (x2 : Int32) (r : ((MS) × Int32)), lo3 (f_X6_legal_h9 n) q M x1 x2 = some r → zW E X 3 0 0 (MQ (xb X) (zQ E (some (.int r.2)) (pM E h0 m r.1)) (xa X) (xs X) 0 0 (zA E)) 9 (pM E h0 m M) [(0, .ref m), (1, .int x1), (2, .int x2)] [] := by
  refine lo3_ind _ ?_
  intro K9 hK9 M x1 x2 r hf
  unfold f_X6_legal_h9 at hf
  refine z_iload_n C dX6_legal_9 2 rfl ?_
  refine z_bipush C (28 : Int32) dX6_legal_10 (by decide) ?_
  refine z_icmp_ge C 52 dX6_legal_12 (by decide) (fun c12 => ?_) (fun c12 => ?_)
  · replace hf := ip c12 hf
    refine z_iload_n C dX6_legal_52 1 rfl ?_
    obtain rfl := Option.some.inj hf
    exact z_ireturn C dX6_legal_53
  · replace hf := iN c12 hf
    refine z_aload_n C dX6_legal_15 0 rfl ?_
    refine gf_X6_13 C dX6_legal_16 ?_
    refine z_iconst C (1 : Int32) dX6_legal_19 (by decide) ?_
    obtain ⟨c20, hf⟩ := chk_some hf
    refine z_iald C pM_a1 c20 dX6_legal_20 ?_
    refine z_iconst C (1 : Int32) dX6_legal_21 (by decide) ?_
    refine z_icmp_ne C 52 dX6_legal_22 (by decide) (fun c22 => ?_) (fun c22 => ?_)
    · replace hf := iN c22 hf
      refine z_iload_n C dX6_legal_52 1 rfl ?_
      obtain rfl := Option.some.inj hf
      exact z_ireturn C dX6_legal_53
    · replace hf := ip c22 hf
      refine z_iload_n C dX6_legal_25 1 rfl ?_
      refine z_aload_n C dX6_legal_26 0 rfl ?_
      refine gf_X6_13 C dX6_legal_27 ?_
      refine z_iload_n C dX6_legal_30 2 rfl ?_
      obtain ⟨q31, hq31, hf⟩ := bd_some hf
      refine z_heap pM_i1 ?_
      refine iv_X6_102 C [.ref (m + 2), .int x2] [.int x1] (ct_X6_reason hq31) rfl (by decide) rfl (Nat.le_of_ble_eq_true rfl) z_k0 dX6_legal_31 ?_
      refine z_heap pM_i1.symm ?_
      refine z_if_ne C 43 dX6_legal_34 (by decide) (fun c34 => ?_) (fun c34 => ?_)
      · replace hf := iN c34 hf
        refine z_iconst C (0 : Int32) dX6_legal_43 (by decide) ?_
        exact z_sub [0, 2] rfl (w_X6_legal_b44 C hK9 hf)
      · replace hf := ip c34 hf
        refine z_iconst C (1 : Int32) dX6_legal_37 (by decide) ?_
        refine z_iload_n C dX6_legal_38 2 rfl ?_
        refine z_ishl C dX6_legal_39 ?_
        refine z_goto C 44 dX6_legal_40 (by decide) ?_
        exact z_sub [0, 2] rfl (w_X6_legal_b44 C hK9 hf)
def f_X6_legal (n : Nat) (M : MS) : Option ((MS) × Int32) :=
  lo3 (f_X6_legal_h9 n) n (mS M 0 (0 : Int32)) (0 : Int32) (0 : Int32)
set_option maxRecDepth 100000 in
set_option maxHeartbeats 4000000 in
theorem ct_X6_legal {E : zE} {l : Launch} {h0 : Hp} {m : Nat} {n : Nat} {M : MS} {r : ((MS) × Int32)}  (hf : f_X6_legal n M = some r) : zM E l 8 yX6_legal cX6_legal 3 (some .int) [.ref m] (pM E h0 m M) (some (.int r.2)) (pM E h0 m r.1) := by
  refine zM_of (lv := [(0, .ref m)]) (by decide +kernel) (Nat.le_of_ble_eq_true rfl) rfl (fun X hX C => ?_)
  subst hX
  replace C : zC E X RX6 cX6_legal 3 (some .int) 8 := C
  unfold f_X6_legal at hf
  refine z_aload_n C dX6_legal_0 0 rfl ?_
  refine z_iconst C (0 : Int32) dX6_legal_1 (by decide) ?_
  refine pf_X6_42 C dX6_legal_2 ?_
  refine z_iconst C (0 : Int32) dX6_legal_5 (by decide) ?_
  refine z_istore_n (lv' := [(1, .int (0 : Int32)), (0, .ref m)]) C dX6_legal_6 (by decide) rfl ?_
  refine z_iconst C (0 : Int32) dX6_legal_7 (by decide) ?_
  refine z_istore_n (lv' := [(2, .int (0 : Int32)), (1, .int (0 : Int32)), (0, .ref m)]) C dX6_legal_8 (by decide) rfl ?_
  exact z_sub [2, 1, 0] rfl (w_X6_legal_h9 C n _ _ _ _ hf)
/-! X6_best: depth 9 -/
def f_X6_best (n : Nat) (M : MS) : Option ((MS) × Int32) :=
  (f_X6_bestOf n ((mS M 0 (0 : Int32)).2 1)).bind (fun q9 => some (mS M 0 (0 : Int32), q9))
set_option maxRecDepth 100000 in
set_option maxHeartbeats 4000000 in
theorem ct_X6_best {E : zE} {l : Launch} {h0 : Hp} {m : Nat} {n : Nat} {M : MS} {r : ((MS) × Int32)}  (hf : f_X6_best n M = some r) : zM E l 9 yX6_best cX6_best 1 (some .int) [.ref m] (pM E h0 m M) (some (.int r.2)) (pM E h0 m r.1) := by
  refine zM_of (lv := [(0, .ref m)]) (by decide +kernel) (Nat.le_of_ble_eq_true rfl) rfl (fun X hX C => ?_)
  subst hX
  replace C : zC E X RX6 cX6_best 1 (some .int) 9 := C
  unfold f_X6_best at hf
  refine z_aload_n C dX6_best_0 0 rfl ?_
  refine z_iconst C (0 : Int32) dX6_best_1 (by decide) ?_
  refine pf_X6_42 C dX6_best_2 ?_
  refine z_aload_n C dX6_best_5 0 rfl ?_
  refine gf_X6_13 C dX6_best_6 ?_
  obtain ⟨q9, hq9, hf⟩ := bd_some hf
  refine z_heap pM_i1 ?_
  refine iv_X6_133 C [.ref (m + 2)] [] (ct_X6_bestOf hq9) rfl (by decide) rfl (Nat.le_of_ble_eq_true rfl) z_k0 dX6_best_9 ?_
  refine z_heap pM_i1.symm ?_
  obtain rfl := Option.some.inj hf
  exact z_ireturn C dX6_best_12
/-! X6_isTried: depth 1 -/
def f_X6_isTried_b31 (n : Nat) (M : MS) (x1 : Int32) (x2 : Int32) (K5 : Int32 → Int32 → Option Int32)  (x4 : Int32) (s0 : Int32) : Option Int32 :=
  K5 s0 (x4 + 1)
set_option maxRecDepth 100000 in
set_option maxHeartbeats 4000000 in
theorem w_X6_isTried_b31 {E : zE} {X : zX} {h0 : Hp} {m : Nat} {n : Nat} {M : MS} {x1 : Int32} {x2 : Int32} {K5 : Int32 → Int32 → Option Int32}  (C : zC E X RX6 cX6_isTried 5 (some .boolean) 1)  (hK5 : ∀ (x3 : Int32) (x4 : Int32) (r : Int32), K5 x3 x4 = some r → zW E X 5 0 0 (MQ (xb X) (zQ E (some (.int r)) (pM E h0 m M)) (xa X) (xs X) 0 0 (zA E)) 5 (pM E h0 m M) [(0, .ref m), (1, .int x1), (2, .int x2), (3, .int x3), (4, .int x4)] []) {x4 : Int32} {s0 : Int32} {r : Int32} (hf : f_X6_isTried_b31 n M x1 x2 K5 x4 s0 = some r) : zW E X 5 0 0 (MQ (xb X) (zQ E (some (.int r)) (pM E h0 m M)) (xa X) (xs X) 0 0 (zA E)) 31 (pM E h0 m M) [(0, .ref m), (1, .int x1), (2, .int x2), (4, .int x4)] [.int s0] := by
  unfold f_X6_isTried_b31 at hf
  refine z_istore_n (lv' := [(3, .int s0), (0, .ref m), (1, .int x1), (2, .int x2), (4, .int x4)]) C dX6_isTried_31 (by decide) rfl ?_
  refine z_iinc (lv' := [(4, .int (x4 + 1)), (3, .int s0), (0, .ref m), (1, .int x1), (2, .int x2)]) C dX6_isTried_32 4 (x4 + 1) rfl rfl (by decide) rfl ?_
  refine z_goto C 5 dX6_isTried_35 (by decide) ?_
  exact z_sub [2, 3, 4, 1, 0] rfl (hK5 _ _ _ hf)
def f_X6_isTried_b26 (n : Nat) (M : MS) (x1 : Int32) (x2 : Int32) (K5 : Int32 → Int32 → Option Int32)  (x4 : Int32) : Option Int32 :=
  f_X6_isTried_b31 n M x1 x2 K5 x4 (1 : Int32)
set_option maxRecDepth 100000 in
set_option maxHeartbeats 4000000 in
theorem w_X6_isTried_b26 {E : zE} {X : zX} {h0 : Hp} {m : Nat} {n : Nat} {M : MS} {x1 : Int32} {x2 : Int32} {K5 : Int32 → Int32 → Option Int32}  (C : zC E X RX6 cX6_isTried 5 (some .boolean) 1)  (hK5 : ∀ (x3 : Int32) (x4 : Int32) (r : Int32), K5 x3 x4 = some r → zW E X 5 0 0 (MQ (xb X) (zQ E (some (.int r)) (pM E h0 m M)) (xa X) (xs X) 0 0 (zA E)) 5 (pM E h0 m M) [(0, .ref m), (1, .int x1), (2, .int x2), (3, .int x3), (4, .int x4)] []) {x4 : Int32} {r : Int32} (hf : f_X6_isTried_b26 n M x1 x2 K5 x4 = some r) : zW E X 5 0 0 (MQ (xb X) (zQ E (some (.int r)) (pM E h0 m M)) (xa X) (xs X) 0 0 (zA E)) 26 (pM E h0 m M) [(0, .ref m), (1, .int x1), (2, .int x2), (4, .int x4)] [] := by
  unfold f_X6_isTried_b26 at hf
  refine z_iconst C (1 : Int32) dX6_isTried_26 (by decide) ?_
  refine z_goto C 31 dX6_isTried_27 (by decide) ?_
  exact z_sub [0, 1, 2, 3] rfl (w_X6_isTried_b31 C hK5 hf)
def f_X6_isTried_h5 (n : Nat) (M : MS) (x1 : Int32) (x2 : Int32)  (K5 : Int32 → Int32 → Option Int32) (x3 : Int32) (x4 : Int32) : Option Int32 :=
  if x2 ≤ x4 then (chk (x3 = 0 ∨ x3 = 1) (some x3)) else (if x3 = 0 then (chk (inB x4 7) (if (M.2 7 x4.toNatClampNeg) = x1 then (f_X6_isTried_b26 n M x1 x2 K5 x4) else (f_X6_isTried_b31 n M x1 x2 K5 x4 (0 : Int32)))) else (f_X6_isTried_b26 n M x1 x2 K5 x4))
set_option maxRecDepth 100000 in
set_option maxHeartbeats 4000000 in
theorem w_X6_isTried_h5 {E : zE} {X : zX} {h0 : Hp} {m : Nat} {n : Nat} {M : MS} {x1 : Int32} {x2 : Int32}   (C : zC E X RX6 cX6_isTried 5 (some .boolean) 1)   : ∀ (q : Nat) (x3 : Int32) (x4 : Int32) (r : Int32), lo2 (f_X6_isTried_h5 n M x1 x2) q x3 x4 = some r → zW E X 5 0 0 (MQ (xb X) (zQ E (some (.int r)) (pM E h0 m M)) (xa X) (xs X) 0 0 (zA E)) 5 (pM E h0 m M) [(0, .ref m), (1, .int x1), (2, .int x2), (3, .int x3), (4, .int x4)] [] := by
  refine lo2_ind _ ?_
  intro K5 hK5 x3 x4 r hf
  unfold f_X6_isTried_h5 at hf
  refine z_iload C dX6_isTried_5 4 rfl ?_
  refine z_iload_n C dX6_isTried_7 2 rfl ?_
  refine z_icmp_ge C 38 dX6_isTried_8 (by decide) (fun c8 => ?_) (fun c8 => ?_)
  · replace hf := ip c8 hf
    refine z_iload_n C dX6_isTried_38 3 rfl ?_
    obtain ⟨c39, hf⟩ := chk_some hf
    obtain rfl := Option.some.inj hf
    exact z_zreturn C c39 dX6_isTried_39
  · replace hf := iN c8 hf
    refine z_iload_n C dX6_isTried_11 3 rfl ?_
    refine z_if_ne C 26 dX6_isTried_12 (by decide) (fun c12 => ?_) (fun c12 => ?_)
    · replace hf := iN c12 hf
      exact z_sub [0, 1, 2, 4] rfl (w_X6_isTried_b26 C hK5 hf)
    · replace hf := ip c12 hf
      refine z_aload_n C dX6_isTried_15 0 rfl ?_
      refine gf_X6_32 C dX6_isTried_16 ?_
      refine z_iload C dX6_isTried_19 4 rfl ?_
      obtain ⟨c21, hf⟩ := chk_some hf
      refine z_iald C pM_a7 c21 dX6_isTried_21 ?_
      refine z_iload_n C dX6_isTried_22 1 rfl ?_
      refine z_icmp_ne C 30 dX6_isTried_23 (by decide) (fun c23 => ?_) (fun c23 => ?_)
      · replace hf := iN c23 hf
        refine z_iconst C (0 : Int32) dX6_isTried_30 (by decide) ?_
        exact z_sub [0, 1, 2, 4] rfl (w_X6_isTried_b31 C hK5 hf)
      · replace hf := ip c23 hf
        exact z_sub [0, 1, 2, 4] rfl (w_X6_isTried_b26 C hK5 hf)
def f_X6_isTried (n : Nat) (M : MS) (x1 : Int32) (x2 : Int32) : Option Int32 :=
  lo2 (f_X6_isTried_h5 n M x1 x2) n (0 : Int32) (0 : Int32)
set_option maxRecDepth 100000 in
set_option maxHeartbeats 4000000 in
theorem ct_X6_isTried {E : zE} {l : Launch} {h0 : Hp} {m : Nat} {n : Nat} {M : MS} {x1 : Int32} {x2 : Int32} {r : Int32}  (hf : f_X6_isTried n M x1 x2 = some r) : zM E l 1 yX6_isTried cX6_isTried 5 (some .boolean) [.ref m, .int x1, .int x2] (pM E h0 m M) (some (.int r)) (pM E h0 m M) := by
  refine zM_of (lv := [(0, .ref m), (1, .int x1), (2, .int x2)]) (by decide +kernel) (Nat.le_of_ble_eq_true rfl) rfl (fun X hX C => ?_)
  subst hX
  replace C : zC E X RX6 cX6_isTried 5 (some .boolean) 1 := C
  unfold f_X6_isTried at hf
  refine z_iconst C (0 : Int32) dX6_isTried_0 (by decide) ?_
  refine z_istore_n (lv' := [(3, .int (0 : Int32)), (0, .ref m), (1, .int x1), (2, .int x2)]) C dX6_isTried_1 (by decide) rfl ?_
  refine z_iconst C (0 : Int32) dX6_isTried_2 (by decide) ?_
  refine z_istore (lv' := [(4, .int (0 : Int32)), (3, .int (0 : Int32)), (0, .ref m), (1, .int x1), (2, .int x2)]) C dX6_isTried_3 (by decide) rfl ?_
  exact z_sub [2, 3, 4, 1, 0] rfl (w_X6_isTried_h5 C n _ _ _ hf)
/-! X6_nextTried: depth 4 -/
def f_X6_nextTried_b47 (n : Nat) (M : MS) (x2 : Int32) (x3 : Int32) (x4 : Int32) (K3 : Int32 → Option Int32)  (x5 : Int32) : Option Int32 :=
  K3 (x5 + 1)
set_option maxRecDepth 100000 in
set_option maxHeartbeats 4000000 in
theorem w_X6_nextTried_b47 {E : zE} {X : zX} {h0 : Hp} {m : Nat} {n : Nat} {M : MS} {x2 : Int32} {x3 : Int32} {x4 : Int32} {K3 : Int32 → Option Int32}  (C : zC E X RX6 cX6_nextTried 6 (some .int) 4)  (hK3 : ∀ (x5 : Int32) (r : Int32), K3 x5 = some r → zW E X 6 0 0 (MQ (xb X) (zQ E (some (.int r)) (pM E h0 m M)) (xa X) (xs X) 0 0 (zA E)) 3 (pM E h0 m M) [(0, .ref m), (1, .ref (m + 2)), (2, .int x2), (4, .int x4), (5, .int x5)] []) {x5 : Int32} {r : Int32} (hf : f_X6_nextTried_b47 n M x2 x3 x4 K3 x5 = some r) : zW E X 6 0 0 (MQ (xb X) (zQ E (some (.int r)) (pM E h0 m M)) (xa X) (xs X) 0 0 (zA E)) 47 (pM E h0 m M) [(0, .ref m), (1, .ref (m + 2)), (2, .int x2), (4, .int x4), (5, .int x5)] [] := by
  unfold f_X6_nextTried_b47 at hf
  refine z_iinc (lv' := [(5, .int (x5 + 1)), (0, .ref m), (1, .ref (m + 2)), (2, .int x2), (4, .int x4)]) C dX6_nextTried_47 4 (x5 + 1) rfl rfl (by decide) rfl ?_
  refine z_goto C 3 dX6_nextTried_50 (by decide) ?_
  exact z_sub [1, 2, 3, 4, 0] rfl (hK3 _ _ hf)
def f_X6_nextTried_h3 (n : Nat) (M : MS) (x2 : Int32) (x3 : Int32) (x4 : Int32)  (K3 : Int32 → Option Int32) (x5 : Int32) : Option Int32 :=
  if (28 : Int32) ≤ x5 then (some x5) else (chk (inB ((21 : Int32) + x5) 217) (if (M.2 1 ((21 : Int32) + x5).toNatClampNeg) = x2 then ((f_X6_isTried n M x5 x4).bind (fun q26 => if q26 = 0 then (chk (inB x4 7) ((f_X6_fitsTo n x5 (M.2 8 x4.toNatClampNeg)).bind (fun q41 => if q41 = 0 then (f_X6_nextTried_b47 n M x2 x3 x4 K3 x5) else (some x5)))) else (f_X6_nextTried_b47 n M x2 x3 x4 K3 x5))) else (f_X6_nextTried_b47 n M x2 x3 x4 K3 x5)))
set_option maxRecDepth 100000 in
set_option maxHeartbeats 4000000 in
theorem w_X6_nextTried_h3 {E : zE} {X : zX} {h0 : Hp} {m : Nat} {n : Nat} {M : MS} {x2 : Int32} {x3 : Int32} {x4 : Int32}   (C : zC E X RX6 cX6_nextTried 6 (some .int) 4)   : ∀ (q : Nat) (x5 : Int32) (r : Int32), lo1 (f_X6_nextTried_h3 n M x2 x3 x4) q x5 = some r → zW E X 6 0 0 (MQ (xb X) (zQ E (some (.int r)) (pM E h0 m M)) (xa X) (xs X) 0 0 (zA E)) 3 (pM E h0 m M) [(0, .ref m), (1, .ref (m + 2)), (2, .int x2), (4, .int x4), (5, .int x5)] [] := by
  refine lo1_ind _ ?_
  intro K3 hK3 x5 r hf
  unfold f_X6_nextTried_h3 at hf
  refine z_iload C dX6_nextTried_3 4 rfl ?_
  refine z_bipush C (28 : Int32) dX6_nextTried_5 (by decide) ?_
  refine z_icmp_ge C 53 dX6_nextTried_7 (by decide) (fun c7 => ?_) (fun c7 => ?_)
  · replace hf := ip c7 hf
    refine z_iload C dX6_nextTried_53 4 rfl ?_
    obtain rfl := Option.some.inj hf
    exact z_ireturn C dX6_nextTried_55
  · replace hf := iN c7 hf
    refine z_aload_n C dX6_nextTried_10 1 rfl ?_
    refine z_bipush C (21 : Int32) dX6_nextTried_11 (by decide) ?_
    refine z_iload C dX6_nextTried_13 4 rfl ?_
    refine z_iadd C dX6_nextTried_15 ?_
    obtain ⟨c16, hf⟩ := chk_some hf
    refine z_iald C pM_a1 c16 dX6_nextTried_16 ?_
    refine z_iload_n C dX6_nextTried_17 2 rfl ?_
    refine z_icmp_ne C 47 dX6_nextTried_18 (by decide) (fun c18 => ?_) (fun c18 => ?_)
    · replace hf := iN c18 hf
      exact z_sub [0, 1, 2, 3, 4] rfl (w_X6_nextTried_b47 C hK3 hf)
    · replace hf := ip c18 hf
      refine z_aload_n C dX6_nextTried_21 0 rfl ?_
      refine z_iload C dX6_nextTried_22 4 rfl ?_
      refine z_iload C dX6_nextTried_24 3 rfl ?_
      obtain ⟨q26, hq26, hf⟩ := bd_some hf
      refine iv_X6_226 C [.int x5, .int x4] [] (ct_X6_isTried hq26) pM_o rfl (by decide) rfl (Nat.le_of_ble_eq_true rfl) z_k0 dX6_nextTried_26 ?_
      refine z_if_ne C 47 dX6_nextTried_29 (by decide) (fun c29 => ?_) (fun c29 => ?_)
      · replace hf := iN c29 hf
        exact z_sub [0, 1, 2, 3, 4] rfl (w_X6_nextTried_b47 C hK3 hf)
      · replace hf := ip c29 hf
        refine z_iload C dX6_nextTried_32 4 rfl ?_
        refine z_aload_n C dX6_nextTried_34 0 rfl ?_
        refine gf_X6_35 C dX6_nextTried_35 ?_
        refine z_iload C dX6_nextTried_38 3 rfl ?_
        obtain ⟨c40, hf⟩ := chk_some hf
        refine z_iald C pM_a8 c40 dX6_nextTried_40 ?_
        obtain ⟨q41, hq41, hf⟩ := bd_some hf
        refine iv_X6_87 C [.int x5, .int (M.2 8 x4.toNatClampNeg)] [] (ct_X6_fitsTo hq41) rfl (by decide) rfl (Nat.le_of_ble_eq_true rfl) z_k0 dX6_nextTried_41 ?_
        refine z_if_ne C 53 dX6_nextTried_44 (by decide) (fun c44 => ?_) (fun c44 => ?_)
        · replace hf := iN c44 hf
          refine z_iload C dX6_nextTried_53 4 rfl ?_
          obtain rfl := Option.some.inj hf
          exact z_ireturn C dX6_nextTried_55
        · replace hf := ip c44 hf
          exact z_sub [0, 1, 2, 3, 4] rfl (w_X6_nextTried_b47 C hK3 hf)
def f_X6_nextTried (n : Nat) (M : MS) (x2 : Int32) (x3 : Int32) (x4 : Int32) : Option Int32 :=
  lo1 (f_X6_nextTried_h3 n M x2 x3 x4) n x3
set_option maxRecDepth 100000 in
set_option maxHeartbeats 4000000 in
theorem ct_X6_nextTried {E : zE} {l : Launch} {h0 : Hp} {m : Nat} {n : Nat} {M : MS} {x2 : Int32} {x3 : Int32} {x4 : Int32} {r : Int32}  (hf : f_X6_nextTried n M x2 x3 x4 = some r) : zM E l 4 yX6_nextTried cX6_nextTried 6 (some .int) [.ref m, .ref (m + 2), .int x2, .int x3, .int x4] (pM E h0 m M) (some (.int r)) (pM E h0 m M) := by
  refine zM_of (lv := [(0, .ref m), (1, .ref (m + 2)), (2, .int x2), (3, .int x3), (4, .int x4)]) (by decide +kernel) (Nat.le_of_ble_eq_true rfl) rfl (fun X hX C => ?_)
  subst hX
  replace C : zC E X RX6 cX6_nextTried 6 (some .int) 4 := C
  unfold f_X6_nextTried at hf
  refine z_iload_n C dX6_nextTried_0 3 rfl ?_
  refine z_istore (lv' := [(5, .int x3), (0, .ref m), (1, .ref (m + 2)), (2, .int x2), (3, .int x3), (4, .int x4)]) C dX6_nextTried_1 (by decide) rfl ?_
  exact z_sub [1, 2, 3, 5, 0] rfl (w_X6_nextTried_h3 C n _ _ hf)
/-! X6_longest: depth 5 -/
def f_X6_longest_b130 (n : Nat) (x2 : Int32) (x3 : Int32) (K23 : MS → Int32 → Int32 → Option ((MS) × Int32))  (M : MS) (x4 : Int32) (x5 : Int32) : Option ((MS) × Int32) :=
  K23 M x4 x5
set_option maxRecDepth 100000 in
set_option maxHeartbeats 4000000 in
theorem w_X6_longest_b130 {E : zE} {X : zX} {h0 : Hp} {m : Nat} {n : Nat} {x2 : Int32} {x3 : Int32} {K23 : MS → Int32 → Int32 → Option ((MS) × Int32)}  (C : zC E X RX6 cX6_longest 7 (some .int) 5)  (hK23 : ∀ (M : MS) (x4 : Int32) (x5 : Int32) (r : ((MS) × Int32)), K23 M x4 x5 = some r → zW E X 7 0 0 (MQ (xb X) (zQ E (some (.int r.2)) (pM E h0 m r.1)) (xa X) (xs X) 0 0 (zA E)) 23 (pM E h0 m M) [(0, .ref m), (1, .ref (m + 2)), (2, .int x2), (3, .int x3), (4, .int x4), (5, .int x5)] []) {M : MS} {x4 : Int32} {x5 : Int32} {r : ((MS) × Int32)} (hf : f_X6_longest_b130 n x2 x3 K23 M x4 x5 = some r) : zW E X 7 0 0 (MQ (xb X) (zQ E (some (.int r.2)) (pM E h0 m r.1)) (xa X) (xs X) 0 0 (zA E)) 130 (pM E h0 m M) [(0, .ref m), (1, .ref (m + 2)), (2, .int x2), (3, .int x3), (4, .int x4), (5, .int x5)] [] := by
  unfold f_X6_longest_b130 at hf
  refine z_goto C 23 dX6_longest_130 (by decide) ?_
  exact z_sub [0, 1, 2, 3, 4, 5] rfl (hK23 _ _ _ _ hf)
def f_X6_longest_b113 (n : Nat) (x2 : Int32) (x3 : Int32) (K23 : MS → Int32 → Int32 → Option ((MS) × Int32))  (M : MS) (x5 : Int32) (s0 : Int32) : Option ((MS) × Int32) :=
  if (6 : Int32) ≤ x5 then (f_X6_longest_b130 n x2 x3 K23 M s0 x5) else (chk (inB x5 7) (f_X6_longest_b130 n x2 x3 K23 (mA M 7 (upd (M.2 7) x5.toNatClampNeg (-1 : Int32))) s0 x5))
set_option maxRecDepth 100000 in
set_option maxHeartbeats 4000000 in
theorem w_X6_longest_b113 {E : zE} {X : zX} {h0 : Hp} {m : Nat} {n : Nat} {x2 : Int32} {x3 : Int32} {K23 : MS → Int32 → Int32 → Option ((MS) × Int32)}  (C : zC E X RX6 cX6_longest 7 (some .int) 5)  (hK23 : ∀ (M : MS) (x4 : Int32) (x5 : Int32) (r : ((MS) × Int32)), K23 M x4 x5 = some r → zW E X 7 0 0 (MQ (xb X) (zQ E (some (.int r.2)) (pM E h0 m r.1)) (xa X) (xs X) 0 0 (zA E)) 23 (pM E h0 m M) [(0, .ref m), (1, .ref (m + 2)), (2, .int x2), (3, .int x3), (4, .int x4), (5, .int x5)] []) {M : MS} {x5 : Int32} {s0 : Int32} {r : ((MS) × Int32)} (hf : f_X6_longest_b113 n x2 x3 K23 M x5 s0 = some r) : zW E X 7 0 0 (MQ (xb X) (zQ E (some (.int r.2)) (pM E h0 m r.1)) (xa X) (xs X) 0 0 (zA E)) 113 (pM E h0 m M) [(0, .ref m), (1, .ref (m + 2)), (2, .int x2), (3, .int x3), (5, .int x5)] [.int s0] := by
  unfold f_X6_longest_b113 at hf
  refine z_istore (lv' := [(4, .int s0), (0, .ref m), (1, .ref (m + 2)), (2, .int x2), (3, .int x3), (5, .int x5)]) C dX6_longest_113 (by decide) rfl ?_
  refine z_iload C dX6_longest_115 5 rfl ?_
  refine z_bipush C (6 : Int32) dX6_longest_117 (by decide) ?_
  refine z_icmp_ge C 130 dX6_longest_119 (by decide) (fun c119 => ?_) (fun c119 => ?_)
  · replace hf := ip c119 hf
    exact z_sub [1, 2, 3, 4, 0, 5] rfl (w_X6_longest_b130 C hK23 hf)
  · replace hf := iN c119 hf
    refine z_aload_n C dX6_longest_122 1 rfl ?_
    refine gf_X6_32 C dX6_longest_123 ?_
    refine z_iload C dX6_longest_126 5 rfl ?_
    refine z_iconst C (-1 : Int32) dX6_longest_128 (by decide) ?_
    obtain ⟨c129, hf⟩ := chk_some hf
    refine z_iast C pM_a7 c129 dX6_longest_129 _ (pM_w7 _) ?_
    exact z_sub [1, 2, 3, 4, 0, 5] rfl (w_X6_longest_b130 C hK23 hf)
def f_X6_longest_h23 (n : Nat) (x2 : Int32) (x3 : Int32)  (K23 : MS → Int32 → Int32 → Option ((MS) × Int32)) (M : MS) (x4 : Int32) (x5 : Int32) : Option ((MS) × Int32) :=
  if x5 < 0 then (some (M, x4)) else (if x3 ≤ x4 then (some (M, x4)) else (chk (inB x5 7) ((f_X6_nextTried n M x2 ((M.2 7 x5.toNatClampNeg) + (1 : Int32)) x5).bind (fun q48 => chk (inB x5 7) (if q48 = (28 : Int32) then (f_X6_longest_b130 n x2 x3 K23 (mA M 7 (upd (M.2 7) x5.toNatClampNeg q48)) x4 (x5 + (-1))) else (chk (inB x5 7) ((f_X6_endBehind n q48 ((mA M 7 (upd (M.2 7) x5.toNatClampNeg q48)).2 8 x5.toNatClampNeg)).bind (fun q92 => chk (inB (x5 + (1 : Int32)) 7) (stt (mA (mA M 7 (upd (M.2 7) x5.toNatClampNeg q48)) 8 (upd ((mA M 7 (upd (M.2 7) x5.toNatClampNeg q48)).2 8) (x5 + (1 : Int32)).toNatClampNeg q92)) (fun Mn2 => if (x5 + 1) ≤ x4 then (f_X6_longest_b113 n x2 x3 K23 Mn2 (x5 + 1) x4) else (f_X6_longest_b113 n x2 x3 K23 Mn2 (x5 + 1) (x5 + 1))))))))))))
set_option maxRecDepth 100000 in
set_option maxHeartbeats 4000000 in
theorem w_X6_longest_h23 {E : zE} {X : zX} {h0 : Hp} {m : Nat} {n : Nat} {x2 : Int32} {x3 : Int32}   (C : zC E X RX6 cX6_longest 7 (some .int) 5)   : ∀ (q : Nat) (M : MS) (x4 : Int32) (x5 : Int32) (r : ((MS) × Int32)), lo3 (f_X6_longest_h23 n x2 x3) q M x4 x5 = some r → zW E X 7 0 0 (MQ (xb X) (zQ E (some (.int r.2)) (pM E h0 m r.1)) (xa X) (xs X) 0 0 (zA E)) 23 (pM E h0 m M) [(0, .ref m), (1, .ref (m + 2)), (2, .int x2), (3, .int x3), (4, .int x4), (5, .int x5)] [] := by
  refine lo3_ind _ ?_
  intro K23 hK23 M x4 x5 r hf
  unfold f_X6_longest_h23 at hf
  refine z_iload C dX6_longest_23 5 rfl ?_
  refine z_if_lt C 133 dX6_longest_25 (by decide) (fun c25 => ?_) (fun c25 => ?_)
  · replace hf := ip c25 hf
    refine z_iload C dX6_longest_133 4 rfl ?_
    obtain rfl := Option.some.inj hf
    exact z_ireturn C dX6_longest_135
  · replace hf := iN c25 hf
    refine z_iload C dX6_longest_28 4 rfl ?_
    refine z_iload_n C dX6_longest_30 3 rfl ?_
    refine z_icmp_ge C 133 dX6_longest_31 (by decide) (fun c31 => ?_) (fun c31 => ?_)
    · replace hf := ip c31 hf
      refine z_iload C dX6_longest_133 4 rfl ?_
      obtain rfl := Option.some.inj hf
      exact z_ireturn C dX6_longest_135
    · replace hf := iN c31 hf
      refine z_aload_n C dX6_longest_34 0 rfl ?_
      refine z_aload_n C dX6_longest_35 1 rfl ?_
      refine z_iload_n C dX6_longest_36 2 rfl ?_
      refine z_aload_n C dX6_longest_37 0 rfl ?_
      refine gf_X6_32 C dX6_longest_38 ?_
      refine z_iload C dX6_longest_41 5 rfl ?_
      obtain ⟨c43, hf⟩ := chk_some hf
      refine z_iald C pM_a7 c43 dX6_longest_43 ?_
      refine z_iconst C (1 : Int32) dX6_longest_44 (by decide) ?_
      refine z_iadd C dX6_longest_45 ?_
      refine z_iload C dX6_longest_46 5 rfl ?_
      obtain ⟨q48, hq48, hf⟩ := bd_some hf
      refine iv_X6_229 C [.ref (m + 2), .int x2, .int ((M.2 7 x5.toNatClampNeg) + (1 : Int32)), .int x5] [] (ct_X6_nextTried hq48) pM_o rfl (by decide) rfl (Nat.le_of_ble_eq_true rfl) z_k0 dX6_longest_48 ?_
      refine z_istore (lv' := [(6, .int q48), (0, .ref m), (1, .ref (m + 2)), (2, .int x2), (3, .int x3), (4, .int x4), (5, .int x5)]) C dX6_longest_51 (by decide) rfl ?_
      refine z_aload_n C dX6_longest_53 1 rfl ?_
      refine gf_X6_32 C dX6_longest_54 ?_
      refine z_iload C dX6_longest_57 6 rfl ?_
      refine z_iload C dX6_longest_59 0 rfl ?_
      obtain ⟨c61, hf⟩ := chk_some hf
      refine z_iast C pM_a7 c61 dX6_longest_61 _ (pM_w7 _) ?_
      refine z_iload C dX6_longest_62 0 rfl ?_
      refine z_bipush C (28 : Int32) dX6_longest_64 (by decide) ?_
      refine z_icmp_ne C 75 dX6_longest_66 (by decide) (fun c66 => ?_) (fun c66 => ?_)
      · replace hf := iN c66 hf
        refine z_aload_n C dX6_longest_75 1 rfl ?_
        refine gf_X6_35 C dX6_longest_76 ?_
        refine z_iload C dX6_longest_79 6 rfl ?_
        refine z_iconst C (1 : Int32) dX6_longest_81 (by decide) ?_
        refine z_iadd C dX6_longest_82 ?_
        refine z_iload C dX6_longest_83 0 rfl ?_
        refine z_aload_n C dX6_longest_85 1 rfl ?_
        refine gf_X6_35 C dX6_longest_86 ?_
        refine z_iload C dX6_longest_89 6 rfl ?_
        obtain ⟨c91, hf⟩ := chk_some hf
        refine z_iald C pM_a8 c91 dX6_longest_91 ?_
        obtain ⟨q92, hq92, hf⟩ := bd_some hf
        refine iv_X6_115 C [.int q48, .int ((mA M 7 (upd (M.2 7) x5.toNatClampNeg q48)).2 8 x5.toNatClampNeg)] [.int (x5 + (1 : Int32)), .ref (m + 9)] (ct_X6_endBehind hq92) rfl (by decide) rfl (Nat.le_of_ble_eq_true rfl) z_k0 dX6_longest_92 ?_
        obtain ⟨c95, hf⟩ := chk_some hf
        refine z_iast C pM_a8 c95 dX6_longest_95 _ (pM_w8 _) ?_
        obtain ⟨Mn2, eMn2, hf⟩ := st_some hf
        refine z_heap (congrArg (fun z => (pM E h0 m z)) eMn2.symm) ?_
        refine z_iinc (lv' := [(5, .int (x5 + 1)), (6, .int q48), (0, .ref m), (1, .ref (m + 2)), (2, .int x2), (3, .int x3), (4, .int x4)]) C dX6_longest_96 6 (x5 + 1) rfl rfl (by decide) rfl ?_
        refine z_iload C dX6_longest_99 0 rfl ?_
        refine z_iload C dX6_longest_101 6 rfl ?_
        refine z_icmp_le C 111 dX6_longest_103 (by decide) (fun c103 => ?_) (fun c103 => ?_)
        · replace hf := ip c103 hf
          refine z_iload C dX6_longest_111 6 rfl ?_
          exact z_sub [2, 3, 4, 5, 0] rfl (w_X6_longest_b113 C hK23 hf)
        · replace hf := iN c103 hf
          refine z_iload C dX6_longest_106 0 rfl ?_
          refine z_goto C 113 dX6_longest_108 (by decide) ?_
          exact z_sub [2, 3, 4, 5, 0] rfl (w_X6_longest_b113 C hK23 hf)
      · replace hf := ip c66 hf
        refine z_iinc (lv' := [(5, .int (x5 + (-1))), (6, .int q48), (0, .ref m), (1, .ref (m + 2)), (2, .int x2), (3, .int x3), (4, .int x4)]) C dX6_longest_69 6 (x5 + (-1)) rfl rfl (by decide) rfl ?_
        refine z_goto C 130 dX6_longest_72 (by decide) ?_
        exact z_sub [2, 3, 4, 5, 6, 0] rfl (w_X6_longest_b130 C hK23 hf)
def f_X6_longest (n : Nat) (M : MS) (x2 : Int32) (x3 : Int32) : Option ((MS) × Int32) :=
  chk (inB (6 : Int32) 217) (chk (inB (0 : Int32) 7) (stt (mA M 8 (upd (M.2 8) (0 : Int32).toNatClampNeg (M.2 1 (6 : Int32).toNatClampNeg))) (fun Mn1 => chk (inB (0 : Int32) 7) (lo3 (f_X6_longest_h23 n x2 x3) n (mA Mn1 7 (upd (Mn1.2 7) (0 : Int32).toNatClampNeg (-1 : Int32))) (0 : Int32) (0 : Int32)))))
set_option maxRecDepth 100000 in
set_option maxHeartbeats 4000000 in
theorem ct_X6_longest {E : zE} {l : Launch} {h0 : Hp} {m : Nat} {n : Nat} {M : MS} {x2 : Int32} {x3 : Int32} {r : ((MS) × Int32)}  (hf : f_X6_longest n M x2 x3 = some r) : zM E l 5 yX6_longest cX6_longest 7 (some .int) [.ref m, .ref (m + 2), .int x2, .int x3] (pM E h0 m M) (some (.int r.2)) (pM E h0 m r.1) := by
  refine zM_of (lv := [(0, .ref m), (1, .ref (m + 2)), (2, .int x2), (3, .int x3)]) (by decide +kernel) (Nat.le_of_ble_eq_true rfl) rfl (fun X hX C => ?_)
  subst hX
  replace C : zC E X RX6 cX6_longest 7 (some .int) 5 := C
  unfold f_X6_longest at hf
  refine z_iconst C (0 : Int32) dX6_longest_0 (by decide) ?_
  refine z_istore (lv' := [(4, .int (0 : Int32)), (0, .ref m), (1, .ref (m + 2)), (2, .int x2), (3, .int x3)]) C dX6_longest_1 (by decide) rfl ?_
  refine z_iconst C (0 : Int32) dX6_longest_3 (by decide) ?_
  refine z_istore (lv' := [(5, .int (0 : Int32)), (4, .int (0 : Int32)), (0, .ref m), (1, .ref (m + 2)), (2, .int x2), (3, .int x3)]) C dX6_longest_4 (by decide) rfl ?_
  refine z_aload_n C dX6_longest_6 2 rfl ?_
  refine gf_X6_35 C dX6_longest_7 ?_
  refine z_iconst C (0 : Int32) dX6_longest_10 (by decide) ?_
  refine z_aload_n C dX6_longest_11 3 rfl ?_
  refine z_bipush C (6 : Int32) dX6_longest_12 (by decide) ?_
  obtain ⟨c14, hf⟩ := chk_some hf
  refine z_iald C pM_a1 c14 dX6_longest_14 ?_
  obtain ⟨c15, hf⟩ := chk_some hf
  refine z_iast C pM_a8 c15 dX6_longest_15 _ (pM_w8 _) ?_
  obtain ⟨Mn1, eMn1, hf⟩ := st_some hf
  refine z_heap (congrArg (fun z => (pM E h0 m z)) eMn1.symm) ?_
  refine z_aload_n C dX6_longest_16 2 rfl ?_
  refine gf_X6_32 C dX6_longest_17 ?_
  refine z_iconst C (0 : Int32) dX6_longest_20 (by decide) ?_
  refine z_iconst C (-1 : Int32) dX6_longest_21 (by decide) ?_
  obtain ⟨c22, hf⟩ := chk_some hf
  refine z_iast C pM_a7 c22 dX6_longest_22 _ (pM_w7 _) ?_
  exact z_sub [2, 3, 4, 5, 1, 0] rfl (w_X6_longest_h23 C n _ _ _ _ hf)
/-! X6_chain: depth 6 -/
def f_X6_chain_b34 (n : Nat) (x1 : Int32) (x2 : Int32)   (M : MS) (s0 : Int32) : Option ((MS) × Int32) :=
  (f_X6_refused M s0).bind (fun q34 => if q34.2 = 0 then (chk (inB (1 : Int32) 217) (if (q34.1.2 1 (1 : Int32).toNatClampNeg) = (1 : Int32) then ((f_X6_longest n q34.1 x1 x2).bind (fun q59 => some (q59.1, q59.2))) else (some (q34.1, (0 : Int32))))) else (some (q34.1, (0 : Int32))))
set_option maxRecDepth 100000 in
set_option maxHeartbeats 4000000 in
theorem w_X6_chain_b34 {E : zE} {X : zX} {h0 : Hp} {m : Nat} {n : Nat} {x1 : Int32} {x2 : Int32}   (C : zC E X RX6 cX6_chain 3 (some .int) 6)   {M : MS} {s0 : Int32} {r : ((MS) × Int32)} (hf : f_X6_chain_b34 n x1 x2 M s0 = some r) : zW E X 3 0 0 (MQ (xb X) (zQ E (some (.int r.2)) (pM E h0 m r.1)) (xa X) (xs X) 0 0 (zA E)) 34 (pM E h0 m M) [(0, .ref m), (1, .int x1), (2, .int x2)] [.int s0, .ref m] := by
  unfold f_X6_chain_b34 at hf
  obtain ⟨q34, hq34, hf⟩ := bd_some hf
  refine iv_X6_141 C [.int s0] [] (ct_X6_refused hq34) pM_o rfl (by decide) rfl (Nat.le_of_ble_eq_true rfl) z_k0 dX6_chain_34 ?_
  refine z_if_eq C 42 dX6_chain_37 (by decide) (fun c37 => ?_) (fun c37 => ?_)
  · replace hf := ip c37 hf
    refine z_aload_n C dX6_chain_42 0 rfl ?_
    refine gf_X6_13 C dX6_chain_43 ?_
    refine z_iconst C (1 : Int32) dX6_chain_46 (by decide) ?_
    obtain ⟨c47, hf⟩ := chk_some hf
    refine z_iald C pM_a1 c47 dX6_chain_47 ?_
    refine z_iconst C (1 : Int32) dX6_chain_48 (by decide) ?_
    refine z_icmp_ne C 65 dX6_chain_49 (by decide) (fun c49 => ?_) (fun c49 => ?_)
    · replace hf := iN c49 hf
      refine z_iconst C (0 : Int32) dX6_chain_65 (by decide) ?_
      obtain rfl := Option.some.inj hf
      exact z_ireturn C dX6_chain_66
    · replace hf := ip c49 hf
      refine z_aload_n C dX6_chain_52 0 rfl ?_
      refine z_aload_n C dX6_chain_53 0 rfl ?_
      refine gf_X6_13 C dX6_chain_54 ?_
      refine z_iload_n C dX6_chain_57 1 rfl ?_
      refine z_iload_n C dX6_chain_58 2 rfl ?_
      obtain ⟨q59, hq59, hf⟩ := bd_some hf
      refine iv_X6_235 C [.ref (m + 2), .int x1, .int x2] [] (ct_X6_longest hq59) pM_o rfl (by decide) rfl (Nat.le_of_ble_eq_true rfl) z_k0 dX6_chain_59 ?_
      refine z_goto C 66 dX6_chain_62 (by decide) ?_
      obtain rfl := Option.some.inj hf
      exact z_ireturn C dX6_chain_66
  · replace hf := iN c37 hf
    refine z_iconst C (0 : Int32) dX6_chain_40 (by decide) ?_
    obtain rfl := Option.some.inj hf
    exact z_ireturn C dX6_chain_41
def f_X6_chain (n : Nat) (M : MS) (x1 : Int32) (x2 : Int32) : Option ((MS) × Int32) :=
  (f_X6_in x1.toInt64 (0 : Int64) (3 : Int64)).bind (fun q7 => if q7 = 0 then (f_X6_chain_b34 n x1 x2 M (1 : Int32)) else ((f_X6_in x2.toInt64 (1 : Int64) (6 : Int64)).bind (fun q23 => if q23 = 0 then (f_X6_chain_b34 n x1 x2 M (2 : Int32)) else (f_X6_chain_b34 n x1 x2 M (0 : Int32)))))
set_option maxRecDepth 100000 in
set_option maxHeartbeats 4000000 in
theorem ct_X6_chain {E : zE} {l : Launch} {h0 : Hp} {m : Nat} {n : Nat} {M : MS} {x1 : Int32} {x2 : Int32} {r : ((MS) × Int32)}  (hf : f_X6_chain n M x1 x2 = some r) : zM E l 6 yX6_chain cX6_chain 3 (some .int) [.ref m, .int x1, .int x2] (pM E h0 m M) (some (.int r.2)) (pM E h0 m r.1) := by
  refine zM_of (lv := [(0, .ref m), (1, .int x1), (2, .int x2)]) (by decide +kernel) (Nat.le_of_ble_eq_true rfl) rfl (fun X hX C => ?_)
  subst hX
  replace C : zC E X RX6 cX6_chain 3 (some .int) 6 := C
  unfold f_X6_chain at hf
  refine z_aload_n C dX6_chain_0 0 rfl ?_
  refine z_iload_n C dX6_chain_1 1 rfl ?_
  refine z_i2l C dX6_chain_2 ?_
  refine z_lconst C (0 : Int64) dX6_chain_3 (by decide) ?_
  refine z_ldc2 C (3 : Int64) dX6_chain_4 cn_X6_219 ?_
  obtain ⟨q7, hq7, hf⟩ := bd_some hf
  refine iv_X6_55 C [.long x1.toInt64, .long (0 : Int64), .long (3 : Int64)] [.ref m] (ct_X6_in hq7) rfl (by decide) rfl (Nat.le_of_ble_eq_true rfl) z_k0 dX6_chain_7 ?_
  refine z_if_ne C 17 dX6_chain_10 (by decide) (fun c10 => ?_) (fun c10 => ?_)
  · replace hf := iN c10 hf
    refine z_iload_n C dX6_chain_17 2 rfl ?_
    refine z_i2l C dX6_chain_18 ?_
    refine z_lconst C (1 : Int64) dX6_chain_19 (by decide) ?_
    refine z_ldc2 C (6 : Int64) dX6_chain_20 cn_X6_233 ?_
    obtain ⟨q23, hq23, hf⟩ := bd_some hf
    refine iv_X6_55 C [.long x2.toInt64, .long (1 : Int64), .long (6 : Int64)] [.ref m] (ct_X6_in hq23) rfl (by decide) rfl (Nat.le_of_ble_eq_true rfl) z_k0 dX6_chain_23 ?_
    refine z_if_eq C 33 dX6_chain_26 (by decide) (fun c26 => ?_) (fun c26 => ?_)
    · replace hf := ip c26 hf
      refine z_iconst C (2 : Int32) dX6_chain_33 (by decide) ?_
      exact z_sub [0, 1, 2] rfl (w_X6_chain_b34 C hf)
    · replace hf := iN c26 hf
      refine z_iconst C (0 : Int32) dX6_chain_29 (by decide) ?_
      refine z_goto C 34 dX6_chain_30 (by decide) ?_
      exact z_sub [0, 1, 2] rfl (w_X6_chain_b34 C hf)
  · replace hf := ip c10 hf
    refine z_iconst C (1 : Int32) dX6_chain_13 (by decide) ?_
    refine z_goto C 34 dX6_chain_14 (by decide) ?_
    exact z_sub [0, 1, 2] rfl (w_X6_chain_b34 C hf)
/-! X6_reach: depth 4 -/
def f_X6_reach_b18 (n : Nat) (x1 : Int32)   (M : MS) (s0 : Int32) : Option ((MS) × Int32) :=
  (f_X6_refused M s0).bind (fun q18 => if q18.2 = 0 then (if x1 ≤ (3 : Int32) then (chk (inB (5 : Int32) 217) (if (q18.1.2 1 (5 : Int32).toNatClampNeg) = 0 then (some (q18.1, (-1 : Int32))) else ((f_X6_reached n (q18.1.2 1) x1).bind (fun q63 => some (q18.1, q63))))) else (chk (inB (((11 : Int32) + x1) - (4 : Int32)) 217) (some (q18.1, (q18.1.2 1 (((11 : Int32) + x1) - (4 : Int32)).toNatClampNeg))))) else (some (q18.1, (0 : Int32))))
set_option maxRecDepth 100000 in
set_option maxHeartbeats 4000000 in
theorem w_X6_reach_b18 {E : zE} {X : zX} {h0 : Hp} {m : Nat} {n : Nat} {x1 : Int32}   (C : zC E X RX6 cX6_reach 2 (some .int) 4)   {M : MS} {s0 : Int32} {r : ((MS) × Int32)} (hf : f_X6_reach_b18 n x1 M s0 = some r) : zW E X 2 0 0 (MQ (xb X) (zQ E (some (.int r.2)) (pM E h0 m r.1)) (xa X) (xs X) 0 0 (zA E)) 18 (pM E h0 m M) [(0, .ref m), (1, .int x1)] [.int s0, .ref m] := by
  unfold f_X6_reach_b18 at hf
  obtain ⟨q18, hq18, hf⟩ := bd_some hf
  refine iv_X6_141 C [.int s0] [] (ct_X6_refused hq18) pM_o rfl (by decide) rfl (Nat.le_of_ble_eq_true rfl) z_k0 dX6_reach_18 ?_
  refine z_if_eq C 26 dX6_reach_21 (by decide) (fun c21 => ?_) (fun c21 => ?_)
  · replace hf := ip c21 hf
    refine z_iload_n C dX6_reach_26 1 rfl ?_
    refine z_iconst C (3 : Int32) dX6_reach_27 (by decide) ?_
    refine z_icmp_le C 45 dX6_reach_28 (by decide) (fun c28 => ?_) (fun c28 => ?_)
    · replace hf := ip c28 hf
      refine z_aload_n C dX6_reach_45 0 rfl ?_
      refine gf_X6_13 C dX6_reach_46 ?_
      refine z_iconst C (5 : Int32) dX6_reach_49 (by decide) ?_
      obtain ⟨c50, hf⟩ := chk_some hf
      refine z_iald C pM_a1 c50 dX6_reach_50 ?_
      refine z_if_ne C 58 dX6_reach_51 (by decide) (fun c51 => ?_) (fun c51 => ?_)
      · replace hf := iN c51 hf
        refine z_aload_n C dX6_reach_58 0 rfl ?_
        refine gf_X6_13 C dX6_reach_59 ?_
        refine z_iload_n C dX6_reach_62 1 rfl ?_
        obtain ⟨q63, hq63, hf⟩ := bd_some hf
        refine z_heap pM_i1 ?_
        refine iv_X6_238 C [.ref (m + 2), .int x1] [] (ct_X6_reached hq63) rfl (by decide) rfl (Nat.le_of_ble_eq_true rfl) z_k0 dX6_reach_63 ?_
        refine z_heap pM_i1.symm ?_
        obtain rfl := Option.some.inj hf
        exact z_ireturn C dX6_reach_66
      · replace hf := ip c51 hf
        refine z_iconst C (-1 : Int32) dX6_reach_54 (by decide) ?_
        refine z_goto C 66 dX6_reach_55 (by decide) ?_
        obtain rfl := Option.some.inj hf
        exact z_ireturn C dX6_reach_66
    · replace hf := iN c28 hf
      refine z_aload_n C dX6_reach_31 0 rfl ?_
      refine gf_X6_13 C dX6_reach_32 ?_
      refine z_bipush C (11 : Int32) dX6_reach_35 (by decide) ?_
      refine z_iload_n C dX6_reach_37 1 rfl ?_
      refine z_iadd C dX6_reach_38 ?_
      refine z_iconst C (4 : Int32) dX6_reach_39 (by decide) ?_
      refine z_isub C dX6_reach_40 ?_
      obtain ⟨c41, hf⟩ := chk_some hf
      refine z_iald C pM_a1 c41 dX6_reach_41 ?_
      refine z_goto C 66 dX6_reach_42 (by decide) ?_
      obtain rfl := Option.some.inj hf
      exact z_ireturn C dX6_reach_66
  · replace hf := iN c21 hf
    refine z_iconst C (0 : Int32) dX6_reach_24 (by decide) ?_
    obtain rfl := Option.some.inj hf
    exact z_ireturn C dX6_reach_25
def f_X6_reach (n : Nat) (M : MS) (x1 : Int32) : Option ((MS) × Int32) :=
  (f_X6_in x1.toInt64 (0 : Int64) (5 : Int64)).bind (fun q7 => if q7 = 0 then (f_X6_reach_b18 n x1 M (1 : Int32)) else (f_X6_reach_b18 n x1 M (0 : Int32)))
set_option maxRecDepth 100000 in
set_option maxHeartbeats 4000000 in
theorem ct_X6_reach {E : zE} {l : Launch} {h0 : Hp} {m : Nat} {n : Nat} {M : MS} {x1 : Int32} {r : ((MS) × Int32)}  (hf : f_X6_reach n M x1 = some r) : zM E l 4 yX6_reach cX6_reach 2 (some .int) [.ref m, .int x1] (pM E h0 m M) (some (.int r.2)) (pM E h0 m r.1) := by
  refine zM_of (lv := [(0, .ref m), (1, .int x1)]) (by decide +kernel) (Nat.le_of_ble_eq_true rfl) rfl (fun X hX C => ?_)
  subst hX
  replace C : zC E X RX6 cX6_reach 2 (some .int) 4 := C
  unfold f_X6_reach at hf
  refine z_aload_n C dX6_reach_0 0 rfl ?_
  refine z_iload_n C dX6_reach_1 1 rfl ?_
  refine z_i2l C dX6_reach_2 ?_
  refine z_lconst C (0 : Int64) dX6_reach_3 (by decide) ?_
  refine z_ldc2 C (5 : Int64) dX6_reach_4 cn_X6_217 ?_
  obtain ⟨q7, hq7, hf⟩ := bd_some hf
  refine iv_X6_55 C [.long x1.toInt64, .long (0 : Int64), .long (5 : Int64)] [.ref m] (ct_X6_in hq7) rfl (by decide) rfl (Nat.le_of_ble_eq_true rfl) z_k0 dX6_reach_7 ?_
  refine z_if_eq C 17 dX6_reach_10 (by decide) (fun c10 => ?_) (fun c10 => ?_)
  · replace hf := ip c10 hf
    refine z_iconst C (1 : Int32) dX6_reach_17 (by decide) ?_
    exact z_sub [0, 1] rfl (w_X6_reach_b18 C hf)
  · replace hf := iN c10 hf
    refine z_iconst C (0 : Int32) dX6_reach_13 (by decide) ?_
    refine z_goto C 18 dX6_reach_14 (by decide) ?_
    exact z_sub [0, 1] rfl (w_X6_reach_b18 C hf)
/-! X6_playsBest: depth 10 -/
def f_X6_playsBest_h4 (n : Nat) (x1 : Int32)  (K4 : MS → Int32 → Int32 → Option ((MS) × Int32)) (M : MS) (x2 : Int32) (x3 : Int32) : Option ((MS) × Int32) :=
  if x1 ≤ x3 then (chk (x2 = 0 ∨ x2 = 1) (some (M, x2))) else (if x2 = 0 then (chk (x2 = 0 ∨ x2 = 1) (some (M, x2))) else ((f_X6_playBest n (M.2 2)).bind (fun q17 => K4 (mA M 2 q17.1) q17.2 (x3 + 1))))
set_option maxRecDepth 100000 in
set_option maxHeartbeats 4000000 in
theorem w_X6_playsBest_h4 {E : zE} {X : zX} {h0 : Hp} {m : Nat} {n : Nat} {x1 : Int32}   (C : zC E X RX6 cX6_playsBest 4 (some .boolean) 10)   : ∀ (q : Nat) (M : MS) (x2 : Int32) (x3 : Int32) (r : ((MS) × Int32)), lo3 (f_X6_playsBest_h4 n x1) q M x2 x3 = some r → zW E X 4 0 0 (MQ (xb X) (zQ E (some (.int r.2)) (pM E h0 m r.1)) (xa X) (xs X) 0 0 (zA E)) 4 (pM E h0 m M) [(0, .ref m), (1, .int x1), (2, .int x2), (3, .int x3)] [] := by
  refine lo3_ind _ ?_
  intro K4 hK4 M x2 x3 r hf
  unfold f_X6_playsBest_h4 at hf
  refine z_iload_n C dX6_playsBest_4 3 rfl ?_
  refine z_iload_n C dX6_playsBest_5 1 rfl ?_
  refine z_icmp_ge C 27 dX6_playsBest_6 (by decide) (fun c6 => ?_) (fun c6 => ?_)
  · replace hf := ip c6 hf
    refine z_iload_n C dX6_playsBest_27 2 rfl ?_
    obtain ⟨c28, hf⟩ := chk_some hf
    obtain rfl := Option.some.inj hf
    exact z_zreturn C c28 dX6_playsBest_28
  · replace hf := iN c6 hf
    refine z_iload_n C dX6_playsBest_9 2 rfl ?_
    refine z_if_eq C 27 dX6_playsBest_10 (by decide) (fun c10 => ?_) (fun c10 => ?_)
    · replace hf := ip c10 hf
      refine z_iload_n C dX6_playsBest_27 2 rfl ?_
      obtain ⟨c28, hf⟩ := chk_some hf
      obtain rfl := Option.some.inj hf
      exact z_zreturn C c28 dX6_playsBest_28
    · replace hf := iN c10 hf
      refine z_aload_n C dX6_playsBest_13 0 rfl ?_
      refine gf_X6_16 C dX6_playsBest_14 ?_
      obtain ⟨q17, hq17, hf⟩ := bd_some hf
      refine z_heap pM_i2 ?_
      refine iv_X6_185 C [.ref (m + 3)] [] (ct_X6_playBest hq17) rfl (by decide) rfl (Nat.le_of_ble_eq_true rfl) z_k0 dX6_playsBest_17 ?_
      refine z_heap (pM_j2 _) ?_
      refine z_istore_n (lv' := [(2, .int q17.2), (0, .ref m), (1, .int x1), (3, .int x3)]) C dX6_playsBest_20 (by decide) rfl ?_
      refine z_iinc (lv' := [(3, .int (x3 + 1)), (2, .int q17.2), (0, .ref m), (1, .int x1)]) C dX6_playsBest_21 3 (x3 + 1) rfl rfl (by decide) rfl ?_
      refine z_goto C 4 dX6_playsBest_24 (by decide) ?_
      exact z_sub [2, 3, 1, 0] rfl (hK4 _ _ _ _ hf)
def f_X6_playsBest (n : Nat) (M : MS) (x1 : Int32) : Option ((MS) × Int32) :=
  lo3 (f_X6_playsBest_h4 n x1) n M (1 : Int32) (0 : Int32)
set_option maxRecDepth 100000 in
set_option maxHeartbeats 4000000 in
theorem ct_X6_playsBest {E : zE} {l : Launch} {h0 : Hp} {m : Nat} {n : Nat} {M : MS} {x1 : Int32} {r : ((MS) × Int32)}  (hf : f_X6_playsBest n M x1 = some r) : zM E l 10 yX6_playsBest cX6_playsBest 4 (some .boolean) [.ref m, .int x1] (pM E h0 m M) (some (.int r.2)) (pM E h0 m r.1) := by
  refine zM_of (lv := [(0, .ref m), (1, .int x1)]) (by decide +kernel) (Nat.le_of_ble_eq_true rfl) rfl (fun X hX C => ?_)
  subst hX
  replace C : zC E X RX6 cX6_playsBest 4 (some .boolean) 10 := C
  unfold f_X6_playsBest at hf
  refine z_iconst C (1 : Int32) dX6_playsBest_0 (by decide) ?_
  refine z_istore_n (lv' := [(2, .int (1 : Int32)), (0, .ref m), (1, .int x1)]) C dX6_playsBest_1 (by decide) rfl ?_
  refine z_iconst C (0 : Int32) dX6_playsBest_2 (by decide) ?_
  refine z_istore_n (lv' := [(3, .int (0 : Int32)), (2, .int (1 : Int32)), (0, .ref m), (1, .int x1)]) C dX6_playsBest_3 (by decide) rfl ?_
  exact z_sub [2, 3, 1, 0] rfl (w_X6_playsBest_h4 C n _ _ _ _ hf)
/-! X6_command: depth 11 -/
def f_X6_command_b141 (n : Nat) (x1 : Int32) (x2 : Int32)   (M : MS) (s0 : Int32) (s1 : Int32) : Option ((MS) × Int32) :=
  (f_X6_playOn n (M.2 2) s1 s0).bind (fun q141 => if q141.2 = 0 then (some (mA M 2 q141.1, (1 : Int32))) else (some (mA M 2 q141.1, (0 : Int32))))
set_option maxRecDepth 100000 in
set_option maxHeartbeats 4000000 in
theorem w_X6_command_b141 {E : zE} {X : zX} {h0 : Hp} {m : Nat} {n : Nat} {x1 : Int32} {x2 : Int32}   (C : zC E X RX6 cX6_command 6 (some .boolean) 11)   {M : MS} {s0 : Int32} {s1 : Int32} {r : ((MS) × Int32)} (hf : f_X6_command_b141 n x1 x2 M s0 s1 = some r) : zW E X 6 0 0 (MQ (xb X) (zQ E (some (.int r.2)) (pM E h0 m r.1)) (xa X) (xs X) 0 0 (zA E)) 141 (pM E h0 m M) [] [.int s0, .int s1, .ref (m + 3)] := by
  unfold f_X6_command_b141 at hf
  obtain ⟨q141, hq141, hf⟩ := bd_some hf
  refine z_heap pM_i2 ?_
  refine iv_X6_157 C [.ref (m + 3), .int s1, .int s0] [] (ct_X6_playOn hq141) rfl (by decide) rfl (Nat.le_of_ble_eq_true rfl) z_k0 dX6_command_141 ?_
  refine z_heap (pM_j2 _) ?_
  refine z_if_ne C 151 dX6_command_144 (by decide) (fun c144 => ?_) (fun c144 => ?_)
  · replace hf := iN c144 hf
    refine z_iconst C (0 : Int32) dX6_command_151 (by decide) ?_
    obtain rfl := Option.some.inj hf
    exact z_zreturn (v := (0 : Int32)) C (by decide) dX6_command_152
  · replace hf := ip c144 hf
    refine z_iconst C (1 : Int32) dX6_command_147 (by decide) ?_
    refine z_goto C 152 dX6_command_148 (by decide) ?_
    obtain rfl := Option.some.inj hf
    exact z_zreturn (v := (1 : Int32)) C (by decide) dX6_command_152
def f_X6_command (n : Nat) (M : MS) (x1 : Int32) (x2 : Int32) : Option ((MS) × Int32) :=
  chk (¬ (100 : Int32) = 0) (chk (¬ (100 : Int32) = 0) (chk (¬ (10 : Int32) = 0) (if x1 = (1 : Int32) then ((f_X6_in ((x2 / (100 : Int32)).toInt64) (2 : Int64) (4 : Int64)).bind (fun q76 => if q76 = 0 then (some (M, (0 : Int32))) else ((f_X6_dealOn n 2 M (x2 / (100 : Int32)) ((jrem x2 (100 : Int32)).toInt64)).bind (fun q91 => if q91.2 ≤ 0 then (some (q91.1, (0 : Int32))) else (some (q91.1, (1 : Int32))))))) else (if x1 = (2 : Int32) then (if (2 : Int32) ≤ (x2 / (100 : Int32)) then (some (M, (0 : Int32))) else (if (28 : Int32) ≤ (jrem x2 (100 : Int32)) then (some (M, (0 : Int32))) else (chk (inB (1 : Int32) 217) (if (M.2 2 (1 : Int32).toNatClampNeg) = (1 : Int32) then (if (x2 / (100 : Int32)) = (1 : Int32) then (f_X6_command_b141 n x1 x2 M (1 : Int32) (jrem x2 (100 : Int32))) else (f_X6_command_b141 n x1 x2 M (0 : Int32) (jrem x2 (100 : Int32)))) else (some (M, (0 : Int32))))))) else (if x1 = (3 : Int32) then (if x2 = 0 then ((f_X6_canDraw (M.2 2)).bind (fun q161 => if q161 = 0 then (some (M, (0 : Int32))) else ((f_X6_drawOn n (M.2 2)).bind (fun q171 => if q171.2 < 0 then (some (mA M 2 q171.1, (0 : Int32))) else (some (mA M 2 q171.1, (1 : Int32))))))) else (some (M, (0 : Int32)))) else (if x1 = (4 : Int32) then (if x2 = 0 then ((f_X6_canPass (M.2 2)).bind (fun q191 => if q191 = 0 then (some (M, (0 : Int32))) else ((f_X6_passOn n (M.2 2)).bind (fun q201 => if q201.2 ≤ 0 then (some (mA M 2 q201.1, (0 : Int32))) else (some (mA M 2 q201.1, (1 : Int32))))))) else (some (M, (0 : Int32)))) else (if x1 = (5 : Int32) then (if (10 : Int32) ≤ x2 then (some (M, (0 : Int32))) else ((f_X6_playsBest n M (jrem x2 (10 : Int32))).bind (fun q222 => if q222.2 = 0 then (some (q222.1, (0 : Int32))) else (some (q222.1, (1 : Int32)))))) else (if x1 = (6 : Int32) then (if (4 : Int32) ≤ x2 then (some (M, (0 : Int32))) else (chk (inB (1 : Int32) 217) (if (M.2 2 (1 : Int32).toNatClampNeg) = (1 : Int32) then (chk (inB (3 : Int32) 217) (if (M.2 2 (3 : Int32).toNatClampNeg) = (jrem x2 (10 : Int32)) then (some (M, (1 : Int32))) else (some (M, (0 : Int32))))) else (some (M, (0 : Int32)))))) else (if x1 = (7 : Int32) then (if (4 : Int32) ≤ (x2 / (100 : Int32)) then (some (M, (0 : Int32))) else ((f_X6_handMany n (M.2 2) (x2 / (100 : Int32))).bind (fun q276 => if (jrem x2 (100 : Int32)) < q276 then (some (M, (0 : Int32))) else (some (M, (1 : Int32)))))) else (if x1 = (8 : Int32) then (if (10 : Int32) ≤ x2 then (some (M, (0 : Int32))) else (chk (inB (6 : Int32) 217) (if (M.2 2 (6 : Int32).toNatClampNeg) = (jrem x2 (10 : Int32)) then (some (M, (1 : Int32))) else (some (M, (0 : Int32)))))) else (if x1 = (9 : Int32) then (if (x2 / (100 : Int32)) = 0 then (chk (inB (5 : Int32) 217) (if (M.2 2 (5 : Int32).toNatClampNeg) < (jrem x2 (100 : Int32)) then (some (M, (0 : Int32))) else (some (M, (1 : Int32))))) else (some (M, (0 : Int32)))) else (some (M, (0 : Int32))))))))))))))
set_option maxRecDepth 100000 in
set_option maxHeartbeats 4000000 in
theorem ct_X6_command {E : zE} {l : Launch} {h0 : Hp} {m : Nat} {n : Nat} {M : MS} {x1 : Int32} {x2 : Int32} {r : ((MS) × Int32)}  (hf : f_X6_command n M x1 x2 = some r) : zM E l 11 yX6_command cX6_command 6 (some .boolean) [.ref m, .int x1, .int x2] (pM E h0 m M) (some (.int r.2)) (pM E h0 m r.1) := by
  refine zM_of (lv := [(0, .ref m), (1, .int x1), (2, .int x2)]) (by decide +kernel) (Nat.le_of_ble_eq_true rfl) rfl (fun X hX C => ?_)
  subst hX
  replace C : zC E X RX6 cX6_command 6 (some .boolean) 11 := C
  unfold f_X6_command at hf
  refine z_iload_n C dX6_command_0 2 rfl ?_
  refine z_bipush C (100 : Int32) dX6_command_1 (by decide) ?_
  obtain ⟨c3, hf⟩ := chk_some hf
  refine z_idiv C dX6_command_3 c3 ?_
  refine z_istore_n (lv' := [(3, .int (x2 / (100 : Int32))), (0, .ref m), (1, .int x1), (2, .int x2)]) C dX6_command_4 (by decide) rfl ?_
  refine z_iload_n C dX6_command_5 3 rfl ?_
  refine z_bipush C (100 : Int32) dX6_command_6 (by decide) ?_
  obtain ⟨c8, hf⟩ := chk_some hf
  refine z_irem C dX6_command_8 c8 ?_
  refine z_istore (lv' := [(4, .int (jrem x2 (100 : Int32))), (3, .int (x2 / (100 : Int32))), (0, .ref m), (1, .int x1), (2, .int x2)]) C dX6_command_9 (by decide) rfl ?_
  refine z_iload_n C dX6_command_11 4 rfl ?_
  refine z_bipush C (10 : Int32) dX6_command_12 (by decide) ?_
  obtain ⟨c14, hf⟩ := chk_some hf
  refine z_irem C dX6_command_14 c14 ?_
  refine z_istore (lv' := [(5, .int (jrem x2 (10 : Int32))), (4, .int (jrem x2 (100 : Int32))), (3, .int (x2 / (100 : Int32))), (0, .ref m), (1, .int x1), (2, .int x2)]) C dX6_command_15 (by decide) rfl ?_
  refine z_iload_n C dX6_command_17 4 rfl ?_
  by_cases e18_0 : x1 = (1 : Int32)
  · replace hf := ip e18_0 hf
    refine z_stk (congrArg (fun z => Value.int z :: []) e18_0) ?_
    refine z_tableIn C 50 68 dX6_command_18 (by decide) (by decide) (by decide) (by decide) ?_
    refine z_iload_n C dX6_command_68 2 rfl ?_
    refine z_i2l C dX6_command_69 ?_
    refine z_ldc2 C (2 : Int64) dX6_command_70 cn_X6_221 ?_
    refine z_ldc2 C (4 : Int64) dX6_command_73 cn_X6_209 ?_
    obtain ⟨q76, hq76, hf⟩ := bd_some hf
    refine iv_X6_55 C [.long ((x2 / (100 : Int32)).toInt64), .long (2 : Int64), .long (4 : Int64)] [] (ct_X6_in hq76) rfl (by decide) rfl (Nat.le_of_ble_eq_true rfl) z_k0 dX6_command_76 ?_
    refine z_if_eq C 101 dX6_command_79 (by decide) (fun c79 => ?_) (fun c79 => ?_)
    · replace hf := ip c79 hf
      refine z_iconst C (0 : Int32) dX6_command_101 (by decide) ?_
      obtain rfl := Option.some.inj hf
      exact z_zreturn (v := (0 : Int32)) C (by decide) dX6_command_102
    · replace hf := iN c79 hf
      refine z_aload_n C dX6_command_82 3 rfl ?_
      refine z_aload_n C dX6_command_83 3 rfl ?_
      refine gf_X6_16 C dX6_command_84 ?_
      refine z_iload_n C dX6_command_87 2 rfl ?_
      refine z_iload C dX6_command_88 1 rfl ?_
      refine z_i2l C dX6_command_90 ?_
      obtain ⟨q91, hq91, hf⟩ := bd_some hf
      refine iv_X6_165 C [.ref (m + 3), .int (x2 / (100 : Int32)), .long ((jrem x2 (100 : Int32)).toInt64)] [] (ct_X6_dealOn (Or.inr rfl) hq91) pM_o rfl (by decide) rfl (Nat.le_of_ble_eq_true rfl) z_k0 dX6_command_91 ?_
      refine z_if_le C 101 dX6_command_94 (by decide) (fun c94 => ?_) (fun c94 => ?_)
      · replace hf := ip c94 hf
        refine z_iconst C (0 : Int32) dX6_command_101 (by decide) ?_
        obtain rfl := Option.some.inj hf
        exact z_zreturn (v := (0 : Int32)) C (by decide) dX6_command_102
      · replace hf := iN c94 hf
        refine z_iconst C (1 : Int32) dX6_command_97 (by decide) ?_
        refine z_goto C 102 dX6_command_98 (by decide) ?_
        obtain rfl := Option.some.inj hf
        exact z_zreturn (v := (1 : Int32)) C (by decide) dX6_command_102
  replace hf := iN e18_0 hf
  by_cases e18_1 : x1 = (2 : Int32)
  · replace hf := ip e18_1 hf
    refine z_stk (congrArg (fun z => Value.int z :: []) e18_1) ?_
    refine z_tableIn C 85 103 dX6_command_18 (by decide) (by decide) (by decide) (by decide) ?_
    refine z_iload_n C dX6_command_103 2 rfl ?_
    refine z_iconst C (2 : Int32) dX6_command_104 (by decide) ?_
    refine z_icmp_ge C 151 dX6_command_105 (by decide) (fun c105 => ?_) (fun c105 => ?_)
    · replace hf := ip c105 hf
      refine z_iconst C (0 : Int32) dX6_command_151 (by decide) ?_
      obtain rfl := Option.some.inj hf
      exact z_zreturn (v := (0 : Int32)) C (by decide) dX6_command_152
    · replace hf := iN c105 hf
      refine z_iload C dX6_command_108 1 rfl ?_
      refine z_bipush C (28 : Int32) dX6_command_110 (by decide) ?_
      refine z_icmp_ge C 151 dX6_command_112 (by decide) (fun c112 => ?_) (fun c112 => ?_)
      · replace hf := ip c112 hf
        refine z_iconst C (0 : Int32) dX6_command_151 (by decide) ?_
        obtain rfl := Option.some.inj hf
        exact z_zreturn (v := (0 : Int32)) C (by decide) dX6_command_152
      · replace hf := iN c112 hf
        refine z_aload_n C dX6_command_115 3 rfl ?_
        refine gf_X6_16 C dX6_command_116 ?_
        refine z_iconst C (1 : Int32) dX6_command_119 (by decide) ?_
        obtain ⟨c120, hf⟩ := chk_some hf
        refine z_iald C pM_a2 c120 dX6_command_120 ?_
        refine z_iconst C (1 : Int32) dX6_command_121 (by decide) ?_
        refine z_icmp_ne C 151 dX6_command_122 (by decide) (fun c122 => ?_) (fun c122 => ?_)
        · replace hf := iN c122 hf
          refine z_iconst C (0 : Int32) dX6_command_151 (by decide) ?_
          obtain rfl := Option.some.inj hf
          exact z_zreturn (v := (0 : Int32)) C (by decide) dX6_command_152
        · replace hf := ip c122 hf
          refine z_aload_n C dX6_command_125 3 rfl ?_
          refine gf_X6_16 C dX6_command_126 ?_
          refine z_iload C dX6_command_129 1 rfl ?_
          refine z_iload_n C dX6_command_131 2 rfl ?_
          refine z_iconst C (1 : Int32) dX6_command_132 (by decide) ?_
          refine z_icmp_ne C 140 dX6_command_133 (by decide) (fun c133 => ?_) (fun c133 => ?_)
          · replace hf := iN c133 hf
            refine z_iconst C (0 : Int32) dX6_command_140 (by decide) ?_
            exact z_sub [] rfl (w_X6_command_b141 C hf)
          · replace hf := ip c133 hf
            refine z_iconst C (1 : Int32) dX6_command_136 (by decide) ?_
            refine z_goto C 141 dX6_command_137 (by decide) ?_
            exact z_sub [] rfl (w_X6_command_b141 C hf)
  replace hf := iN e18_1 hf
  by_cases e18_2 : x1 = (3 : Int32)
  · replace hf := ip e18_2 hf
    refine z_stk (congrArg (fun z => Value.int z :: []) e18_2) ?_
    refine z_tableIn C 135 153 dX6_command_18 (by decide) (by decide) (by decide) (by decide) ?_
    refine z_iload_n C dX6_command_153 5 rfl ?_
    refine z_if_ne C 181 dX6_command_154 (by decide) (fun c154 => ?_) (fun c154 => ?_)
    · replace hf := iN c154 hf
      refine z_iconst C (0 : Int32) dX6_command_181 (by decide) ?_
      obtain rfl := Option.some.inj hf
      exact z_zreturn (v := (0 : Int32)) C (by decide) dX6_command_182
    · replace hf := ip c154 hf
      refine z_aload_n C dX6_command_157 3 rfl ?_
      refine gf_X6_16 C dX6_command_158 ?_
      obtain ⟨q161, hq161, hf⟩ := bd_some hf
      refine z_heap pM_i2 ?_
      refine iv_X6_173 C [.ref (m + 3)] [] (ct_X6_canDraw hq161) rfl (by decide) rfl (Nat.le_of_ble_eq_true rfl) z_k0 dX6_command_161 ?_
      refine z_heap pM_i2.symm ?_
      refine z_if_eq C 181 dX6_command_164 (by decide) (fun c164 => ?_) (fun c164 => ?_)
      · replace hf := ip c164 hf
        refine z_iconst C (0 : Int32) dX6_command_181 (by decide) ?_
        obtain rfl := Option.some.inj hf
        exact z_zreturn (v := (0 : Int32)) C (by decide) dX6_command_182
      · replace hf := iN c164 hf
        refine z_aload_n C dX6_command_167 3 rfl ?_
        refine gf_X6_16 C dX6_command_168 ?_
        obtain ⟨q171, hq171, hf⟩ := bd_some hf
        refine z_heap pM_i2 ?_
        refine iv_X6_176 C [.ref (m + 3)] [] (ct_X6_drawOn hq171) rfl (by decide) rfl (Nat.le_of_ble_eq_true rfl) z_k0 dX6_command_171 ?_
        refine z_heap (pM_j2 _) ?_
        refine z_if_lt C 181 dX6_command_174 (by decide) (fun c174 => ?_) (fun c174 => ?_)
        · replace hf := ip c174 hf
          refine z_iconst C (0 : Int32) dX6_command_181 (by decide) ?_
          obtain rfl := Option.some.inj hf
          exact z_zreturn (v := (0 : Int32)) C (by decide) dX6_command_182
        · replace hf := iN c174 hf
          refine z_iconst C (1 : Int32) dX6_command_177 (by decide) ?_
          refine z_goto C 182 dX6_command_178 (by decide) ?_
          obtain rfl := Option.some.inj hf
          exact z_zreturn (v := (1 : Int32)) C (by decide) dX6_command_182
  replace hf := iN e18_2 hf
  by_cases e18_3 : x1 = (4 : Int32)
  · replace hf := ip e18_3 hf
    refine z_stk (congrArg (fun z => Value.int z :: []) e18_3) ?_
    refine z_tableIn C 165 183 dX6_command_18 (by decide) (by decide) (by decide) (by decide) ?_
    refine z_iload_n C dX6_command_183 5 rfl ?_
    refine z_if_ne C 211 dX6_command_184 (by decide) (fun c184 => ?_) (fun c184 => ?_)
    · replace hf := iN c184 hf
      refine z_iconst C (0 : Int32) dX6_command_211 (by decide) ?_
      obtain rfl := Option.some.inj hf
      exact z_zreturn (v := (0 : Int32)) C (by decide) dX6_command_212
    · replace hf := ip c184 hf
      refine z_aload_n C dX6_command_187 3 rfl ?_
      refine gf_X6_16 C dX6_command_188 ?_
      obtain ⟨q191, hq191, hf⟩ := bd_some hf
      refine z_heap pM_i2 ?_
      refine iv_X6_179 C [.ref (m + 3)] [] (ct_X6_canPass hq191) rfl (by decide) rfl (Nat.le_of_ble_eq_true rfl) z_k0 dX6_command_191 ?_
      refine z_heap pM_i2.symm ?_
      refine z_if_eq C 211 dX6_command_194 (by decide) (fun c194 => ?_) (fun c194 => ?_)
      · replace hf := ip c194 hf
        refine z_iconst C (0 : Int32) dX6_command_211 (by decide) ?_
        obtain rfl := Option.some.inj hf
        exact z_zreturn (v := (0 : Int32)) C (by decide) dX6_command_212
      · replace hf := iN c194 hf
        refine z_aload_n C dX6_command_197 3 rfl ?_
        refine gf_X6_16 C dX6_command_198 ?_
        obtain ⟨q201, hq201, hf⟩ := bd_some hf
        refine z_heap pM_i2 ?_
        refine iv_X6_182 C [.ref (m + 3)] [] (ct_X6_passOn hq201) rfl (by decide) rfl (Nat.le_of_ble_eq_true rfl) z_k0 dX6_command_201 ?_
        refine z_heap (pM_j2 _) ?_
        refine z_if_le C 211 dX6_command_204 (by decide) (fun c204 => ?_) (fun c204 => ?_)
        · replace hf := ip c204 hf
          refine z_iconst C (0 : Int32) dX6_command_211 (by decide) ?_
          obtain rfl := Option.some.inj hf
          exact z_zreturn (v := (0 : Int32)) C (by decide) dX6_command_212
        · replace hf := iN c204 hf
          refine z_iconst C (1 : Int32) dX6_command_207 (by decide) ?_
          refine z_goto C 212 dX6_command_208 (by decide) ?_
          obtain rfl := Option.some.inj hf
          exact z_zreturn (v := (1 : Int32)) C (by decide) dX6_command_212
  replace hf := iN e18_3 hf
  by_cases e18_4 : x1 = (5 : Int32)
  · replace hf := ip e18_4 hf
    refine z_stk (congrArg (fun z => Value.int z :: []) e18_4) ?_
    refine z_tableIn C 195 213 dX6_command_18 (by decide) (by decide) (by decide) (by decide) ?_
    refine z_iload_n C dX6_command_213 5 rfl ?_
    refine z_bipush C (10 : Int32) dX6_command_214 (by decide) ?_
    refine z_icmp_ge C 232 dX6_command_216 (by decide) (fun c216 => ?_) (fun c216 => ?_)
    · replace hf := ip c216 hf
      refine z_iconst C (0 : Int32) dX6_command_232 (by decide) ?_
      obtain rfl := Option.some.inj hf
      exact z_zreturn (v := (0 : Int32)) C (by decide) dX6_command_233
    · replace hf := iN c216 hf
      refine z_aload_n C dX6_command_219 3 rfl ?_
      refine z_iload C dX6_command_220 0 rfl ?_
      obtain ⟨q222, hq222, hf⟩ := bd_some hf
      refine iv_X6_241 C [.int (jrem x2 (10 : Int32))] [] (ct_X6_playsBest hq222) pM_o rfl (by decide) rfl (Nat.le_of_ble_eq_true rfl) z_k0 dX6_command_222 ?_
      refine z_if_eq C 232 dX6_command_225 (by decide) (fun c225 => ?_) (fun c225 => ?_)
      · replace hf := ip c225 hf
        refine z_iconst C (0 : Int32) dX6_command_232 (by decide) ?_
        obtain rfl := Option.some.inj hf
        exact z_zreturn (v := (0 : Int32)) C (by decide) dX6_command_233
      · replace hf := iN c225 hf
        refine z_iconst C (1 : Int32) dX6_command_228 (by decide) ?_
        refine z_goto C 233 dX6_command_229 (by decide) ?_
        obtain rfl := Option.some.inj hf
        exact z_zreturn (v := (1 : Int32)) C (by decide) dX6_command_233
  replace hf := iN e18_4 hf
  by_cases e18_5 : x1 = (6 : Int32)
  · replace hf := ip e18_5 hf
    refine z_stk (congrArg (fun z => Value.int z :: []) e18_5) ?_
    refine z_tableIn C 216 234 dX6_command_18 (by decide) (by decide) (by decide) (by decide) ?_
    refine z_iload_n C dX6_command_234 5 rfl ?_
    refine z_iconst C (4 : Int32) dX6_command_235 (by decide) ?_
    refine z_icmp_ge C 264 dX6_command_236 (by decide) (fun c236 => ?_) (fun c236 => ?_)
    · replace hf := ip c236 hf
      refine z_iconst C (0 : Int32) dX6_command_264 (by decide) ?_
      obtain rfl := Option.some.inj hf
      exact z_zreturn (v := (0 : Int32)) C (by decide) dX6_command_265
    · replace hf := iN c236 hf
      refine z_aload_n C dX6_command_239 3 rfl ?_
      refine gf_X6_16 C dX6_command_240 ?_
      refine z_iconst C (1 : Int32) dX6_command_243 (by decide) ?_
      obtain ⟨c244, hf⟩ := chk_some hf
      refine z_iald C pM_a2 c244 dX6_command_244 ?_
      refine z_iconst C (1 : Int32) dX6_command_245 (by decide) ?_
      refine z_icmp_ne C 264 dX6_command_246 (by decide) (fun c246 => ?_) (fun c246 => ?_)
      · replace hf := iN c246 hf
        refine z_iconst C (0 : Int32) dX6_command_264 (by decide) ?_
        obtain rfl := Option.some.inj hf
        exact z_zreturn (v := (0 : Int32)) C (by decide) dX6_command_265
      · replace hf := ip c246 hf
        refine z_aload_n C dX6_command_249 3 rfl ?_
        refine gf_X6_16 C dX6_command_250 ?_
        refine z_iconst C (3 : Int32) dX6_command_253 (by decide) ?_
        obtain ⟨c254, hf⟩ := chk_some hf
        refine z_iald C pM_a2 c254 dX6_command_254 ?_
        refine z_iload C dX6_command_255 0 rfl ?_
        refine z_icmp_ne C 264 dX6_command_257 (by decide) (fun c257 => ?_) (fun c257 => ?_)
        · replace hf := iN c257 hf
          refine z_iconst C (0 : Int32) dX6_command_264 (by decide) ?_
          obtain rfl := Option.some.inj hf
          exact z_zreturn (v := (0 : Int32)) C (by decide) dX6_command_265
        · replace hf := ip c257 hf
          refine z_iconst C (1 : Int32) dX6_command_260 (by decide) ?_
          refine z_goto C 265 dX6_command_261 (by decide) ?_
          obtain rfl := Option.some.inj hf
          exact z_zreturn (v := (1 : Int32)) C (by decide) dX6_command_265
  replace hf := iN e18_5 hf
  by_cases e18_6 : x1 = (7 : Int32)
  · replace hf := ip e18_6 hf
    refine z_stk (congrArg (fun z => Value.int z :: []) e18_6) ?_
    refine z_tableIn C 248 266 dX6_command_18 (by decide) (by decide) (by decide) (by decide) ?_
    refine z_iload_n C dX6_command_266 2 rfl ?_
    refine z_iconst C (4 : Int32) dX6_command_267 (by decide) ?_
    refine z_icmp_ge C 288 dX6_command_268 (by decide) (fun c268 => ?_) (fun c268 => ?_)
    · replace hf := ip c268 hf
      refine z_iconst C (0 : Int32) dX6_command_288 (by decide) ?_
      obtain rfl := Option.some.inj hf
      exact z_zreturn (v := (0 : Int32)) C (by decide) dX6_command_289
    · replace hf := iN c268 hf
      refine z_aload_n C dX6_command_271 3 rfl ?_
      refine gf_X6_16 C dX6_command_272 ?_
      refine z_iload_n C dX6_command_275 2 rfl ?_
      obtain ⟨q276, hq276, hf⟩ := bd_some hf
      refine z_heap pM_i2 ?_
      refine iv_X6_119 C [.ref (m + 3), .int (x2 / (100 : Int32))] [] (ct_X6_handMany hq276) rfl (by decide) rfl (Nat.le_of_ble_eq_true rfl) z_k0 dX6_command_276 ?_
      refine z_heap pM_i2.symm ?_
      refine z_iload C dX6_command_279 1 rfl ?_
      refine z_icmp_gt C 288 dX6_command_281 (by decide) (fun c281 => ?_) (fun c281 => ?_)
      · replace hf := ip c281 hf
        refine z_iconst C (0 : Int32) dX6_command_288 (by decide) ?_
        obtain rfl := Option.some.inj hf
        exact z_zreturn (v := (0 : Int32)) C (by decide) dX6_command_289
      · replace hf := iN c281 hf
        refine z_iconst C (1 : Int32) dX6_command_284 (by decide) ?_
        refine z_goto C 289 dX6_command_285 (by decide) ?_
        obtain rfl := Option.some.inj hf
        exact z_zreturn (v := (1 : Int32)) C (by decide) dX6_command_289
  replace hf := iN e18_6 hf
  by_cases e18_7 : x1 = (8 : Int32)
  · replace hf := ip e18_7 hf
    refine z_stk (congrArg (fun z => Value.int z :: []) e18_7) ?_
    refine z_tableIn C 272 290 dX6_command_18 (by decide) (by decide) (by decide) (by decide) ?_
    refine z_iload_n C dX6_command_290 5 rfl ?_
    refine z_bipush C (10 : Int32) dX6_command_291 (by decide) ?_
    refine z_icmp_ge C 312 dX6_command_293 (by decide) (fun c293 => ?_) (fun c293 => ?_)
    · replace hf := ip c293 hf
      refine z_iconst C (0 : Int32) dX6_command_312 (by decide) ?_
      obtain rfl := Option.some.inj hf
      exact z_zreturn (v := (0 : Int32)) C (by decide) dX6_command_313
    · replace hf := iN c293 hf
      refine z_aload_n C dX6_command_296 3 rfl ?_
      refine gf_X6_16 C dX6_command_297 ?_
      refine z_bipush C (6 : Int32) dX6_command_300 (by decide) ?_
      obtain ⟨c302, hf⟩ := chk_some hf
      refine z_iald C pM_a2 c302 dX6_command_302 ?_
      refine z_iload C dX6_command_303 0 rfl ?_
      refine z_icmp_ne C 312 dX6_command_305 (by decide) (fun c305 => ?_) (fun c305 => ?_)
      · replace hf := iN c305 hf
        refine z_iconst C (0 : Int32) dX6_command_312 (by decide) ?_
        obtain rfl := Option.some.inj hf
        exact z_zreturn (v := (0 : Int32)) C (by decide) dX6_command_313
      · replace hf := ip c305 hf
        refine z_iconst C (1 : Int32) dX6_command_308 (by decide) ?_
        refine z_goto C 313 dX6_command_309 (by decide) ?_
        obtain rfl := Option.some.inj hf
        exact z_zreturn (v := (1 : Int32)) C (by decide) dX6_command_313
  replace hf := iN e18_7 hf
  by_cases e18_8 : x1 = (9 : Int32)
  · replace hf := ip e18_8 hf
    refine z_stk (congrArg (fun z => Value.int z :: []) e18_8) ?_
    refine z_tableIn C 296 314 dX6_command_18 (by decide) (by decide) (by decide) (by decide) ?_
    refine z_iload_n C dX6_command_314 2 rfl ?_
    refine z_if_ne C 333 dX6_command_315 (by decide) (fun c315 => ?_) (fun c315 => ?_)
    · replace hf := iN c315 hf
      refine z_iconst C (0 : Int32) dX6_command_333 (by decide) ?_
      obtain rfl := Option.some.inj hf
      exact z_zreturn (v := (0 : Int32)) C (by decide) dX6_command_334
    · replace hf := ip c315 hf
      refine z_aload_n C dX6_command_318 3 rfl ?_
      refine gf_X6_16 C dX6_command_319 ?_
      refine z_iconst C (5 : Int32) dX6_command_322 (by decide) ?_
      obtain ⟨c323, hf⟩ := chk_some hf
      refine z_iald C pM_a2 c323 dX6_command_323 ?_
      refine z_iload C dX6_command_324 1 rfl ?_
      refine z_icmp_lt C 333 dX6_command_326 (by decide) (fun c326 => ?_) (fun c326 => ?_)
      · replace hf := ip c326 hf
        refine z_iconst C (0 : Int32) dX6_command_333 (by decide) ?_
        obtain rfl := Option.some.inj hf
        exact z_zreturn (v := (0 : Int32)) C (by decide) dX6_command_334
      · replace hf := iN c326 hf
        refine z_iconst C (1 : Int32) dX6_command_329 (by decide) ?_
        refine z_goto C 334 dX6_command_330 (by decide) ?_
        obtain rfl := Option.some.inj hf
        exact z_zreturn (v := (1 : Int32)) C (by decide) dX6_command_334
  replace hf := iN e18_8 hf
  refine z_tableOut C 335 dX6_command_18 (by have n0 := ne_toInt (v := (1 : Int32)) (z := 1) (by decide) e18_0; have n1 := ne_toInt (v := (2 : Int32)) (z := 2) (by decide) e18_1; have n2 := ne_toInt (v := (3 : Int32)) (z := 3) (by decide) e18_2; have n3 := ne_toInt (v := (4 : Int32)) (z := 4) (by decide) e18_3; have n4 := ne_toInt (v := (5 : Int32)) (z := 5) (by decide) e18_4; have n5 := ne_toInt (v := (6 : Int32)) (z := 6) (by decide) e18_5; have n6 := ne_toInt (v := (7 : Int32)) (z := 7) (by decide) e18_6; have n7 := ne_toInt (v := (8 : Int32)) (z := 8) (by decide) e18_7; have n8 := ne_toInt (v := (9 : Int32)) (z := 9) (by decide) e18_8; omega) (by decide) ?_
  refine z_iconst C (0 : Int32) dX6_command_335 (by decide) ?_
  obtain rfl := Option.some.inj hf
  exact z_zreturn (v := (0 : Int32)) C (by decide) dX6_command_336
/-! X6_runScript: depth 12 -/
def f_X6_runScript_h86 (n : Nat) (x1 : Int32) (y2 : Int64)  (K86 : MS → Int64 → Int32 → Option ((MS) × Int32)) (M : MS) (y4 : Int64) (x6 : Int32) : Option ((MS) × Int32) :=
  if x1 ≤ x6 then (some (M, (-1 : Int32))) else (chk (¬ (10000 : Int64) = 0) (chk (¬ (y4 / (10000 : Int64)) = 0) (chk (¬ (10000 : Int64) = 0) (stt ((jlrem (y2 / (y4 / (10000 : Int64))) (10000 : Int64)).toInt32) (fun v1 => chk (¬ (1000 : Int32) = 0) (chk (¬ (1000 : Int32) = 0) ((f_X6_command n M (v1 / (1000 : Int32)) (jrem v1 (1000 : Int32))).bind (fun q124 => if q124.2 = 0 then (some (q124.1, x6)) else (K86 q124.1 (y4 / (10000 : Int64)) (x6 + 1))))))))))
set_option maxRecDepth 100000 in
set_option maxHeartbeats 4000000 in
theorem w_X6_runScript_h86 {E : zE} {X : zX} {h0 : Hp} {m : Nat} {n : Nat} {x1 : Int32} {y2 : Int64}   (C : zC E X RX6 cX6_runScript 8 (some .int) 12)   : ∀ (q : Nat) (M : MS) (y4 : Int64) (x6 : Int32) (r : ((MS) × Int32)), lo3 (f_X6_runScript_h86 n x1 y2) q M y4 x6 = some r → zW E X 8 0 0 (MQ (xb X) (zQ E (some (.int r.2)) (pM E h0 m r.1)) (xa X) (xs X) 0 0 (zA E)) 86 (pM E h0 m M) [(0, .ref m), (1, .int x1), (2, .long y2), (4, .long y4), (6, .int x6)] [] := by
  refine lo3_ind _ ?_
  intro K86 hK86 M y4 x6 r hf
  unfold f_X6_runScript_h86 at hf
  refine z_iload C dX6_runScript_86 4 rfl ?_
  refine z_iload_n C dX6_runScript_88 1 rfl ?_
  refine z_icmp_ge C 139 dX6_runScript_89 (by decide) (fun c89 => ?_) (fun c89 => ?_)
  · replace hf := ip c89 hf
    refine z_iconst C (-1 : Int32) dX6_runScript_139 (by decide) ?_
    obtain rfl := Option.some.inj hf
    exact z_ireturn C dX6_runScript_140
  · replace hf := iN c89 hf
    refine z_lload C dX6_runScript_92 3 rfl ?_
    refine z_ldc2 C (10000 : Int64) dX6_runScript_94 cn_X6_244 ?_
    obtain ⟨c97, hf⟩ := chk_some hf
    refine z_ldiv C dX6_runScript_97 c97 ?_
    refine z_lstore (lv' := [(4, .long (y4 / (10000 : Int64))), (0, .ref m), (1, .int x1), (2, .long y2), (6, .int x6)]) C dX6_runScript_98 (by decide) rfl ?_
    refine z_lload_n C dX6_runScript_100 3 rfl ?_
    refine z_lload C dX6_runScript_101 0 rfl ?_
    obtain ⟨c103, hf⟩ := chk_some hf
    refine z_ldiv C dX6_runScript_103 c103 ?_
    refine z_ldc2 C (10000 : Int64) dX6_runScript_104 cn_X6_244 ?_
    obtain ⟨c107, hf⟩ := chk_some hf
    refine z_lrem C dX6_runScript_107 c107 ?_
    refine z_l2i C dX6_runScript_108 ?_
    obtain ⟨v1, ev1, hf⟩ := st_some hf
    refine z_stk (congrArg (fun z => Value.int z :: []) ev1.symm) ?_
    refine z_istore (lv' := [(7, .int v1), (4, .long (y4 / (10000 : Int64))), (0, .ref m), (1, .int x1), (2, .long y2), (6, .int x6)]) C dX6_runScript_109 (by decide) rfl ?_
    refine z_aload_n C dX6_runScript_111 2 rfl ?_
    refine z_iload C dX6_runScript_112 0 rfl ?_
    refine z_sipush C (1000 : Int32) dX6_runScript_114 (by decide) ?_
    obtain ⟨c117, hf⟩ := chk_some hf
    refine z_idiv C dX6_runScript_117 c117 ?_
    refine z_iload C dX6_runScript_118 0 rfl ?_
    refine z_sipush C (1000 : Int32) dX6_runScript_120 (by decide) ?_
    obtain ⟨c123, hf⟩ := chk_some hf
    refine z_irem C dX6_runScript_123 c123 ?_
    obtain ⟨q124, hq124, hf⟩ := bd_some hf
    refine iv_X6_246 C [.int (v1 / (1000 : Int32)), .int (jrem v1 (1000 : Int32))] [] (ct_X6_command hq124) pM_o rfl (by decide) rfl (Nat.le_of_ble_eq_true rfl) z_k0 dX6_runScript_124 ?_
    refine z_if_ne C 133 dX6_runScript_127 (by decide) (fun c127 => ?_) (fun c127 => ?_)
    · replace hf := iN c127 hf
      refine z_iinc (lv' := [(6, .int (x6 + 1)), (7, .int v1), (4, .long (y4 / (10000 : Int64))), (0, .ref m), (1, .int x1), (2, .long y2)]) C dX6_runScript_133 5 (x6 + 1) rfl rfl (by decide) rfl ?_
      refine z_goto C 86 dX6_runScript_136 (by decide) ?_
      exact z_sub [3, 4, 5, 2, 0] rfl (hK86 _ _ _ _ hf)
    · replace hf := ip c127 hf
      refine z_iload C dX6_runScript_130 5 rfl ?_
      obtain rfl := Option.some.inj hf
      exact z_ireturn C dX6_runScript_132
def f_X6_runScript_b62 (n : Nat) (x1 : Int32) (y2 : Int64)   (M : MS) (y4 : Int64) (s0 : Int32) : Option ((MS) × Int32) :=
  (f_X6_refused M s0).bind (fun q62 => if q62.2 = 0 then ((f_X6_copyState n 217 217 (q62.1.2 1) (q62.1.2 2) (0 : Int32) (0 : Int32)).bind (fun q80 => lo3 (f_X6_runScript_h86 n x1 y2) n (mA q62.1 2 q80) y4 (0 : Int32))) else (some (q62.1, (0 : Int32))))
set_option maxRecDepth 100000 in
set_option maxHeartbeats 4000000 in
theorem w_X6_runScript_b62 {E : zE} {X : zX} {h0 : Hp} {m : Nat} {n : Nat} {x1 : Int32} {y2 : Int64}   (C : zC E X RX6 cX6_runScript 8 (some .int) 12)   {M : MS} {y4 : Int64} {s0 : Int32} {r : ((MS) × Int32)} (hf : f_X6_runScript_b62 n x1 y2 M y4 s0 = some r) : zW E X 8 0 0 (MQ (xb X) (zQ E (some (.int r.2)) (pM E h0 m r.1)) (xa X) (xs X) 0 0 (zA E)) 62 (pM E h0 m M) [(0, .ref m), (1, .int x1), (2, .long y2), (4, .long y4)] [.int s0, .ref m] := by
  unfold f_X6_runScript_b62 at hf
  obtain ⟨q62, hq62, hf⟩ := bd_some hf
  refine iv_X6_141 C [.int s0] [] (ct_X6_refused hq62) pM_o rfl (by decide) rfl (Nat.le_of_ble_eq_true rfl) z_k0 dX6_runScript_62 ?_
  refine z_if_eq C 70 dX6_runScript_65 (by decide) (fun c65 => ?_) (fun c65 => ?_)
  · replace hf := ip c65 hf
    refine z_aload_n C dX6_runScript_70 0 rfl ?_
    refine gf_X6_13 C dX6_runScript_71 ?_
    refine z_iconst C (0 : Int32) dX6_runScript_74 (by decide) ?_
    refine z_aload_n C dX6_runScript_75 0 rfl ?_
    refine gf_X6_16 C dX6_runScript_76 ?_
    refine z_iconst C (0 : Int32) dX6_runScript_79 (by decide) ?_
    obtain ⟨q80, hq80, hf⟩ := bd_some hf
    refine z_heap (pI_of pM_a2) ?_
    refine iv_X6_194 C [.ref (m + 2), .int (0 : Int32), .ref (m + 3), .int (0 : Int32)] [] (ct_X6_copyState (a1 := (m + 2)) (by omega) pM_a1 hq80) rfl (by decide) rfl (Nat.le_of_ble_eq_true rfl) z_k0 dX6_runScript_80 ?_
    refine z_heap (pM_w2 _) ?_
    refine z_iconst C (0 : Int32) dX6_runScript_83 (by decide) ?_
    refine z_istore (lv' := [(6, .int (0 : Int32)), (0, .ref m), (1, .int x1), (2, .long y2), (4, .long y4)]) C dX6_runScript_84 (by decide) rfl ?_
    exact z_sub [1, 2, 3, 4, 0] rfl (w_X6_runScript_h86 C n _ _ _ _ hf)
  · replace hf := iN c65 hf
    refine z_iconst C (0 : Int32) dX6_runScript_68 (by decide) ?_
    obtain rfl := Option.some.inj hf
    exact z_ireturn C dX6_runScript_69
def f_X6_runScript_b61 (n : Nat) (x1 : Int32) (y2 : Int64)   (M : MS) (y4 : Int64) : Option ((MS) × Int32) :=
  f_X6_runScript_b62 n x1 y2 M y4 (1 : Int32)
set_option maxRecDepth 100000 in
set_option maxHeartbeats 4000000 in
theorem w_X6_runScript_b61 {E : zE} {X : zX} {h0 : Hp} {m : Nat} {n : Nat} {x1 : Int32} {y2 : Int64}   (C : zC E X RX6 cX6_runScript 8 (some .int) 12)   {M : MS} {y4 : Int64} {r : ((MS) × Int32)} (hf : f_X6_runScript_b61 n x1 y2 M y4 = some r) : zW E X 8 0 0 (MQ (xb X) (zQ E (some (.int r.2)) (pM E h0 m r.1)) (xa X) (xs X) 0 0 (zA E)) 61 (pM E h0 m M) [(0, .ref m), (1, .int x1), (2, .long y2), (4, .long y4)] [.ref m] := by
  unfold f_X6_runScript_b61 at hf
  refine z_iconst C (1 : Int32) dX6_runScript_61 (by decide) ?_
  exact z_sub [0, 1, 2, 3] rfl (w_X6_runScript_b62 C hf)
def f_X6_runScript_b32 (n : Nat) (x1 : Int32) (y2 : Int64)   (M : MS) (y4 : Int64) : Option ((MS) × Int32) :=
  (f_X6_in x1.toInt64 (1 : Int64) (4 : Int64)).bind (fun q39 => if q39 = 0 then (f_X6_runScript_b61 n x1 y2 M y4) else ((f_X6_in y2 (0 : Int64) (y4 - (1 : Int64))).bind (fun q51 => if q51 = 0 then (f_X6_runScript_b61 n x1 y2 M y4) else (f_X6_runScript_b62 n x1 y2 M y4 (0 : Int32)))))
set_option maxRecDepth 100000 in
set_option maxHeartbeats 4000000 in
theorem w_X6_runScript_b32 {E : zE} {X : zX} {h0 : Hp} {m : Nat} {n : Nat} {x1 : Int32} {y2 : Int64}   (C : zC E X RX6 cX6_runScript 8 (some .int) 12)   {M : MS} {y4 : Int64} {r : ((MS) × Int32)} (hf : f_X6_runScript_b32 n x1 y2 M y4 = some r) : zW E X 8 0 0 (MQ (xb X) (zQ E (some (.int r.2)) (pM E h0 m r.1)) (xa X) (xs X) 0 0 (zA E)) 32 (pM E h0 m M) [(0, .ref m), (1, .int x1), (2, .long y2), (4, .long y4)] [] := by
  unfold f_X6_runScript_b32 at hf
  refine z_aload_n C dX6_runScript_32 0 rfl ?_
  refine z_iload_n C dX6_runScript_33 1 rfl ?_
  refine z_i2l C dX6_runScript_34 ?_
  refine z_lconst C (1 : Int64) dX6_runScript_35 (by decide) ?_
  refine z_ldc2 C (4 : Int64) dX6_runScript_36 cn_X6_209 ?_
  obtain ⟨q39, hq39, hf⟩ := bd_some hf
  refine iv_X6_55 C [.long x1.toInt64, .long (1 : Int64), .long (4 : Int64)] [.ref m] (ct_X6_in hq39) rfl (by decide) rfl (Nat.le_of_ble_eq_true rfl) z_k0 dX6_runScript_39 ?_
  refine z_if_eq C 61 dX6_runScript_42 (by decide) (fun c42 => ?_) (fun c42 => ?_)
  · replace hf := ip c42 hf
    exact z_sub [0, 1, 2, 3] rfl (w_X6_runScript_b61 C hf)
  · replace hf := iN c42 hf
    refine z_lload_n C dX6_runScript_45 2 rfl ?_
    refine z_lconst C (0 : Int64) dX6_runScript_46 (by decide) ?_
    refine z_lload C dX6_runScript_47 3 rfl ?_
    refine z_lconst C (1 : Int64) dX6_runScript_49 (by decide) ?_
    refine z_lsub C dX6_runScript_50 ?_
    obtain ⟨q51, hq51, hf⟩ := bd_some hf
    refine iv_X6_55 C [.long y2, .long (0 : Int64), .long (y4 - (1 : Int64))] [.ref m] (ct_X6_in hq51) rfl (by decide) rfl (Nat.le_of_ble_eq_true rfl) z_k0 dX6_runScript_51 ?_
    refine z_if_eq C 61 dX6_runScript_54 (by decide) (fun c54 => ?_) (fun c54 => ?_)
    · replace hf := ip c54 hf
      exact z_sub [0, 1, 2, 3] rfl (w_X6_runScript_b61 C hf)
    · replace hf := iN c54 hf
      refine z_iconst C (0 : Int32) dX6_runScript_57 (by decide) ?_
      refine z_goto C 62 dX6_runScript_58 (by decide) ?_
      exact z_sub [0, 1, 2, 3] rfl (w_X6_runScript_b62 C hf)
def f_X6_runScript_h6 (n : Nat) (x1 : Int32) (y2 : Int64)  (K6 : MS → Int64 → Int32 → Option ((MS) × Int32)) (M : MS) (y4 : Int64) (x6 : Int32) : Option ((MS) × Int32) :=
  if x1 ≤ x6 then (f_X6_runScript_b32 n x1 y2 M y4) else (if (4 : Int32) ≤ x6 then (f_X6_runScript_b32 n x1 y2 M y4) else (K6 M (y4 * (10000 : Int64)) (x6 + 1)))
set_option maxRecDepth 100000 in
set_option maxHeartbeats 4000000 in
theorem w_X6_runScript_h6 {E : zE} {X : zX} {h0 : Hp} {m : Nat} {n : Nat} {x1 : Int32} {y2 : Int64}   (C : zC E X RX6 cX6_runScript 8 (some .int) 12)   : ∀ (q : Nat) (M : MS) (y4 : Int64) (x6 : Int32) (r : ((MS) × Int32)), lo3 (f_X6_runScript_h6 n x1 y2) q M y4 x6 = some r → zW E X 8 0 0 (MQ (xb X) (zQ E (some (.int r.2)) (pM E h0 m r.1)) (xa X) (xs X) 0 0 (zA E)) 6 (pM E h0 m M) [(0, .ref m), (1, .int x1), (2, .long y2), (4, .long y4), (6, .int x6)] [] := by
  refine lo3_ind _ ?_
  intro K6 hK6 M y4 x6 r hf
  unfold f_X6_runScript_h6 at hf
  refine z_iload C dX6_runScript_6 4 rfl ?_
  refine z_iload_n C dX6_runScript_8 1 rfl ?_
  refine z_icmp_ge C 32 dX6_runScript_9 (by decide) (fun c9 => ?_) (fun c9 => ?_)
  · replace hf := ip c9 hf
    exact z_sub [0, 1, 2, 3] rfl (w_X6_runScript_b32 C hf)
  · replace hf := iN c9 hf
    refine z_iload C dX6_runScript_12 4 rfl ?_
    refine z_iconst C (4 : Int32) dX6_runScript_14 (by decide) ?_
    refine z_icmp_ge C 32 dX6_runScript_15 (by decide) (fun c15 => ?_) (fun c15 => ?_)
    · replace hf := ip c15 hf
      exact z_sub [0, 1, 2, 3] rfl (w_X6_runScript_b32 C hf)
    · replace hf := iN c15 hf
      refine z_lload C dX6_runScript_18 3 rfl ?_
      refine z_ldc2 C (10000 : Int64) dX6_runScript_20 cn_X6_244 ?_
      refine z_lmul C dX6_runScript_23 ?_
      refine z_lstore (lv' := [(4, .long (y4 * (10000 : Int64))), (0, .ref m), (1, .int x1), (2, .long y2), (6, .int x6)]) C dX6_runScript_24 (by decide) rfl ?_
      refine z_iinc (lv' := [(6, .int (x6 + 1)), (4, .long (y4 * (10000 : Int64))), (0, .ref m), (1, .int x1), (2, .long y2)]) C dX6_runScript_26 4 (x6 + 1) rfl rfl (by decide) rfl ?_
      refine z_goto C 6 dX6_runScript_29 (by decide) ?_
      exact z_sub [2, 3, 4, 1, 0] rfl (hK6 _ _ _ _ hf)
def f_X6_runScript (n : Nat) (M : MS) (x1 : Int32) (y2 : Int64) : Option ((MS) × Int32) :=
  lo3 (f_X6_runScript_h6 n x1 y2) n M (1 : Int64) (0 : Int32)
set_option maxRecDepth 100000 in
set_option maxHeartbeats 4000000 in
theorem ct_X6_runScript {E : zE} {l : Launch} {h0 : Hp} {m : Nat} {n : Nat} {M : MS} {x1 : Int32} {y2 : Int64} {r : ((MS) × Int32)}  (hf : f_X6_runScript n M x1 y2 = some r) : zM E l 12 yX6_runScript cX6_runScript 8 (some .int) [.ref m, .int x1, .long y2] (pM E h0 m M) (some (.int r.2)) (pM E h0 m r.1) := by
  refine zM_of (lv := [(0, .ref m), (1, .int x1), (2, .long y2)]) (by decide +kernel) (Nat.le_of_ble_eq_true rfl) rfl (fun X hX C => ?_)
  subst hX
  replace C : zC E X RX6 cX6_runScript 8 (some .int) 12 := C
  unfold f_X6_runScript at hf
  refine z_lconst C (1 : Int64) dX6_runScript_0 (by decide) ?_
  refine z_lstore (lv' := [(4, .long (1 : Int64)), (0, .ref m), (1, .int x1), (2, .long y2)]) C dX6_runScript_1 (by decide) rfl ?_
  refine z_iconst C (0 : Int32) dX6_runScript_3 (by decide) ?_
  refine z_istore (lv' := [(6, .int (0 : Int32)), (4, .long (1 : Int64)), (0, .ref m), (1, .int x1), (2, .long y2)]) C dX6_runScript_4 (by decide) rfl ?_
  exact z_sub [2, 3, 4, 1, 0] rfl (w_X6_runScript_h6 C n _ _ _ _ hf)
/-! X6_turnOf: depth 9 -/
def f_X6_turnOf_b63 (n : Nat) (x2 : Int32)   (M : MS) (s0 : Int32) (s1 : Int32) : Option MS :=
  (f_X6_put n (M.2 2) s1 s0).bind (fun q63 => some (mA M 2 q63))
set_option maxRecDepth 100000 in
set_option maxHeartbeats 4000000 in
theorem w_X6_turnOf_b63 {E : zE} {X : zX} {h0 : Hp} {m : Nat} {n : Nat} {x2 : Int32}   (C : zC E X RX6 cX6_turnOf 5 none 9)   {M : MS} {s0 : Int32} {s1 : Int32} {r : MS} (hf : f_X6_turnOf_b63 n x2 M s0 s1 = some r) : zW E X 5 0 0 (MQ (xb X) (zQ E none (pM E h0 m r)) (xa X) (xs X) 0 0 (zA E)) 63 (pM E h0 m M) [] [.int s0, .int s1, .ref (m + 3)] := by
  unfold f_X6_turnOf_b63 at hf
  obtain ⟨q63, hq63, hf⟩ := bd_some hf
  refine z_heap pM_i2 ?_
  refine iv_X6_129 C [.ref (m + 3), .int s1, .int s0] [] (ct_X6_put hq63) rfl (by decide) rfl (Nat.le_of_ble_eq_true rfl) z_k0 dX6_turnOf_63 ?_
  refine z_heap (pM_j2 _) ?_
  refine z_goto C 89 dX6_turnOf_66 (by decide) ?_
  obtain rfl := Option.some.inj hf
  exact z_return C dX6_turnOf_89
def f_X6_turnOf (n : Nat) (M : MS) (x2 : Int32) : Option MS :=
  chk (¬ (16 : Int32) = 0) (chk (inB (1 : Int32) 217) (if (M.2 2 (1 : Int32).toNatClampNeg) = (1 : Int32) then ((f_X6_legalMany n (M.2 2)).bind (fun q29 => if q29 ≤ 0 then ((f_X6_canDraw (M.2 2)).bind (fun q70 => if q70 = 0 then ((f_X6_passOn n (M.2 2)).bind (fun q85 => some (mA M 2 q85.1))) else ((f_X6_drawOn n (M.2 2)).bind (fun q77 => some (mA M 2 q77.1))))) else (chk (¬ (16 : Int32) = 0) (chk (¬ q29 = 0) ((f_X6_legalAt n (M.2 2) (jrem (jrem x2 (16 : Int32)) q29)).bind (fun q48 => chk (¬ (2 : Int32) = 0) (if (jrem (x2 / (16 : Int32)) (2 : Int32)) = (1 : Int32) then (f_X6_turnOf_b63 n x2 M (1 : Int32) q48) else (f_X6_turnOf_b63 n x2 M (0 : Int32) q48)))))))) else (chk (¬ (3 : Int32) = 0) ((f_X6_dealOn n 2 M ((2 : Int32) + (jrem (x2 / (16 : Int32)) (3 : Int32))) ((x2 / (16 : Int32)).toInt64)).bind (fun q21 => some q21.1)))))
set_option maxRecDepth 100000 in
set_option maxHeartbeats 4000000 in
theorem ct_X6_turnOf {E : zE} {l : Launch} {h0 : Hp} {m : Nat} {n : Nat} {M : MS} {x2 : Int32} {r : MS}  (hf : f_X6_turnOf n M x2 = some r) : zM E l 9 yX6_turnOf cX6_turnOf 5 none [.ref m, .ref (m + 3), .int x2] (pM E h0 m M) none (pM E h0 m r) := by
  refine zM_of (lv := [(0, .ref m), (1, .ref (m + 3)), (2, .int x2)]) (by decide +kernel) (Nat.le_of_ble_eq_true rfl) rfl (fun X hX C => ?_)
  subst hX
  replace C : zC E X RX6 cX6_turnOf 5 none 9 := C
  unfold f_X6_turnOf at hf
  refine z_iload_n C dX6_turnOf_0 2 rfl ?_
  refine z_bipush C (16 : Int32) dX6_turnOf_1 (by decide) ?_
  obtain ⟨c3, hf⟩ := chk_some hf
  refine z_idiv C dX6_turnOf_3 c3 ?_
  refine z_istore_n (lv' := [(3, .int (x2 / (16 : Int32))), (0, .ref m), (1, .ref (m + 3)), (2, .int x2)]) C dX6_turnOf_4 (by decide) rfl ?_
  refine z_aload_n C dX6_turnOf_5 2 rfl ?_
  refine z_iconst C (1 : Int32) dX6_turnOf_6 (by decide) ?_
  obtain ⟨c7, hf⟩ := chk_some hf
  refine z_iald C pM_a2 c7 dX6_turnOf_7 ?_
  refine z_iconst C (1 : Int32) dX6_turnOf_8 (by decide) ?_
  refine z_icmp_eq C 28 dX6_turnOf_9 (by decide) (fun c9 => ?_) (fun c9 => ?_)
  · replace hf := ip c9 hf
    refine z_aload_n C dX6_turnOf_28 2 rfl ?_
    obtain ⟨q29, hq29, hf⟩ := bd_some hf
    refine z_heap pM_i2 ?_
    refine iv_X6_249 C [.ref (m + 3)] [] (ct_X6_legalMany hq29) rfl (by decide) rfl (Nat.le_of_ble_eq_true rfl) z_k0 dX6_turnOf_29 ?_
    refine z_heap pM_i2.symm ?_
    refine z_istore (lv' := [(4, .int q29), (3, .int (x2 / (16 : Int32))), (0, .ref m), (1, .ref (m + 3)), (2, .int x2)]) C dX6_turnOf_32 (by decide) rfl ?_
    refine z_iload C dX6_turnOf_34 0 rfl ?_
    refine z_if_le C 69 dX6_turnOf_36 (by decide) (fun c36 => ?_) (fun c36 => ?_)
    · replace hf := ip c36 hf
      refine z_aload_n C dX6_turnOf_69 3 rfl ?_
      obtain ⟨q70, hq70, hf⟩ := bd_some hf
      refine z_heap pM_i2 ?_
      refine iv_X6_173 C [.ref (m + 3)] [] (ct_X6_canDraw hq70) rfl (by decide) rfl (Nat.le_of_ble_eq_true rfl) z_k0 dX6_turnOf_70 ?_
      refine z_heap pM_i2.symm ?_
      refine z_if_eq C 84 dX6_turnOf_73 (by decide) (fun c73 => ?_) (fun c73 => ?_)
      · replace hf := ip c73 hf
        refine z_aload_n C dX6_turnOf_84 3 rfl ?_
        obtain ⟨q85, hq85, hf⟩ := bd_some hf
        refine z_heap pM_i2 ?_
        refine iv_X6_182 C [.ref (m + 3)] [] (ct_X6_passOn hq85) rfl (by decide) rfl (Nat.le_of_ble_eq_true rfl) z_k0 dX6_turnOf_85 ?_
        refine z_heap (pM_j2 _) ?_
        refine z_pop C dX6_turnOf_88 rfl ?_
        obtain rfl := Option.some.inj hf
        exact z_return C dX6_turnOf_89
      · replace hf := iN c73 hf
        refine z_aload_n C dX6_turnOf_76 3 rfl ?_
        obtain ⟨q77, hq77, hf⟩ := bd_some hf
        refine z_heap pM_i2 ?_
        refine iv_X6_176 C [.ref (m + 3)] [] (ct_X6_drawOn hq77) rfl (by decide) rfl (Nat.le_of_ble_eq_true rfl) z_k0 dX6_turnOf_77 ?_
        refine z_heap (pM_j2 _) ?_
        refine z_pop C dX6_turnOf_80 rfl ?_
        refine z_goto C 89 dX6_turnOf_81 (by decide) ?_
        obtain rfl := Option.some.inj hf
        exact z_return C dX6_turnOf_89
    · replace hf := iN c36 hf
      refine z_aload_n C dX6_turnOf_39 3 rfl ?_
      refine z_aload_n C dX6_turnOf_40 3 rfl ?_
      refine z_iload_n C dX6_turnOf_41 4 rfl ?_
      refine z_bipush C (16 : Int32) dX6_turnOf_42 (by decide) ?_
      obtain ⟨c44, hf⟩ := chk_some hf
      refine z_irem C dX6_turnOf_44 c44 ?_
      refine z_iload C dX6_turnOf_45 0 rfl ?_
      obtain ⟨c47, hf⟩ := chk_some hf
      refine z_irem C dX6_turnOf_47 c47 ?_
      obtain ⟨q48, hq48, hf⟩ := bd_some hf
      refine z_heap pM_i2 ?_
      refine iv_X6_252 C [.ref (m + 3), .int (jrem (jrem x2 (16 : Int32)) q29)] [.ref (m + 3)] (ct_X6_legalAt hq48) rfl (by decide) rfl (Nat.le_of_ble_eq_true rfl) z_k0 dX6_turnOf_48 ?_
      refine z_heap pM_i2.symm ?_
      refine z_iload_n C dX6_turnOf_51 1 rfl ?_
      refine z_iconst C (2 : Int32) dX6_turnOf_52 (by decide) ?_
      obtain ⟨c53, hf⟩ := chk_some hf
      refine z_irem C dX6_turnOf_53 c53 ?_
      refine z_iconst C (1 : Int32) dX6_turnOf_54 (by decide) ?_
      refine z_icmp_ne C 62 dX6_turnOf_55 (by decide) (fun c55 => ?_) (fun c55 => ?_)
      · replace hf := iN c55 hf
        refine z_iconst C (0 : Int32) dX6_turnOf_62 (by decide) ?_
        exact z_sub [] rfl (w_X6_turnOf_b63 C hf)
      · replace hf := ip c55 hf
        refine z_iconst C (1 : Int32) dX6_turnOf_58 (by decide) ?_
        refine z_goto C 63 dX6_turnOf_59 (by decide) ?_
        exact z_sub [] rfl (w_X6_turnOf_b63 C hf)
  · replace hf := iN c9 hf
    refine z_aload_n C dX6_turnOf_12 1 rfl ?_
    refine z_aload_n C dX6_turnOf_13 2 rfl ?_
    refine z_iconst C (2 : Int32) dX6_turnOf_14 (by decide) ?_
    refine z_iload_n C dX6_turnOf_15 0 rfl ?_
    refine z_iconst C (3 : Int32) dX6_turnOf_16 (by decide) ?_
    obtain ⟨c17, hf⟩ := chk_some hf
    refine z_irem C dX6_turnOf_17 c17 ?_
    refine z_iadd C dX6_turnOf_18 ?_
    refine z_iload_n C dX6_turnOf_19 0 rfl ?_
    refine z_i2l C dX6_turnOf_20 ?_
    obtain ⟨q21, hq21, hf⟩ := bd_some hf
    refine iv_X6_165 C [.ref (m + 3), .int ((2 : Int32) + (jrem (x2 / (16 : Int32)) (3 : Int32))), .long ((x2 / (16 : Int32)).toInt64)] [] (ct_X6_dealOn (Or.inr rfl) hq21) pM_o rfl (by decide) rfl (Nat.le_of_ble_eq_true rfl) z_k0 dX6_turnOf_21 ?_
    refine z_pop C dX6_turnOf_24 rfl ?_
    refine z_goto C 89 dX6_turnOf_25 (by decide) ?_
    obtain rfl := Option.some.inj hf
    exact z_return C dX6_turnOf_89
/-! X6_simulate: depth 10 -/
def f_X6_simulate_h45 (n : Nat) (y1 : Int64) (x3 : Int32)  (K45 : MS → Int64 → Int32 → Option ((MS) × Int32)) (M : MS) (y4 : Int64) (x6 : Int32) : Option ((MS) × Int32) :=
  if x3 ≤ x6 then (chk (inB (0 : Int32) 217) (chk (inB (0 : Int32) 217) (chk (inB (5 : Int32) 217) (chk (inB (4 : Int32) 217) (some (M, ((((10000 : Int32) * ((M.2 2 (0 : Int32).toNatClampNeg) - (M.2 1 (0 : Int32).toNatClampNeg))) + ((100 : Int32) * (M.2 2 (5 : Int32).toNatClampNeg))) + (M.2 2 (4 : Int32).toNatClampNeg)))))))) else (stt (((y4 * (6364136223846793005 : Int64)) + (1442695040888963407 : Int64))) (fun v1 => (f_X6_turnOf n M ((jlushr v1 (33 : Int32)).toInt32)).bind (fun q74 => K45 q74 v1 (x6 + 1))))
set_option maxRecDepth 100000 in
set_option maxHeartbeats 4000000 in
theorem w_X6_simulate_h45 {E : zE} {X : zX} {h0 : Hp} {m : Nat} {n : Nat} {y1 : Int64} {x3 : Int32}   (C : zC E X RX6 cX6_simulate 7 (some .int) 10)   : ∀ (q : Nat) (M : MS) (y4 : Int64) (x6 : Int32) (r : ((MS) × Int32)), lo3 (f_X6_simulate_h45 n y1 x3) q M y4 x6 = some r → zW E X 7 0 0 (MQ (xb X) (zQ E (some (.int r.2)) (pM E h0 m r.1)) (xa X) (xs X) 0 0 (zA E)) 45 (pM E h0 m M) [(0, .ref m), (3, .int x3), (4, .long y4), (6, .int x6)] [] := by
  refine lo3_ind _ ?_
  intro K45 hK45 M y4 x6 r hf
  unfold f_X6_simulate_h45 at hf
  refine z_iload C dX6_simulate_45 3 rfl ?_
  refine z_iload_n C dX6_simulate_47 1 rfl ?_
  refine z_icmp_ge C 83 dX6_simulate_48 (by decide) (fun c48 => ?_) (fun c48 => ?_)
  · replace hf := ip c48 hf
    refine z_sipush C (10000 : Int32) dX6_simulate_83 (by decide) ?_
    refine z_aload_n C dX6_simulate_86 0 rfl ?_
    refine gf_X6_16 C dX6_simulate_87 ?_
    refine z_iconst C (0 : Int32) dX6_simulate_90 (by decide) ?_
    obtain ⟨c91, hf⟩ := chk_some hf
    refine z_iald C pM_a2 c91 dX6_simulate_91 ?_
    refine z_aload_n C dX6_simulate_92 0 rfl ?_
    refine gf_X6_13 C dX6_simulate_93 ?_
    refine z_iconst C (0 : Int32) dX6_simulate_96 (by decide) ?_
    obtain ⟨c97, hf⟩ := chk_some hf
    refine z_iald C pM_a1 c97 dX6_simulate_97 ?_
    refine z_isub C dX6_simulate_98 ?_
    refine z_imul C dX6_simulate_99 ?_
    refine z_bipush C (100 : Int32) dX6_simulate_100 (by decide) ?_
    refine z_aload_n C dX6_simulate_102 0 rfl ?_
    refine gf_X6_16 C dX6_simulate_103 ?_
    refine z_iconst C (5 : Int32) dX6_simulate_106 (by decide) ?_
    obtain ⟨c107, hf⟩ := chk_some hf
    refine z_iald C pM_a2 c107 dX6_simulate_107 ?_
    refine z_imul C dX6_simulate_108 ?_
    refine z_iadd C dX6_simulate_109 ?_
    refine z_aload_n C dX6_simulate_110 0 rfl ?_
    refine gf_X6_16 C dX6_simulate_111 ?_
    refine z_iconst C (4 : Int32) dX6_simulate_114 (by decide) ?_
    obtain ⟨c115, hf⟩ := chk_some hf
    refine z_iald C pM_a2 c115 dX6_simulate_115 ?_
    refine z_iadd C dX6_simulate_116 ?_
    obtain rfl := Option.some.inj hf
    exact z_ireturn C dX6_simulate_117
  · replace hf := iN c48 hf
    refine z_lload C dX6_simulate_51 2 rfl ?_
    refine z_ldc2 C (6364136223846793005 : Int64) dX6_simulate_53 cn_X6_105 ?_
    refine z_lmul C dX6_simulate_56 ?_
    refine z_ldc2 C (1442695040888963407 : Int64) dX6_simulate_57 cn_X6_107 ?_
    refine z_ladd C dX6_simulate_60 ?_
    obtain ⟨v1, ev1, hf⟩ := st_some hf
    refine z_stk (congrArg (fun z => Value.long z :: []) ev1.symm) ?_
    refine z_lstore (lv' := [(4, .long v1), (0, .ref m), (3, .int x3), (6, .int x6)]) C dX6_simulate_61 (by decide) rfl ?_
    refine z_aload_n C dX6_simulate_63 1 rfl ?_
    refine z_aload_n C dX6_simulate_64 1 rfl ?_
    refine gf_X6_16 C dX6_simulate_65 ?_
    refine z_lload C dX6_simulate_68 0 rfl ?_
    refine z_bipush C (33 : Int32) dX6_simulate_70 (by decide) ?_
    refine z_lushr C dX6_simulate_72 ?_
    refine z_l2i C dX6_simulate_73 ?_
    obtain ⟨q74, hq74, hf⟩ := bd_some hf
    refine iv_X6_257 C [.ref (m + 3), .int ((jlushr v1 (33 : Int32)).toInt32)] [] (ct_X6_turnOf hq74) pM_o rfl (by decide) rfl (Nat.le_of_ble_eq_true rfl) z_k0 dX6_simulate_74 ?_
    refine z_iinc (lv' := [(6, .int (x6 + 1)), (4, .long v1), (0, .ref m), (3, .int x3)]) C dX6_simulate_77 3 (x6 + 1) rfl rfl (by decide) rfl ?_
    refine z_goto C 45 dX6_simulate_80 (by decide) ?_
    exact z_sub [2, 3, 1, 0] rfl (hK45 _ _ _ _ hf)
def f_X6_simulate_b18 (n : Nat) (y1 : Int64) (x3 : Int32)   (M : MS) (s0 : Int32) : Option ((MS) × Int32) :=
  (f_X6_refused M s0).bind (fun q18 => if q18.2 = 0 then ((f_X6_copyState n 217 217 (q18.1.2 1) (q18.1.2 2) (0 : Int32) (0 : Int32)).bind (fun q36 => lo3 (f_X6_simulate_h45 n y1 x3) n (mA q18.1 2 q36) y1 (0 : Int32))) else (some (q18.1, (0 : Int32))))
set_option maxRecDepth 100000 in
set_option maxHeartbeats 4000000 in
theorem w_X6_simulate_b18 {E : zE} {X : zX} {h0 : Hp} {m : Nat} {n : Nat} {y1 : Int64} {x3 : Int32}   (C : zC E X RX6 cX6_simulate 7 (some .int) 10)   {M : MS} {s0 : Int32} {r : ((MS) × Int32)} (hf : f_X6_simulate_b18 n y1 x3 M s0 = some r) : zW E X 7 0 0 (MQ (xb X) (zQ E (some (.int r.2)) (pM E h0 m r.1)) (xa X) (xs X) 0 0 (zA E)) 18 (pM E h0 m M) [(0, .ref m), (1, .long y1), (3, .int x3)] [.int s0, .ref m] := by
  unfold f_X6_simulate_b18 at hf
  obtain ⟨q18, hq18, hf⟩ := bd_some hf
  refine iv_X6_141 C [.int s0] [] (ct_X6_refused hq18) pM_o rfl (by decide) rfl (Nat.le_of_ble_eq_true rfl) z_k0 dX6_simulate_18 ?_
  refine z_if_eq C 26 dX6_simulate_21 (by decide) (fun c21 => ?_) (fun c21 => ?_)
  · replace hf := ip c21 hf
    refine z_aload_n C dX6_simulate_26 0 rfl ?_
    refine gf_X6_13 C dX6_simulate_27 ?_
    refine z_iconst C (0 : Int32) dX6_simulate_30 (by decide) ?_
    refine z_aload_n C dX6_simulate_31 0 rfl ?_
    refine gf_X6_16 C dX6_simulate_32 ?_
    refine z_iconst C (0 : Int32) dX6_simulate_35 (by decide) ?_
    obtain ⟨q36, hq36, hf⟩ := bd_some hf
    refine z_heap (pI_of pM_a2) ?_
    refine iv_X6_194 C [.ref (m + 2), .int (0 : Int32), .ref (m + 3), .int (0 : Int32)] [] (ct_X6_copyState (a1 := (m + 2)) (by omega) pM_a1 hq36) rfl (by decide) rfl (Nat.le_of_ble_eq_true rfl) z_k0 dX6_simulate_36 ?_
    refine z_heap (pM_w2 _) ?_
    refine z_lload_n C dX6_simulate_39 1 rfl ?_
    refine z_lstore (lv' := [(4, .long y1), (0, .ref m), (1, .long y1), (3, .int x3)]) C dX6_simulate_40 (by decide) rfl ?_
    refine z_iconst C (0 : Int32) dX6_simulate_42 (by decide) ?_
    refine z_istore (lv' := [(6, .int (0 : Int32)), (4, .long y1), (0, .ref m), (1, .long y1), (3, .int x3)]) C dX6_simulate_43 (by decide) rfl ?_
    exact z_sub [2, 4, 1, 0] rfl (w_X6_simulate_h45 C n _ _ _ _ hf)
  · replace hf := iN c21 hf
    refine z_iconst C (0 : Int32) dX6_simulate_24 (by decide) ?_
    obtain rfl := Option.some.inj hf
    exact z_ireturn C dX6_simulate_25
def f_X6_simulate (n : Nat) (M : MS) (y1 : Int64) (x3 : Int32) : Option ((MS) × Int32) :=
  (f_X6_in x3.toInt64 (1 : Int64) (200 : Int64)).bind (fun q7 => if q7 = 0 then (f_X6_simulate_b18 n y1 x3 M (1 : Int32)) else (f_X6_simulate_b18 n y1 x3 M (0 : Int32)))
set_option maxRecDepth 100000 in
set_option maxHeartbeats 4000000 in
theorem ct_X6_simulate {E : zE} {l : Launch} {h0 : Hp} {m : Nat} {n : Nat} {M : MS} {y1 : Int64} {x3 : Int32} {r : ((MS) × Int32)}  (hf : f_X6_simulate n M y1 x3 = some r) : zM E l 10 yX6_simulate cX6_simulate 7 (some .int) [.ref m, .long y1, .int x3] (pM E h0 m M) (some (.int r.2)) (pM E h0 m r.1) := by
  refine zM_of (lv := [(0, .ref m), (1, .long y1), (3, .int x3)]) (by decide +kernel) (Nat.le_of_ble_eq_true rfl) rfl (fun X hX C => ?_)
  subst hX
  replace C : zC E X RX6 cX6_simulate 7 (some .int) 10 := C
  unfold f_X6_simulate at hf
  refine z_aload_n C dX6_simulate_0 0 rfl ?_
  refine z_iload_n C dX6_simulate_1 2 rfl ?_
  refine z_i2l C dX6_simulate_2 ?_
  refine z_lconst C (1 : Int64) dX6_simulate_3 (by decide) ?_
  refine z_ldc2 C (200 : Int64) dX6_simulate_4 cn_X6_255 ?_
  obtain ⟨q7, hq7, hf⟩ := bd_some hf
  refine iv_X6_55 C [.long x3.toInt64, .long (1 : Int64), .long (200 : Int64)] [.ref m] (ct_X6_in hq7) rfl (by decide) rfl (Nat.le_of_ble_eq_true rfl) z_k0 dX6_simulate_7 ?_
  refine z_if_eq C 17 dX6_simulate_10 (by decide) (fun c10 => ?_) (fun c10 => ?_)
  · replace hf := ip c10 hf
    refine z_iconst C (1 : Int32) dX6_simulate_17 (by decide) ?_
    exact z_sub [0, 1, 2] rfl (w_X6_simulate_b18 C hf)
  · replace hf := iN c10 hf
    refine z_iconst C (0 : Int32) dX6_simulate_13 (by decide) ?_
    refine z_goto C 18 dX6_simulate_14 (by decide) ?_
    exact z_sub [0, 1, 2] rfl (w_X6_simulate_b18 C hf)
/-! X6_save: depth 2 -/
def f_X6_save_b16 (n : Nat) (x1 : Int32)   (M : MS) (s0 : Int32) : Option ((MS) × Int32) :=
  (f_X6_refused M s0).bind (fun q16 => if q16.2 = 0 then ((f_X6_copyState n 217 434 (q16.1.2 1) (q16.1.2 4) (0 : Int32) ((217 : Int32) * x1)).bind (fun q38 => chk (inB x1 2) (stt (mA (mA q16.1 4 q38) 5 (upd ((mA q16.1 4 q38).2 5) x1.toNatClampNeg (vp_nar .boolean (1 : Int32)))) (fun Mn1 => chk (inB (0 : Int32) 217) (some (Mn1, (Mn1.2 1 (0 : Int32).toNatClampNeg))))))) else (some (q16.1, (0 : Int32))))
set_option maxRecDepth 100000 in
set_option maxHeartbeats 4000000 in
theorem w_X6_save_b16 {E : zE} {X : zX} {h0 : Hp} {m : Nat} {n : Nat} {x1 : Int32}   (C : zC E X RX6 cX6_save 2 (some .int) 2)   {M : MS} {s0 : Int32} {r : ((MS) × Int32)} (hf : f_X6_save_b16 n x1 M s0 = some r) : zW E X 2 0 0 (MQ (xb X) (zQ E (some (.int r.2)) (pM E h0 m r.1)) (xa X) (xs X) 0 0 (zA E)) 16 (pM E h0 m M) [(0, .ref m), (1, .int x1)] [.int s0, .ref m] := by
  unfold f_X6_save_b16 at hf
  obtain ⟨q16, hq16, hf⟩ := bd_some hf
  refine iv_X6_141 C [.int s0] [] (ct_X6_refused hq16) pM_o rfl (by decide) rfl (Nat.le_of_ble_eq_true rfl) z_k0 dX6_save_16 ?_
  refine z_if_eq C 24 dX6_save_19 (by decide) (fun c19 => ?_) (fun c19 => ?_)
  · replace hf := ip c19 hf
    refine z_aload_n C dX6_save_24 0 rfl ?_
    refine gf_X6_13 C dX6_save_25 ?_
    refine z_iconst C (0 : Int32) dX6_save_28 (by decide) ?_
    refine z_aload_n C dX6_save_29 0 rfl ?_
    refine gf_X6_22 C dX6_save_30 ?_
    refine z_sipush C (217 : Int32) dX6_save_33 (by decide) ?_
    refine z_iload_n C dX6_save_36 1 rfl ?_
    refine z_imul C dX6_save_37 ?_
    obtain ⟨q38, hq38, hf⟩ := bd_some hf
    refine z_heap (pI_of pM_a4) ?_
    refine iv_X6_194 C [.ref (m + 2), .int (0 : Int32), .ref (m + 5), .int ((217 : Int32) * x1)] [] (ct_X6_copyState (a1 := (m + 2)) (by omega) pM_a1 hq38) rfl (by decide) rfl (Nat.le_of_ble_eq_true rfl) z_k0 dX6_save_38 ?_
    refine z_heap (pM_w4 _) ?_
    refine z_aload_n C dX6_save_41 0 rfl ?_
    refine gf_X6_25 C dX6_save_42 ?_
    refine z_iload_n C dX6_save_45 1 rfl ?_
    refine z_iconst C (1 : Int32) dX6_save_46 (by decide) ?_
    obtain ⟨c47, hf⟩ := chk_some hf
    refine z_zast C pM_a5 c47 dX6_save_47 _ (pM_w5 _) ?_
    obtain ⟨Mn1, eMn1, hf⟩ := st_some hf
    refine z_heap (congrArg (fun z => (pM E h0 m z)) eMn1.symm) ?_
    refine z_aload_n C dX6_save_48 0 rfl ?_
    refine gf_X6_13 C dX6_save_49 ?_
    refine z_iconst C (0 : Int32) dX6_save_52 (by decide) ?_
    obtain ⟨c53, hf⟩ := chk_some hf
    refine z_iald C pM_a1 c53 dX6_save_53 ?_
    obtain rfl := Option.some.inj hf
    exact z_ireturn C dX6_save_54
  · replace hf := iN c19 hf
    refine z_iconst C (0 : Int32) dX6_save_22 (by decide) ?_
    obtain rfl := Option.some.inj hf
    exact z_ireturn C dX6_save_23
def f_X6_save (n : Nat) (M : MS) (x1 : Int32) : Option ((MS) × Int32) :=
  (f_X6_in x1.toInt64 (0 : Int64) (1 : Int64)).bind (fun q5 => if q5 = 0 then (f_X6_save_b16 n x1 M (1 : Int32)) else (f_X6_save_b16 n x1 M (0 : Int32)))
set_option maxRecDepth 100000 in
set_option maxHeartbeats 4000000 in
theorem ct_X6_save {E : zE} {l : Launch} {h0 : Hp} {m : Nat} {n : Nat} {M : MS} {x1 : Int32} {r : ((MS) × Int32)}  (hf : f_X6_save n M x1 = some r) : zM E l 2 yX6_save cX6_save 2 (some .int) [.ref m, .int x1] (pM E h0 m M) (some (.int r.2)) (pM E h0 m r.1) := by
  refine zM_of (lv := [(0, .ref m), (1, .int x1)]) (by decide +kernel) (Nat.le_of_ble_eq_true rfl) rfl (fun X hX C => ?_)
  subst hX
  replace C : zC E X RX6 cX6_save 2 (some .int) 2 := C
  unfold f_X6_save at hf
  refine z_aload_n C dX6_save_0 0 rfl ?_
  refine z_iload_n C dX6_save_1 1 rfl ?_
  refine z_i2l C dX6_save_2 ?_
  refine z_lconst C (0 : Int64) dX6_save_3 (by decide) ?_
  refine z_lconst C (1 : Int64) dX6_save_4 (by decide) ?_
  obtain ⟨q5, hq5, hf⟩ := bd_some hf
  refine iv_X6_55 C [.long x1.toInt64, .long (0 : Int64), .long (1 : Int64)] [.ref m] (ct_X6_in hq5) rfl (by decide) rfl (Nat.le_of_ble_eq_true rfl) z_k0 dX6_save_5 ?_
  refine z_if_eq C 15 dX6_save_8 (by decide) (fun c8 => ?_) (fun c8 => ?_)
  · replace hf := ip c8 hf
    refine z_iconst C (1 : Int32) dX6_save_15 (by decide) ?_
    exact z_sub [0, 1] rfl (w_X6_save_b16 C hf)
  · replace hf := iN c8 hf
    refine z_iconst C (0 : Int32) dX6_save_11 (by decide) ?_
    refine z_goto C 16 dX6_save_12 (by decide) ?_
    exact z_sub [0, 1] rfl (w_X6_save_b16 C hf)
/-! X6_restore: depth 2 -/
def f_X6_restore_b29 (n : Nat) (x1 : Int32)   (M : MS) (s0 : Int32) : Option ((MS) × Int32) :=
  (f_X6_refused M s0).bind (fun q29 => if q29.2 = 0 then ((f_X6_copyState n 434 217 (q29.1.2 4) (q29.1.2 1) ((217 : Int32) * x1) (0 : Int32)).bind (fun q51 => chk (inB (0 : Int32) 217) (some (mS (mA q29.1 1 q51) 2 (0 : Int32), ((mS (mA q29.1 1 q51) 2 (0 : Int32)).2 1 (0 : Int32).toNatClampNeg))))) else (some (q29.1, (0 : Int32))))
set_option maxRecDepth 100000 in
set_option maxHeartbeats 4000000 in
theorem w_X6_restore_b29 {E : zE} {X : zX} {h0 : Hp} {m : Nat} {n : Nat} {x1 : Int32}   (C : zC E X RX6 cX6_restore 2 (some .int) 2)   {M : MS} {s0 : Int32} {r : ((MS) × Int32)} (hf : f_X6_restore_b29 n x1 M s0 = some r) : zW E X 2 0 0 (MQ (xb X) (zQ E (some (.int r.2)) (pM E h0 m r.1)) (xa X) (xs X) 0 0 (zA E)) 29 (pM E h0 m M) [(0, .ref m), (1, .int x1)] [.int s0, .ref m] := by
  unfold f_X6_restore_b29 at hf
  obtain ⟨q29, hq29, hf⟩ := bd_some hf
  refine iv_X6_141 C [.int s0] [] (ct_X6_refused hq29) pM_o rfl (by decide) rfl (Nat.le_of_ble_eq_true rfl) z_k0 dX6_restore_29 ?_
  refine z_if_eq C 37 dX6_restore_32 (by decide) (fun c32 => ?_) (fun c32 => ?_)
  · replace hf := ip c32 hf
    refine z_aload_n C dX6_restore_37 0 rfl ?_
    refine gf_X6_22 C dX6_restore_38 ?_
    refine z_sipush C (217 : Int32) dX6_restore_41 (by decide) ?_
    refine z_iload_n C dX6_restore_44 1 rfl ?_
    refine z_imul C dX6_restore_45 ?_
    refine z_aload_n C dX6_restore_46 0 rfl ?_
    refine gf_X6_13 C dX6_restore_47 ?_
    refine z_iconst C (0 : Int32) dX6_restore_50 (by decide) ?_
    obtain ⟨q51, hq51, hf⟩ := bd_some hf
    refine z_heap (pI_of pM_a1) ?_
    refine iv_X6_194 C [.ref (m + 5), .int ((217 : Int32) * x1), .ref (m + 2), .int (0 : Int32)] [] (ct_X6_copyState (a1 := (m + 5)) (by omega) pM_a4 hq51) rfl (by decide) rfl (Nat.le_of_ble_eq_true rfl) z_k0 dX6_restore_51 ?_
    refine z_heap (pM_w1 _) ?_
    refine z_aload_n C dX6_restore_54 0 rfl ?_
    refine z_iconst C (0 : Int32) dX6_restore_55 (by decide) ?_
    refine pf_X6_198 C dX6_restore_56 ?_
    refine z_aload_n C dX6_restore_59 0 rfl ?_
    refine gf_X6_13 C dX6_restore_60 ?_
    refine z_iconst C (0 : Int32) dX6_restore_63 (by decide) ?_
    obtain ⟨c64, hf⟩ := chk_some hf
    refine z_iald C pM_a1 c64 dX6_restore_64 ?_
    obtain rfl := Option.some.inj hf
    exact z_ireturn C dX6_restore_65
  · replace hf := iN c32 hf
    refine z_iconst C (0 : Int32) dX6_restore_35 (by decide) ?_
    obtain rfl := Option.some.inj hf
    exact z_ireturn C dX6_restore_36
def f_X6_restore (n : Nat) (M : MS) (x1 : Int32) : Option ((MS) × Int32) :=
  (f_X6_in x1.toInt64 (0 : Int64) (1 : Int64)).bind (fun q5 => if q5 = 0 then (f_X6_restore_b29 n x1 M (1 : Int32)) else (chk (inB x1 2) (if (M.2 5 x1.toNatClampNeg) = 0 then (f_X6_restore_b29 n x1 M (2 : Int32)) else (f_X6_restore_b29 n x1 M (0 : Int32)))))
set_option maxRecDepth 100000 in
set_option maxHeartbeats 4000000 in
theorem ct_X6_restore {E : zE} {l : Launch} {h0 : Hp} {m : Nat} {n : Nat} {M : MS} {x1 : Int32} {r : ((MS) × Int32)}  (hf : f_X6_restore n M x1 = some r) : zM E l 2 yX6_restore cX6_restore 2 (some .int) [.ref m, .int x1] (pM E h0 m M) (some (.int r.2)) (pM E h0 m r.1) := by
  refine zM_of (lv := [(0, .ref m), (1, .int x1)]) (by decide +kernel) (Nat.le_of_ble_eq_true rfl) rfl (fun X hX C => ?_)
  subst hX
  replace C : zC E X RX6 cX6_restore 2 (some .int) 2 := C
  unfold f_X6_restore at hf
  refine z_aload_n C dX6_restore_0 0 rfl ?_
  refine z_iload_n C dX6_restore_1 1 rfl ?_
  refine z_i2l C dX6_restore_2 ?_
  refine z_lconst C (0 : Int64) dX6_restore_3 (by decide) ?_
  refine z_lconst C (1 : Int64) dX6_restore_4 (by decide) ?_
  obtain ⟨q5, hq5, hf⟩ := bd_some hf
  refine iv_X6_55 C [.long x1.toInt64, .long (0 : Int64), .long (1 : Int64)] [.ref m] (ct_X6_in hq5) rfl (by decide) rfl (Nat.le_of_ble_eq_true rfl) z_k0 dX6_restore_5 ?_
  refine z_if_ne C 15 dX6_restore_8 (by decide) (fun c8 => ?_) (fun c8 => ?_)
  · replace hf := iN c8 hf
    refine z_aload_n C dX6_restore_15 0 rfl ?_
    refine gf_X6_25 C dX6_restore_16 ?_
    refine z_iload_n C dX6_restore_19 1 rfl ?_
    obtain ⟨c20, hf⟩ := chk_some hf
    refine z_zald C pM_a5 c20 dX6_restore_20 ?_
    refine z_if_ne C 28 dX6_restore_21 (by decide) (fun c21 => ?_) (fun c21 => ?_)
    · replace hf := iN c21 hf
      refine z_iconst C (0 : Int32) dX6_restore_28 (by decide) ?_
      exact z_sub [0, 1] rfl (w_X6_restore_b29 C hf)
    · replace hf := ip c21 hf
      refine z_iconst C (2 : Int32) dX6_restore_24 (by decide) ?_
      refine z_goto C 29 dX6_restore_25 (by decide) ?_
      exact z_sub [0, 1] rfl (w_X6_restore_b29 C hf)
  · replace hf := ip c8 hf
    refine z_iconst C (1 : Int32) dX6_restore_11 (by decide) ?_
    refine z_goto C 29 dX6_restore_12 (by decide) ?_
    exact z_sub [0, 1] rfl (w_X6_restore_b29 C hf)
