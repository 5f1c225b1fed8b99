/-! X4_isFull: depth 1 -/
def f_X4_isFull (T : TS) : Option Int32 :=
  if T.1 < (120 : Int32) then (some (0 : Int32)) else (some (1 : Int32))
set_option maxRecDepth 100000 in
set_option maxHeartbeats 4000000 in
theorem ct_X4_isFull {E : zE} {l : Launch} {h0 : Hp} {a : Nat} {T : TS} {r : Int32}  (hf : f_X4_isFull T = some r) : zM E l 1 yX4_isFull cX4_isFull 1 (some .boolean) [.ref a] (pT E h0 a T) (some (.int r)) (pT E h0 a T) := by
  refine zM_of (lv := [(0, .ref a)]) (by decide +kernel) (Nat.le_of_ble_eq_true rfl) rfl (fun X hX C => ?_)
  subst hX
  replace C : zC E X RX4 cX4_isFull 1 (some .boolean) 1 := C
  unfold f_X4_isFull at hf
  refine z_aload_n C dX4_isFull_0 0 rfl ?_
  refine gf_X4_15 C dX4_isFull_1 ?_
  refine z_bipush C (120 : Int32) dX4_isFull_4 (by decide) ?_
  refine z_icmp_lt C 13 dX4_isFull_6 (by decide) (fun c6 => ?_) (fun c6 => ?_)
  · replace hf := ip c6 hf
    refine z_iconst C (0 : Int32) dX4_isFull_13 (by decide) ?_
    obtain rfl := Option.some.inj hf
    exact z_zreturn (v := (0 : Int32)) C (by decide) dX4_isFull_14
  · replace hf := iN c6 hf
    refine z_iconst C (1 : Int32) dX4_isFull_9 (by decide) ?_
    refine z_goto C 14 dX4_isFull_10 (by decide) ?_
    obtain rfl := Option.some.inj hf
    exact z_zreturn (v := (1 : Int32)) C (by decide) dX4_isFull_14
/-! X4_size: depth 1 -/
def f_X4_size (T : TS) : Option Int32 :=
  some T.1
set_option maxRecDepth 100000 in
set_option maxHeartbeats 4000000 in
theorem ct_X4_size {E : zE} {l : Launch} {h0 : Hp} {a : Nat} {T : TS} {r : Int32}  (hf : f_X4_size T = some r) : zM E l 1 yX4_size cX4_size 1 (some .int) [.ref a] (pT E h0 a T) (some (.int r)) (pT E h0 a T) := by
  refine zM_of (lv := [(0, .ref a)]) (by decide +kernel) (Nat.le_of_ble_eq_true rfl) rfl (fun X hX C => ?_)
  subst hX
  replace C : zC E X RX4 cX4_size 1 (some .int) 1 := C
  unfold f_X4_size at hf
  refine z_aload_n C dX4_size_0 0 rfl ?_
  refine gf_X4_15 C dX4_size_1 ?_
  obtain rfl := Option.some.inj hf
  exact z_ireturn C dX4_size_4
/-! X4_add: depth 1 -/
def f_X4_add_b36 (x1 : Int32)   (T : TS) : Option ((TS) × Int32) :=
  some (T, T.1)
set_option maxRecDepth 100000 in
set_option maxHeartbeats 4000000 in
theorem w_X4_add_b36 {E : zE} {X : zX} {h0 : Hp} {a : Nat} {x1 : Int32}   (C : zC E X RX4 cX4_add 2 (some .int) 1)   {T : TS} {r : ((TS) × Int32)} (hf : f_X4_add_b36 x1 T = some r) : zW E X 2 0 0 (MQ (xb X) (zQ E (some (.int r.2)) (pT E h0 a r.1)) (xa X) (xs X) 0 0 (zA E)) 36 (pT E h0 a T) [(0, .ref a)] [] := by
  unfold f_X4_add_b36 at hf
  refine z_aload_n C dX4_add_36 0 rfl ?_
  refine gf_X4_15 C dX4_add_37 ?_
  obtain rfl := Option.some.inj hf
  exact z_ireturn C dX4_add_40
def f_X4_add (T : TS) (x1 : Int32) : Option ((TS) × Int32) :=
  if T.1 < 0 then (f_X4_add_b36 x1 T) else (if (120 : Int32) ≤ T.1 then (f_X4_add_b36 x1 T) else (chk (inB T.1 120) (stt ((((T.1, upd (T.2) T.1.toNatClampNeg x1).1 + (1 : Int32)), (T.1, upd (T.2) T.1.toNatClampNeg x1).2)) (fun Tn1 => f_X4_add_b36 x1 Tn1))))
set_option maxRecDepth 100000 in
set_option maxHeartbeats 4000000 in
theorem ct_X4_add {E : zE} {l : Launch} {h0 : Hp} {a : Nat} {T : TS} {x1 : Int32} {r : ((TS) × Int32)}  (hf : f_X4_add T x1 = some r) : zM E l 1 yX4_add cX4_add 2 (some .int) [.ref a, .int x1] (pT E h0 a T) (some (.int r.2)) (pT E h0 a r.1) := by
  refine zM_of (lv := [(0, .ref a), (1, .int x1)]) (by decide +kernel) (Nat.le_of_ble_eq_true rfl) rfl (fun X hX C => ?_)
  subst hX
  replace C : zC E X RX4 cX4_add 2 (some .int) 1 := C
  unfold f_X4_add at hf
  refine z_aload_n C dX4_add_0 0 rfl ?_
  refine gf_X4_15 C dX4_add_1 ?_
  refine z_if_lt C 36 dX4_add_4 (by decide) (fun c4 => ?_) (fun c4 => ?_)
  · replace hf := ip c4 hf
    exact z_sub [0] rfl (w_X4_add_b36 C hf)
  · replace hf := iN c4 hf
    refine z_aload_n C dX4_add_7 0 rfl ?_
    refine gf_X4_15 C dX4_add_8 ?_
    refine z_bipush C (120 : Int32) dX4_add_11 (by decide) ?_
    refine z_icmp_ge C 36 dX4_add_13 (by decide) (fun c13 => ?_) (fun c13 => ?_)
    · replace hf := ip c13 hf
      exact z_sub [0] rfl (w_X4_add_b36 C hf)
    · replace hf := iN c13 hf
      refine z_aload_n C dX4_add_16 0 rfl ?_
      refine gf_X4_11 C dX4_add_17 ?_
      refine z_aload_n C dX4_add_20 0 rfl ?_
      refine gf_X4_15 C dX4_add_21 ?_
      refine z_iload_n C dX4_add_24 1 rfl ?_
      obtain ⟨c25, hf⟩ := chk_some hf
      refine z_iast C pT_a c25 dX4_add_25 _ (pT_w _) ?_
      refine z_aload_n C dX4_add_26 0 rfl ?_
      refine z_dup C dX4_add_27 rfl ?_
      refine gf_X4_15 C dX4_add_28 ?_
      refine z_iconst C (1 : Int32) dX4_add_31 (by decide) ?_
      refine z_iadd C dX4_add_32 ?_
      refine pf_X4_15 C dX4_add_33 ?_
      obtain ⟨Tn1, eTn1, hf⟩ := st_some hf
      refine z_heap (congrArg (fun z => (pT E h0 a z)) eTn1.symm) ?_
      exact z_sub [0] rfl (w_X4_add_b36 C hf)
/-! X4_signAt: depth 1 -/
def f_X4_signAt (T : TS) (x1 : Int32) : Option Int32 :=
  if x1 < 0 then (some (0 : Int32)) else (if T.1 ≤ x1 then (some (0 : Int32)) else (if (120 : Int32) ≤ x1 then (some (0 : Int32)) else (chk (inB x1 120) (some (T.2 x1.toNatClampNeg)))))
set_option maxRecDepth 100000 in
set_option maxHeartbeats 4000000 in
theorem ct_X4_signAt {E : zE} {l : Launch} {h0 : Hp} {a : Nat} {T : TS} {x1 : Int32} {r : Int32}  (hf : f_X4_signAt T x1 = some r) : zM E l 1 yX4_signAt cX4_signAt 2 (some .int) [.ref a, .int x1] (pT E h0 a T) (some (.int r)) (pT E h0 a T) := by
  refine zM_of (lv := [(0, .ref a), (1, .int x1)]) (by decide +kernel) (Nat.le_of_ble_eq_true rfl) rfl (fun X hX C => ?_)
  subst hX
  replace C : zC E X RX4 cX4_signAt 2 (some .int) 1 := C
  unfold f_X4_signAt at hf
  refine z_iload_n C dX4_signAt_0 1 rfl ?_
  refine z_if_lt C 27 dX4_signAt_1 (by decide) (fun c1 => ?_) (fun c1 => ?_)
  · replace hf := ip c1 hf
    refine z_iconst C (0 : Int32) dX4_signAt_27 (by decide) ?_
    obtain rfl := Option.some.inj hf
    exact z_ireturn C dX4_signAt_28
  · replace hf := iN c1 hf
    refine z_iload_n C dX4_signAt_4 1 rfl ?_
    refine z_aload_n C dX4_signAt_5 0 rfl ?_
    refine gf_X4_15 C dX4_signAt_6 ?_
    refine z_icmp_ge C 27 dX4_signAt_9 (by decide) (fun c9 => ?_) (fun c9 => ?_)
    · replace hf := ip c9 hf
      refine z_iconst C (0 : Int32) dX4_signAt_27 (by decide) ?_
      obtain rfl := Option.some.inj hf
      exact z_ireturn C dX4_signAt_28
    · replace hf := iN c9 hf
      refine z_iload_n C dX4_signAt_12 1 rfl ?_
      refine z_bipush C (120 : Int32) dX4_signAt_13 (by decide) ?_
      refine z_icmp_ge C 27 dX4_signAt_15 (by decide) (fun c15 => ?_) (fun c15 => ?_)
      · replace hf := ip c15 hf
        refine z_iconst C (0 : Int32) dX4_signAt_27 (by decide) ?_
        obtain rfl := Option.some.inj hf
        exact z_ireturn C dX4_signAt_28
      · replace hf := iN c15 hf
        refine z_aload_n C dX4_signAt_18 0 rfl ?_
        refine gf_X4_11 C dX4_signAt_19 ?_
        refine z_iload_n C dX4_signAt_22 1 rfl ?_
        obtain ⟨c23, hf⟩ := chk_some hf
        refine z_iald C pT_a c23 dX4_signAt_23 ?_
        refine z_goto C 28 dX4_signAt_24 (by decide) ?_
        obtain rfl := Option.some.inj hf
        exact z_ireturn C dX4_signAt_28
/-! X4_digitAt: depth 2 -/
def f_X4_digitAt (T : TS) (x1 : Int32) : Option Int32 :=
  (f_X4_signAt T x1).bind (fun q2 => some (q2 - (48 : Int32)))
set_option maxRecDepth 100000 in
set_option maxHeartbeats 4000000 in
theorem ct_X4_digitAt {E : zE} {l : Launch} {h0 : Hp} {a : Nat} {T : TS} {x1 : Int32} {r : Int32}  (hf : f_X4_digitAt T x1 = some r) : zM E l 2 yX4_digitAt cX4_digitAt 2 (some .int) [.ref a, .int x1] (pT E h0 a T) (some (.int r)) (pT E h0 a T) := by
  refine zM_of (lv := [(0, .ref a), (1, .int x1)]) (by decide +kernel) (Nat.le_of_ble_eq_true rfl) rfl (fun X hX C => ?_)
  subst hX
  replace C : zC E X RX4 cX4_digitAt 2 (some .int) 2 := C
  unfold f_X4_digitAt at hf
  refine z_aload_n C dX4_digitAt_0 0 rfl ?_
  refine z_iload_n C dX4_digitAt_1 1 rfl ?_
  obtain ⟨q2, hq2, hf⟩ := bd_some hf
  refine iv_X4_19 C [.int x1] [] (ct_X4_signAt hq2) pT_o rfl (by decide) rfl (Nat.le_of_ble_eq_true rfl) z_k0 dX4_digitAt_2 ?_
  refine z_bipush C (48 : Int32) dX4_digitAt_5 (by decide) ?_
  refine z_isub C dX4_digitAt_7 ?_
  obtain rfl := Option.some.inj hf
  exact z_ireturn C dX4_digitAt_8
/-! X4_numberAt: depth 3 -/
def f_X4_numberAt (T : TS) (x1 : Int32) : Option Int32 :=
  (f_X4_digitAt T x1).bind (fun q4 => (f_X4_digitAt T (x1 + (1 : Int32))).bind (fun q12 => some (((10 : Int32) * q4) + q12)))
set_option maxRecDepth 100000 in
set_option maxHeartbeats 4000000 in
theorem ct_X4_numberAt {E : zE} {l : Launch} {h0 : Hp} {a : Nat} {T : TS} {x1 : Int32} {r : Int32}  (hf : f_X4_numberAt T x1 = some r) : zM E l 3 yX4_numberAt cX4_numberAt 2 (some .int) [.ref a, .int x1] (pT E h0 a T) (some (.int r)) (pT E h0 a T) := by
  refine zM_of (lv := [(0, .ref a), (1, .int x1)]) (by decide +kernel) (Nat.le_of_ble_eq_true rfl) rfl (fun X hX C => ?_)
  subst hX
  replace C : zC E X RX4 cX4_numberAt 2 (some .int) 3 := C
  unfold f_X4_numberAt at hf
  refine z_bipush C (10 : Int32) dX4_numberAt_0 (by decide) ?_
  refine z_aload_n C dX4_numberAt_2 0 rfl ?_
  refine z_iload_n C dX4_numberAt_3 1 rfl ?_
  obtain ⟨q4, hq4, hf⟩ := bd_some hf
  refine iv_X4_23 C [.int x1] [.int (10 : Int32)] (ct_X4_digitAt hq4) pT_o rfl (by decide) rfl (Nat.le_of_ble_eq_true rfl) z_k0 dX4_numberAt_4 ?_
  refine z_imul C dX4_numberAt_7 ?_
  refine z_aload_n C dX4_numberAt_8 0 rfl ?_
  refine z_iload_n C dX4_numberAt_9 1 rfl ?_
  refine z_iconst C (1 : Int32) dX4_numberAt_10 (by decide) ?_
  refine z_iadd C dX4_numberAt_11 ?_
  obtain ⟨q12, hq12, hf⟩ := bd_some hf
  refine iv_X4_23 C [.int (x1 + (1 : Int32))] [.int ((10 : Int32) * q4)] (ct_X4_digitAt hq12) pT_o rfl (by decide) rfl (Nat.le_of_ble_eq_true rfl) z_k0 dX4_numberAt_12 ?_
  refine z_iadd C dX4_numberAt_15 ?_
  obtain rfl := Option.some.inj hf
  exact z_ireturn C dX4_numberAt_16
/-! X4_isDigit: depth 3 -/
def f_X4_isDigit (T : TS) (x1 : Int32) (x2 : Int32) (x3 : Int32) : Option Int32 :=
  (f_X4_digitAt T x1).bind (fun q2 => if q2 < x2 then (some (0 : Int32)) else ((f_X4_digitAt T x1).bind (fun q11 => if x3 < q11 then (some (0 : Int32)) else (some (1 : Int32)))))
set_option maxRecDepth 100000 in
set_option maxHeartbeats 4000000 in
theorem ct_X4_isDigit {E : zE} {l : Launch} {h0 : Hp} {a : Nat} {T : TS} {x1 : Int32} {x2 : Int32} {x3 : Int32} {r : Int32}  (hf : f_X4_isDigit T x1 x2 x3 = some r) : zM E l 3 yX4_isDigit cX4_isDigit 4 (some .boolean) [.ref a, .int x1, .int x2, .int x3] (pT E h0 a T) (some (.int r)) (pT E h0 a T) := by
  refine zM_of (lv := [(0, .ref a), (1, .int x1), (2, .int x2), (3, .int x3)]) (by decide +kernel) (Nat.le_of_ble_eq_true rfl) rfl (fun X hX C => ?_)
  subst hX
  replace C : zC E X RX4 cX4_isDigit 4 (some .boolean) 3 := C
  unfold f_X4_isDigit at hf
  refine z_aload_n C dX4_isDigit_0 0 rfl ?_
  refine z_iload_n C dX4_isDigit_1 1 rfl ?_
  obtain ⟨q2, hq2, hf⟩ := bd_some hf
  refine iv_X4_23 C [.int x1] [] (ct_X4_digitAt hq2) pT_o rfl (by decide) rfl (Nat.le_of_ble_eq_true rfl) z_k0 dX4_isDigit_2 ?_
  refine z_iload_n C dX4_isDigit_5 2 rfl ?_
  refine z_icmp_lt C 22 dX4_isDigit_6 (by decide) (fun c6 => ?_) (fun c6 => ?_)
  · replace hf := ip c6 hf
    refine z_iconst C (0 : Int32) dX4_isDigit_22 (by decide) ?_
    obtain rfl := Option.some.inj hf
    exact z_zreturn (v := (0 : Int32)) C (by decide) dX4_isDigit_23
  · replace hf := iN c6 hf
    refine z_aload_n C dX4_isDigit_9 0 rfl ?_
    refine z_iload_n C dX4_isDigit_10 1 rfl ?_
    obtain ⟨q11, hq11, hf⟩ := bd_some hf
    refine iv_X4_23 C [.int x1] [] (ct_X4_digitAt hq11) pT_o rfl (by decide) rfl (Nat.le_of_ble_eq_true rfl) z_k0 dX4_isDigit_11 ?_
    refine z_iload_n C dX4_isDigit_14 3 rfl ?_
    refine z_icmp_gt C 22 dX4_isDigit_15 (by decide) (fun c15 => ?_) (fun c15 => ?_)
    · replace hf := ip c15 hf
      refine z_iconst C (0 : Int32) dX4_isDigit_22 (by decide) ?_
      obtain rfl := Option.some.inj hf
      exact z_zreturn (v := (0 : Int32)) C (by decide) dX4_isDigit_23
    · replace hf := iN c15 hf
      refine z_iconst C (1 : Int32) dX4_isDigit_18 (by decide) ?_
      refine z_goto C 23 dX4_isDigit_19 (by decide) ?_
      obtain rfl := Option.some.inj hf
      exact z_zreturn (v := (1 : Int32)) C (by decide) dX4_isDigit_23
/-! X4_lengthOfCommand: depth 1 -/
def f_X4_lengthOfCommand (T : TS) (x0 : Int32) : Option Int32 :=
  if x0 = (98 : Int32) then (some (1 : Int32)) else (if x0 = (100 : Int32) then (some (4 : Int32)) else (if x0 = (112 : Int32) then (some (4 : Int32)) else (if x0 = (115 : Int32) then (some (1 : Int32)) else (if x0 = (119 : Int32) then (some (1 : Int32)) else (some (0 : Int32))))))
set_option maxRecDepth 100000 in
set_option maxHeartbeats 4000000 in
theorem ct_X4_lengthOfCommand {E : zE} {l : Launch} {h0 : Hp} {a : Nat} {T : TS} {x0 : Int32} {r : Int32}  (hf : f_X4_lengthOfCommand T x0 = some r) : zM E l 1 yX4_lengthOfCommand cX4_lengthOfCommand 1 (some .int) [.int x0] (pT E h0 a T) (some (.int r)) (pT E h0 a T) := by
  refine zM_of (lv := [(0, .int x0)]) (by decide +kernel) (Nat.le_of_ble_eq_true rfl) rfl (fun X hX C => ?_)
  subst hX
  replace C : zC E X RX4 cX4_lengthOfCommand 1 (some .int) 1 := C
  unfold f_X4_lengthOfCommand at hf
  refine z_iload_n C dX4_lengthOfCommand_0 0 rfl ?_
  by_cases e1_0 : x0 = (98 : Int32)
  · replace hf := ip e1_0 hf
    refine z_stk (congrArg (fun z => Value.int z :: []) e1_0) ?_
    refine z_lookup C 53 54 dX4_lengthOfCommand_1 (by decide) (by decide) (by decide) ?_
    refine z_iconst C (1 : Int32) dX4_lengthOfCommand_54 (by decide) ?_
    obtain rfl := Option.some.inj hf
    exact z_ireturn C dX4_lengthOfCommand_55
  replace hf := iN e1_0 hf
  by_cases e1_1 : x0 = (100 : Int32)
  · replace hf := ip e1_1 hf
    refine z_stk (congrArg (fun z => Value.int z :: []) e1_1) ?_
    refine z_lookup C 51 52 dX4_lengthOfCommand_1 (by decide) (by decide) (by decide) ?_
    refine z_iconst C (4 : Int32) dX4_lengthOfCommand_52 (by decide) ?_
    obtain rfl := Option.some.inj hf
    exact z_ireturn C dX4_lengthOfCommand_53
  replace hf := iN e1_1 hf
  by_cases e1_2 : x0 = (112 : Int32)
  · replace hf := ip e1_2 hf
    refine z_stk (congrArg (fun z => Value.int z :: []) e1_2) ?_
    refine z_lookup C 51 52 dX4_lengthOfCommand_1 (by decide) (by decide) (by decide) ?_
    refine z_iconst C (4 : Int32) dX4_lengthOfCommand_52 (by decide) ?_
    obtain rfl := Option.some.inj hf
    exact z_ireturn C dX4_lengthOfCommand_53
  replace hf := iN e1_2 hf
  by_cases e1_3 : x0 = (115 : Int32)
  · replace hf := ip e1_3 hf
    refine z_stk (congrArg (fun z => Value.int z :: []) e1_3) ?_
    refine z_lookup C 53 54 dX4_lengthOfCommand_1 (by decide) (by decide) (by decide) ?_
    refine z_iconst C (1 : Int32) dX4_lengthOfCommand_54 (by decide) ?_
    obtain rfl := Option.some.inj hf
    exact z_ireturn C dX4_lengthOfCommand_55
  replace hf := iN e1_3 hf
  by_cases e1_4 : x0 = (119 : Int32)
  · replace hf := ip e1_4 hf
    refine z_stk (congrArg (fun z => Value.int z :: []) e1_4) ?_
    refine z_lookup C 53 54 dX4_lengthOfCommand_1 (by decide) (by decide) (by decide) ?_
    refine z_iconst C (1 : Int32) dX4_lengthOfCommand_54 (by decide) ?_
    obtain rfl := Option.some.inj hf
    exact z_ireturn C dX4_lengthOfCommand_55
  replace hf := iN e1_4 hf
  refine z_lookup C (55) 56 dX4_lengthOfCommand_1 (by decide) (by have n0 := ne_toInt (v := (98 : Int32)) (z := 98) (by decide) e1_0; have n1 := ne_toInt (v := (100 : Int32)) (z := 100) (by decide) e1_1; have n2 := ne_toInt (v := (112 : Int32)) (z := 112) (by decide) e1_2; have n3 := ne_toInt (v := (115 : Int32)) (z := 115) (by decide) e1_3; have n4 := ne_toInt (v := (119 : Int32)) (z := 119) (by decide) e1_4; simp [Op.lookupswitch.offset, Ne.symm n0, Ne.symm n1, Ne.symm n2, Ne.symm n3, Ne.symm n4]) (by decide) ?_
  refine z_iconst C (0 : Int32) dX4_lengthOfCommand_56 (by decide) ?_
  obtain rfl := Option.some.inj hf
  exact z_ireturn C dX4_lengthOfCommand_57
/-! X4_isAllowed: depth 4 -/
def f_X4_isAllowed_b126 (T : TS) (x1 : Int32) (x2 : Int32)    : Option Int32 :=
  some (1 : Int32)
set_option maxRecDepth 100000 in
set_option maxHeartbeats 4000000 in
theorem w_X4_isAllowed_b126 {E : zE} {X : zX} {h0 : Hp} {a : Nat} {T : TS} {x1 : Int32} {x2 : Int32}   (C : zC E X RX4 cX4_isAllowed 3 (some .boolean) 4)    {r : Int32} (hf : f_X4_isAllowed_b126 T x1 x2  = some r) : zW E X 3 0 0 (MQ (xb X) (zQ E (some (.int r)) (pT E h0 a T)) (xa X) (xs X) 0 0 (zA E)) 126 (pT E h0 a T) [] [] := by
  unfold f_X4_isAllowed_b126 at hf
  refine z_iconst C (1 : Int32) dX4_isAllowed_126 (by decide) ?_
  refine z_goto C 131 dX4_isAllowed_127 (by decide) ?_
  obtain rfl := Option.some.inj hf
  exact z_zreturn (v := (1 : Int32)) C (by decide) dX4_isAllowed_131
def f_X4_isAllowed_b102 (T : TS) (x1 : Int32) (x2 : Int32)   (s0 : Int32) (s1 : Int32) (s2 : Int32) : Option Int32 :=
  (f_X4_isDigit T s2 s1 s0).bind (fun q102 => chk (q102 = 0 ∨ q102 = 1) (some q102))
set_option maxRecDepth 100000 in
set_option maxHeartbeats 4000000 in
theorem w_X4_isAllowed_b102 {E : zE} {X : zX} {h0 : Hp} {a : Nat} {T : TS} {x1 : Int32} {x2 : Int32}   (C : zC E X RX4 cX4_isAllowed 3 (some .boolean) 4)   {s0 : Int32} {s1 : Int32} {s2 : Int32} {r : Int32} (hf : f_X4_isAllowed_b102 T x1 x2 s0 s1 s2 = some r) : zW E X 3 0 0 (MQ (xb X) (zQ E (some (.int r)) (pT E h0 a T)) (xa X) (xs X) 0 0 (zA E)) 102 (pT E h0 a T) [] [.int s0, .int s1, .int s2, .ref a] := by
  unfold f_X4_isAllowed_b102 at hf
  obtain ⟨q102, hq102, hf⟩ := bd_some hf
  refine iv_X4_36 C [.int s2, .int s1, .int s0] [] (ct_X4_isDigit hq102) pT_o rfl (by decide) rfl (Nat.le_of_ble_eq_true rfl) z_k0 dX4_isAllowed_102 ?_
  obtain ⟨c105, hf⟩ := chk_some hf
  obtain rfl := Option.some.inj hf
  exact z_zreturn C c105 dX4_isAllowed_105
def f_X4_isAllowed (T : TS) (x1 : Int32) (x2 : Int32) : Option Int32 :=
  if x2 = x1 then ((f_X4_signAt T x2).bind (fun q7 => (f_X4_lengthOfCommand T q7).bind (fun q10 => if q10 ≤ 0 then (some (0 : Int32)) else (some (1 : Int32))))) else ((f_X4_signAt T x1).bind (fun q24 => if q24 = (100 : Int32) then (if x2 = (x1 + (1 : Int32)) then ((f_X4_isDigit T x2 (2 : Int32) (4 : Int32)).bind (fun q43 => chk (q43 = 0 ∨ q43 = 1) (some q43))) else ((f_X4_isDigit T x2 (0 : Int32) (9 : Int32)).bind (fun q54 => chk (q54 = 0 ∨ q54 = 1) (some q54)))) else (if x2 = (x1 + (1 : Int32)) then ((f_X4_isDigit T x2 (0 : Int32) (2 : Int32)).bind (fun q69 => chk (q69 = 0 ∨ q69 = 1) (some q69))) else (if x2 = (x1 + (2 : Int32)) then ((f_X4_signAt T (x1 + (1 : Int32))).bind (fun q87 => if q87 = (50 : Int32) then (f_X4_isAllowed_b102 T x1 x2 (7 : Int32) (0 : Int32) x2) else (f_X4_isAllowed_b102 T x1 x2 (9 : Int32) (0 : Int32) x2))) else ((f_X4_signAt T x2).bind (fun q108 => if q108 = (114 : Int32) then (f_X4_isAllowed_b126 T x1 x2 ) else ((f_X4_signAt T x2).bind (fun q118 => if q118 = (108 : Int32) then (f_X4_isAllowed_b126 T x1 x2 ) else (some (0 : Int32))))))))))
set_option maxRecDepth 100000 in
set_option maxHeartbeats 4000000 in
theorem ct_X4_isAllowed {E : zE} {l : Launch} {h0 : Hp} {a : Nat} {T : TS} {x1 : Int32} {x2 : Int32} {r : Int32}  (hf : f_X4_isAllowed T x1 x2 = some r) : zM E l 4 yX4_isAllowed cX4_isAllowed 3 (some .boolean) [.ref a, .int x1, .int x2] (pT E h0 a T) (some (.int r)) (pT E h0 a T) := by
  refine zM_of (lv := [(0, .ref a), (1, .int x1), (2, .int x2)]) (by decide +kernel) (Nat.le_of_ble_eq_true rfl) rfl (fun X hX C => ?_)
  subst hX
  replace C : zC E X RX4 cX4_isAllowed 3 (some .boolean) 4 := C
  unfold f_X4_isAllowed at hf
  refine z_iload_n C dX4_isAllowed_0 2 rfl ?_
  refine z_iload_n C dX4_isAllowed_1 1 rfl ?_
  refine z_icmp_ne C 22 dX4_isAllowed_2 (by decide) (fun c2 => ?_) (fun c2 => ?_)
  · replace hf := iN c2 hf
    refine z_aload_n C dX4_isAllowed_22 0 rfl ?_
    refine z_iload_n C dX4_isAllowed_23 1 rfl ?_
    obtain ⟨q24, hq24, hf⟩ := bd_some hf
    refine iv_X4_19 C [.int x1] [] (ct_X4_signAt hq24) pT_o rfl (by decide) rfl (Nat.le_of_ble_eq_true rfl) z_k0 dX4_isAllowed_24 ?_
    refine z_bipush C (100 : Int32) dX4_isAllowed_27 (by decide) ?_
    refine z_icmp_ne C 58 dX4_isAllowed_29 (by decide) (fun c29 => ?_) (fun c29 => ?_)
    · replace hf := iN c29 hf
      refine z_iload_n C dX4_isAllowed_58 2 rfl ?_
      refine z_iload_n C dX4_isAllowed_59 1 rfl ?_
      refine z_iconst C (1 : Int32) dX4_isAllowed_60 (by decide) ?_
      refine z_iadd C dX4_isAllowed_61 ?_
      refine z_icmp_ne C 73 dX4_isAllowed_62 (by decide) (fun c62 => ?_) (fun c62 => ?_)
      · replace hf := iN c62 hf
        refine z_iload_n C dX4_isAllowed_73 2 rfl ?_
        refine z_iload_n C dX4_isAllowed_74 1 rfl ?_
        refine z_iconst C (2 : Int32) dX4_isAllowed_75 (by decide) ?_
        refine z_iadd C dX4_isAllowed_76 ?_
        refine z_icmp_ne C 106 dX4_isAllowed_77 (by decide) (fun c77 => ?_) (fun c77 => ?_)
        · replace hf := iN c77 hf
          refine z_aload_n C dX4_isAllowed_106 0 rfl ?_
          refine z_iload_n C dX4_isAllowed_107 2 rfl ?_
          obtain ⟨q108, hq108, hf⟩ := bd_some hf
          refine iv_X4_19 C [.int x2] [] (ct_X4_signAt hq108) pT_o rfl (by decide) rfl (Nat.le_of_ble_eq_true rfl) z_k0 dX4_isAllowed_108 ?_
          refine z_bipush C (114 : Int32) dX4_isAllowed_111 (by decide) ?_
          refine z_icmp_eq C 126 dX4_isAllowed_113 (by decide) (fun c113 => ?_) (fun c113 => ?_)
          · replace hf := ip c113 hf
            exact z_sub [] rfl (w_X4_isAllowed_b126 C hf)
          · replace hf := iN c113 hf
            refine z_aload_n C dX4_isAllowed_116 0 rfl ?_
            refine z_iload_n C dX4_isAllowed_117 2 rfl ?_
            obtain ⟨q118, hq118, hf⟩ := bd_some hf
            refine iv_X4_19 C [.int x2] [] (ct_X4_signAt hq118) pT_o rfl (by decide) rfl (Nat.le_of_ble_eq_true rfl) z_k0 dX4_isAllowed_118 ?_
            refine z_bipush C (108 : Int32) dX4_isAllowed_121 (by decide) ?_
            refine z_icmp_ne C 130 dX4_isAllowed_123 (by decide) (fun c123 => ?_) (fun c123 => ?_)
            · replace hf := iN c123 hf
              refine z_iconst C (0 : Int32) dX4_isAllowed_130 (by decide) ?_
              obtain rfl := Option.some.inj hf
              exact z_zreturn (v := (0 : Int32)) C (by decide) dX4_isAllowed_131
            · replace hf := ip c123 hf
              exact z_sub [] rfl (w_X4_isAllowed_b126 C hf)
        · replace hf := ip c77 hf
          refine z_aload_n C dX4_isAllowed_80 0 rfl ?_
          refine z_iload_n C dX4_isAllowed_81 2 rfl ?_
          refine z_iconst C (0 : Int32) dX4_isAllowed_82 (by decide) ?_
          refine z_aload_n C dX4_isAllowed_83 0 rfl ?_
          refine z_iload_n C dX4_isAllowed_84 1 rfl ?_
          refine z_iconst C (1 : Int32) dX4_isAllowed_85 (by decide) ?_
          refine z_iadd C dX4_isAllowed_86 ?_
          obtain ⟨q87, hq87, hf⟩ := bd_some hf
          refine iv_X4_19 C [.int (x1 + (1 : Int32))] [.int (0 : Int32), .int x2, .ref a] (ct_X4_signAt hq87) pT_o rfl (by decide) rfl (Nat.le_of_ble_eq_true rfl) z_k0 dX4_isAllowed_87 ?_
          refine z_bipush C (50 : Int32) dX4_isAllowed_90 (by decide) ?_
          refine z_icmp_ne C 100 dX4_isAllowed_92 (by decide) (fun c92 => ?_) (fun c92 => ?_)
          · replace hf := iN c92 hf
            refine z_bipush C (9 : Int32) dX4_isAllowed_100 (by decide) ?_
            exact z_sub [] rfl (w_X4_isAllowed_b102 C hf)
          · replace hf := ip c92 hf
            refine z_bipush C (7 : Int32) dX4_isAllowed_95 (by decide) ?_
            refine z_goto C 102 dX4_isAllowed_97 (by decide) ?_
            exact z_sub [] rfl (w_X4_isAllowed_b102 C hf)
      · replace hf := ip c62 hf
        refine z_aload_n C dX4_isAllowed_65 0 rfl ?_
        refine z_iload_n C dX4_isAllowed_66 2 rfl ?_
        refine z_iconst C (0 : Int32) dX4_isAllowed_67 (by decide) ?_
        refine z_iconst C (2 : Int32) dX4_isAllowed_68 (by decide) ?_
        obtain ⟨q69, hq69, hf⟩ := bd_some hf
        refine iv_X4_36 C [.int x2, .int (0 : Int32), .int (2 : Int32)] [] (ct_X4_isDigit hq69) pT_o rfl (by decide) rfl (Nat.le_of_ble_eq_true rfl) z_k0 dX4_isAllowed_69 ?_
        obtain ⟨c72, hf⟩ := chk_some hf
        obtain rfl := Option.some.inj hf
        exact z_zreturn C c72 dX4_isAllowed_72
    · replace hf := ip c29 hf
      refine z_iload_n C dX4_isAllowed_32 2 rfl ?_
      refine z_iload_n C dX4_isAllowed_33 1 rfl ?_
      refine z_iconst C (1 : Int32) dX4_isAllowed_34 (by decide) ?_
      refine z_iadd C dX4_isAllowed_35 ?_
      refine z_icmp_ne C 49 dX4_isAllowed_36 (by decide) (fun c36 => ?_) (fun c36 => ?_)
      · replace hf := iN c36 hf
        refine z_aload_n C dX4_isAllowed_49 0 rfl ?_
        refine z_iload_n C dX4_isAllowed_50 2 rfl ?_
        refine z_iconst C (0 : Int32) dX4_isAllowed_51 (by decide) ?_
        refine z_bipush C (9 : Int32) dX4_isAllowed_52 (by decide) ?_
        obtain ⟨q54, hq54, hf⟩ := bd_some hf
        refine iv_X4_36 C [.int x2, .int (0 : Int32), .int (9 : Int32)] [] (ct_X4_isDigit hq54) pT_o rfl (by decide) rfl (Nat.le_of_ble_eq_true rfl) z_k0 dX4_isAllowed_54 ?_
        obtain ⟨c57, hf⟩ := chk_some hf
        obtain rfl := Option.some.inj hf
        exact z_zreturn C c57 dX4_isAllowed_57
      · replace hf := ip c36 hf
        refine z_aload_n C dX4_isAllowed_39 0 rfl ?_
        refine z_iload_n C dX4_isAllowed_40 2 rfl ?_
        refine z_iconst C (2 : Int32) dX4_isAllowed_41 (by decide) ?_
        refine z_iconst C (4 : Int32) dX4_isAllowed_42 (by decide) ?_
        obtain ⟨q43, hq43, hf⟩ := bd_some hf
        refine iv_X4_36 C [.int x2, .int (2 : Int32), .int (4 : Int32)] [] (ct_X4_isDigit hq43) pT_o rfl (by decide) rfl (Nat.le_of_ble_eq_true rfl) z_k0 dX4_isAllowed_43 ?_
        refine z_goto C 57 dX4_isAllowed_46 (by decide) ?_
        obtain ⟨c57, hf⟩ := chk_some hf
        obtain rfl := Option.some.inj hf
        exact z_zreturn C c57 dX4_isAllowed_57
  · replace hf := ip c2 hf
    refine z_aload_n C dX4_isAllowed_5 0 rfl ?_
    refine z_iload_n C dX4_isAllowed_6 2 rfl ?_
    obtain ⟨q7, hq7, hf⟩ := bd_some hf
    refine iv_X4_19 C [.int x2] [] (ct_X4_signAt hq7) pT_o rfl (by decide) rfl (Nat.le_of_ble_eq_true rfl) z_k0 dX4_isAllowed_7 ?_
    obtain ⟨q10, hq10, hf⟩ := bd_some hf
    refine iv_X4_33 C [.int q7] [] (ct_X4_lengthOfCommand hq10) rfl (by decide) rfl (Nat.le_of_ble_eq_true rfl) z_k0 dX4_isAllowed_10 ?_
    refine z_if_le C 20 dX4_isAllowed_13 (by decide) (fun c13 => ?_) (fun c13 => ?_)
    · replace hf := ip c13 hf
      refine z_iconst C (0 : Int32) dX4_isAllowed_20 (by decide) ?_
      obtain rfl := Option.some.inj hf
      exact z_zreturn (v := (0 : Int32)) C (by decide) dX4_isAllowed_21
    · replace hf := iN c13 hf
      refine z_iconst C (1 : Int32) dX4_isAllowed_16 (by decide) ?_
      refine z_goto C 21 dX4_isAllowed_17 (by decide) ?_
      obtain rfl := Option.some.inj hf
      exact z_zreturn (v := (1 : Int32)) C (by decide) dX4_isAllowed_21
/-! X4_isEndOfCommand: depth 2 -/
def f_X4_isEndOfCommand (T : TS) (x1 : Int32) (x2 : Int32) : Option Int32 :=
  (f_X4_signAt T x1).bind (fun q7 => (f_X4_lengthOfCommand T q7).bind (fun q10 => if ((x2 - x1) + (1 : Int32)) = q10 then (some (1 : Int32)) else (some (0 : Int32))))
set_option maxRecDepth 100000 in
set_option maxHeartbeats 4000000 in
theorem ct_X4_isEndOfCommand {E : zE} {l : Launch} {h0 : Hp} {a : Nat} {T : TS} {x1 : Int32} {x2 : Int32} {r : Int32}  (hf : f_X4_isEndOfCommand T x1 x2 = some r) : zM E l 2 yX4_isEndOfCommand cX4_isEndOfCommand 3 (some .boolean) [.ref a, .int x1, .int x2] (pT E h0 a T) (some (.int r)) (pT E h0 a T) := by
  refine zM_of (lv := [(0, .ref a), (1, .int x1), (2, .int x2)]) (by decide +kernel) (Nat.le_of_ble_eq_true rfl) rfl (fun X hX C => ?_)
  subst hX
  replace C : zC E X RX4 cX4_isEndOfCommand 3 (some .boolean) 2 := C
  unfold f_X4_isEndOfCommand at hf
  refine z_iload_n C dX4_isEndOfCommand_0 2 rfl ?_
  refine z_iload_n C dX4_isEndOfCommand_1 1 rfl ?_
  refine z_isub C dX4_isEndOfCommand_2 ?_
  refine z_iconst C (1 : Int32) dX4_isEndOfCommand_3 (by decide) ?_
  refine z_iadd C dX4_isEndOfCommand_4 ?_
  refine z_aload_n C dX4_isEndOfCommand_5 0 rfl ?_
  refine z_iload_n C dX4_isEndOfCommand_6 1 rfl ?_
  obtain ⟨q7, hq7, hf⟩ := bd_some hf
  refine iv_X4_19 C [.int x1] [.int ((x2 - x1) + (1 : Int32))] (ct_X4_signAt hq7) pT_o rfl (by decide) rfl (Nat.le_of_ble_eq_true rfl) z_k0 dX4_isEndOfCommand_7 ?_
  obtain ⟨q10, hq10, hf⟩ := bd_some hf
  refine iv_X4_33 C [.int q7] [.int ((x2 - x1) + (1 : Int32))] (ct_X4_lengthOfCommand hq10) rfl (by decide) rfl (Nat.le_of_ble_eq_true rfl) z_k0 dX4_isEndOfCommand_10 ?_
  refine z_icmp_ne C 20 dX4_isEndOfCommand_13 (by decide) (fun c13 => ?_) (fun c13 => ?_)
  · replace hf := iN c13 hf
    refine z_iconst C (0 : Int32) dX4_isEndOfCommand_20 (by decide) ?_
    obtain rfl := Option.some.inj hf
    exact z_zreturn (v := (0 : Int32)) C (by decide) dX4_isEndOfCommand_21
  · replace hf := ip c13 hf
    refine z_iconst C (1 : Int32) dX4_isEndOfCommand_16 (by decide) ?_
    refine z_goto C 21 dX4_isEndOfCommand_17 (by decide) ?_
    obtain rfl := Option.some.inj hf
    exact z_zreturn (v := (1 : Int32)) C (by decide) dX4_isEndOfCommand_21
/-! X4_firstError: depth 5 -/
def f_X4_firstError_b48 (n : Nat) (T : TS) (K16 : Int32 → Int32 → Option Int32)  (x1 : Int32) (x2 : Int32) : Option Int32 :=
  K16 x1 (x2 + 1)
set_option maxRecDepth 100000 in
set_option maxHeartbeats 4000000 in
theorem w_X4_firstError_b48 {E : zE} {X : zX} {h0 : Hp} {a : Nat} {n : Nat} {T : TS} {K16 : Int32 → Int32 → Option Int32}  (C : zC E X RX4 cX4_firstError 3 (some .int) 5)  (hK16 : ∀ (x1 : Int32) (x2 : Int32) (r : Int32), K16 x1 x2 = some r → zW E X 3 0 0 (MQ (xb X) (zQ E (some (.int r)) (pT E h0 a T)) (xa X) (xs X) 0 0 (zA E)) 16 (pT E h0 a T) [(0, .ref a), (1, .int x1), (2, .int x2)] []) {x1 : Int32} {x2 : Int32} {r : Int32} (hf : f_X4_firstError_b48 n T K16 x1 x2 = some r) : zW E X 3 0 0 (MQ (xb X) (zQ E (some (.int r)) (pT E h0 a T)) (xa X) (xs X) 0 0 (zA E)) 48 (pT E h0 a T) [(0, .ref a), (1, .int x1), (2, .int x2)] [] := by
  unfold f_X4_firstError_b48 at hf
  refine z_iinc (lv' := [(2, .int (x2 + 1)), (0, .ref a), (1, .int x1)]) C dX4_firstError_48 2 (x2 + 1) rfl rfl (by decide) rfl ?_
  refine z_goto C 16 dX4_firstError_51 (by decide) ?_
  exact z_sub [1, 2, 0] rfl (hK16 _ _ _ hf)
def f_X4_firstError_h16 (n : Nat) (T : TS)  (K16 : Int32 → Int32 → Option Int32) (x1 : Int32) (x2 : Int32) : Option Int32 :=
  if T.1 ≤ x2 then (if x1 = T.1 then (some (-1 : Int32)) else (some T.1)) else ((f_X4_isAllowed T x1 x2).bind (fun q27 => if q27 = 0 then (some x2) else ((f_X4_isEndOfCommand T x1 x2).bind (fun q38 => if q38 = 0 then (f_X4_firstError_b48 n T K16 x1 x2) else (f_X4_firstError_b48 n T K16 (x2 + (1 : Int32)) x2)))))
set_option maxRecDepth 100000 in
set_option maxHeartbeats 4000000 in
theorem w_X4_firstError_h16 {E : zE} {X : zX} {h0 : Hp} {a : Nat} {n : Nat} {T : TS}   (C : zC E X RX4 cX4_firstError 3 (some .int) 5)   : ∀ (q : Nat) (x1 : Int32) (x2 : Int32) (r : Int32), lo2 (f_X4_firstError_h16 n T) q x1 x2 = some r → zW E X 3 0 0 (MQ (xb X) (zQ E (some (.int r)) (pT E h0 a T)) (xa X) (xs X) 0 0 (zA E)) 16 (pT E h0 a T) [(0, .ref a), (1, .int x1), (2, .int x2)] [] := by
  refine lo2_ind _ ?_
  intro K16 hK16 x1 x2 r hf
  unfold f_X4_firstError_h16 at hf
  refine z_iload_n C dX4_firstError_16 2 rfl ?_
  refine z_aload_n C dX4_firstError_17 0 rfl ?_
  refine gf_X4_15 C dX4_firstError_18 ?_
  refine z_icmp_ge C 54 dX4_firstError_21 (by decide) (fun c21 => ?_) (fun c21 => ?_)
  · replace hf := ip c21 hf
    refine z_iload_n C dX4_firstError_54 1 rfl ?_
    refine z_aload_n C dX4_firstError_55 0 rfl ?_
    refine gf_X4_15 C dX4_firstError_56 ?_
    refine z_icmp_ne C 66 dX4_firstError_59 (by decide) (fun c59 => ?_) (fun c59 => ?_)
    · replace hf := iN c59 hf
      refine z_aload_n C dX4_firstError_66 0 rfl ?_
      refine gf_X4_15 C dX4_firstError_67 ?_
      obtain rfl := Option.some.inj hf
      exact z_ireturn C dX4_firstError_70
    · replace hf := ip c59 hf
      refine z_iconst C (-1 : Int32) dX4_firstError_62 (by decide) ?_
      refine z_goto C 70 dX4_firstError_63 (by decide) ?_
      obtain rfl := Option.some.inj hf
      exact z_ireturn C dX4_firstError_70
  · replace hf := iN c21 hf
    refine z_aload_n C dX4_firstError_24 0 rfl ?_
    refine z_iload_n C dX4_firstError_25 1 rfl ?_
    refine z_iload_n C dX4_firstError_26 2 rfl ?_
    obtain ⟨q27, hq27, hf⟩ := bd_some hf
    refine iv_X4_26 C [.int x1, .int x2] [] (ct_X4_isAllowed hq27) pT_o rfl (by decide) rfl (Nat.le_of_ble_eq_true rfl) z_k0 dX4_firstError_27 ?_
    refine z_if_ne C 35 dX4_firstError_30 (by decide) (fun c30 => ?_) (fun c30 => ?_)
    · replace hf := iN c30 hf
      refine z_aload_n C dX4_firstError_35 0 rfl ?_
      refine z_iload_n C dX4_firstError_36 1 rfl ?_
      refine z_iload_n C dX4_firstError_37 2 rfl ?_
      obtain ⟨q38, hq38, hf⟩ := bd_some hf
      refine iv_X4_30 C [.int x1, .int x2] [] (ct_X4_isEndOfCommand hq38) pT_o rfl (by decide) rfl (Nat.le_of_ble_eq_true rfl) z_k0 dX4_firstError_38 ?_
      refine z_if_eq C 48 dX4_firstError_41 (by decide) (fun c41 => ?_) (fun c41 => ?_)
      · replace hf := ip c41 hf
        exact z_sub [0, 1, 2] rfl (w_X4_firstError_b48 C hK16 hf)
      · replace hf := iN c41 hf
        refine z_iload_n C dX4_firstError_44 2 rfl ?_
        refine z_iconst C (1 : Int32) dX4_firstError_45 (by decide) ?_
        refine z_iadd C dX4_firstError_46 ?_
        refine z_istore_n (lv' := [(1, .int (x2 + (1 : Int32))), (0, .ref a), (2, .int x2)]) C dX4_firstError_47 (by decide) rfl ?_
        exact z_sub [1, 0, 2] rfl (w_X4_firstError_b48 C hK16 hf)
    · replace hf := ip c30 hf
      refine z_iload_n C dX4_firstError_33 2 rfl ?_
      obtain rfl := Option.some.inj hf
      exact z_ireturn C dX4_firstError_34
def f_X4_firstError (n : Nat) (T : TS) : Option Int32 :=
  (f_X4_signAt T (0 : Int32)).bind (fun q2 => if q2 = (78 : Int32) then (lo2 (f_X4_firstError_h16 n T) n (1 : Int32) (1 : Int32)) else (some (0 : Int32)))
set_option maxRecDepth 100000 in
set_option maxHeartbeats 4000000 in
theorem ct_X4_firstError {E : zE} {l : Launch} {h0 : Hp} {a : Nat} {n : Nat} {T : TS} {r : Int32}  (hf : f_X4_firstError n T = some r) : zM E l 5 yX4_firstError cX4_firstError 3 (some .int) [.ref a] (pT E h0 a T) (some (.int r)) (pT E h0 a T) := by
  refine zM_of (lv := [(0, .ref a)]) (by decide +kernel) (Nat.le_of_ble_eq_true rfl) rfl (fun X hX C => ?_)
  subst hX
  replace C : zC E X RX4 cX4_firstError 3 (some .int) 5 := C
  unfold f_X4_firstError at hf
  refine z_aload_n C dX4_firstError_0 0 rfl ?_
  refine z_iconst C (0 : Int32) dX4_firstError_1 (by decide) ?_
  obtain ⟨q2, hq2, hf⟩ := bd_some hf
  refine iv_X4_19 C [.int (0 : Int32)] [] (ct_X4_signAt hq2) pT_o rfl (by decide) rfl (Nat.le_of_ble_eq_true rfl) z_k0 dX4_firstError_2 ?_
  refine z_bipush C (78 : Int32) dX4_firstError_5 (by decide) ?_
  refine z_icmp_eq C 12 dX4_firstError_7 (by decide) (fun c7 => ?_) (fun c7 => ?_)
  · replace hf := ip c7 hf
    refine z_iconst C (1 : Int32) dX4_firstError_12 (by decide) ?_
    refine z_istore_n (lv' := [(1, .int (1 : Int32)), (0, .ref a)]) C dX4_firstError_13 (by decide) rfl ?_
    refine z_iconst C (1 : Int32) dX4_firstError_14 (by decide) ?_
    refine z_istore_n (lv' := [(2, .int (1 : Int32)), (1, .int (1 : Int32)), (0, .ref a)]) C dX4_firstError_15 (by decide) rfl ?_
    exact z_sub [2, 1, 0] rfl (w_X4_firstError_h16 C n _ _ _ hf)
  · replace hf := iN c7 hf
    refine z_iconst C (0 : Int32) dX4_firstError_10 (by decide) ?_
    obtain rfl := Option.some.inj hf
    exact z_ireturn C dX4_firstError_11
