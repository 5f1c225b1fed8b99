theorem pI_o {E : zE} {h0 : Hp} {a a1 N : Nat} {f : Nat → Int32} {x : va_E} (hne : a1 ≠ a) (h1 : h0 a1 = some x) : pI E h0 a N f a1 = some x := by simp [pI, hup, hne, h1]
/-! X6_in: depth 1 -/
def f_X6_in (y0 : Int64) (y2 : Int64) (y4 : Int64) : Option Int32 :=
  if (lg_cmp y0 y2) < 0 then (some (0 : Int32)) else (if 0 < (lg_cmp y0 y4) then (some (0 : Int32)) else (some (1 : Int32)))
set_option maxRecDepth 100000 in
set_option maxHeartbeats 4000000 in
theorem ct_X6_in {E : zE} {l : Launch} {h : Hp} {y0 : Int64} {y2 : Int64} {y4 : Int64} {r : Int32}  (hf : f_X6_in y0 y2 y4 = some r) : zM E l 1 yX6_in cX6_in 6 (some .boolean) [.long y0, .long y2, .long y4] h (some (.int r)) h := by
  refine zM_of (lv := [(0, .long y0), (2, .long y2), (4, .long y4)]) (by decide +kernel) (Nat.le_of_ble_eq_true rfl) rfl (fun X hX C => ?_)
  subst hX
  replace C : zC E X RX6 cX6_in 6 (some .boolean) 1 := C
  unfold f_X6_in at hf
  refine z_lload_n C dX6_in_0 0 rfl ?_
  refine z_lload_n C dX6_in_1 1 rfl ?_
  refine z_lcmp C dX6_in_2 ?_
  refine z_if_lt C 17 dX6_in_3 (by decide) (fun c3 => ?_) (fun c3 => ?_)
  · replace hf := ip c3 hf
    refine z_iconst C (0 : Int32) dX6_in_17 (by decide) ?_
    obtain rfl := Option.some.inj hf
    exact z_zreturn (v := (0 : Int32)) C (by decide) dX6_in_18
  · replace hf := iN c3 hf
    refine z_lload_n C dX6_in_6 0 rfl ?_
    refine z_lload C dX6_in_7 2 rfl ?_
    refine z_lcmp C dX6_in_9 ?_
    refine z_if_gt C 17 dX6_in_10 (by decide) (fun c10 => ?_) (fun c10 => ?_)
    · replace hf := ip c10 hf
      refine z_iconst C (0 : Int32) dX6_in_17 (by decide) ?_
      obtain rfl := Option.some.inj hf
      exact z_zreturn (v := (0 : Int32)) C (by decide) dX6_in_18
    · replace hf := iN c10 hf
      refine z_iconst C (1 : Int32) dX6_in_13 (by decide) ?_
      refine z_goto C 18 dX6_in_14 (by decide) ?_
      obtain rfl := Option.some.inj hf
      exact z_zreturn (v := (1 : Int32)) C (by decide) dX6_in_18
/-! X6_copyState: depth 1 -/
def f_X6_copyState_h3 (n : Nat) (N1 : Nat) (N2 : Nat) (f1 : Nat → Int32) (x1 : Int32) (x3 : Int32)  (K3 : (Nat → Int32) → Int32 → Option (Nat → Int32)) (f : Nat → Int32) (x4 : Int32) : Option (Nat → Int32) :=
  if (217 : Int32) ≤ x4 then (some f) else (chk (inB (x1 + x4) N1) (chk (inB (x3 + x4) N2) (K3 (upd (f) (x3 + x4).toNatClampNeg (f1 (x1 + x4).toNatClampNeg)) (x4 + 1))))
set_option maxRecDepth 100000 in
set_option maxHeartbeats 4000000 in
theorem w_X6_copyState_h3 {E : zE} {X : zX} {h0 : Hp} {a1 a : Nat} {n : Nat} {N1 : Nat} {N2 : Nat} {f1 : Nat → Int32} {x1 : Int32} {x3 : Int32}  (hne : a1 ≠ a) (h1 : h0 a1 = some (.inl (zI E, N1, .inl f1))) (C : zC E X RX6 cX6_copyState 5 none 1)   : ∀ (q : Nat) (f : Nat → Int32) (x4 : Int32) (r : (Nat → Int32)), lo2 (f_X6_copyState_h3 n N1 N2 f1 x1 x3) q f x4 = some r → zW E X 5 0 0 (MQ (xb X) (zQ E none (pI E h0 a N2 r)) (xa X) (xs X) 0 0 (zA E)) 3 (pI E h0 a N2 f) [(0, .ref a1), (1, .int x1), (2, .ref a), (3, .int x3), (4, .int x4)] [] := by
  refine lo2_ind _ ?_
  intro K3 hK3 f x4 r hf
  unfold f_X6_copyState_h3 at hf
  refine z_iload C dX6_copyState_3 4 rfl ?_
  refine z_sipush C (217 : Int32) dX6_copyState_5 (by decide) ?_
  refine z_icmp_ge C 29 dX6_copyState_8 (by decide) (fun c8 => ?_) (fun c8 => ?_)
  · replace hf := ip c8 hf
    obtain rfl := Option.some.inj hf
    exact z_return C dX6_copyState_29
  · replace hf := iN c8 hf
    refine z_aload_n C dX6_copyState_11 2 rfl ?_
    refine z_iload_n C dX6_copyState_12 3 rfl ?_
    refine z_iload C dX6_copyState_13 4 rfl ?_
    refine z_iadd C dX6_copyState_15 ?_
    refine z_aload_n C dX6_copyState_16 0 rfl ?_
    refine z_iload_n C dX6_copyState_17 1 rfl ?_
    refine z_iload C dX6_copyState_18 4 rfl ?_
    refine z_iadd C dX6_copyState_20 ?_
    obtain ⟨c21, hf⟩ := chk_some hf
    refine z_iald C (pI_o hne h1) c21 dX6_copyState_21 ?_
    obtain ⟨c22, hf⟩ := chk_some hf
    refine z_iast C pI_a c22 dX6_copyState_22 _ (pI_w _) ?_
    refine z_iinc (lv' := [(4, .int (x4 + 1)), (0, .ref a1), (1, .int x1), (2, .ref a), (3, .int x3)]) C dX6_copyState_23 4 (x4 + 1) rfl rfl (by decide) rfl ?_
    refine z_goto C 3 dX6_copyState_26 (by decide) ?_
    exact z_sub [1, 2, 3, 4, 0] rfl (hK3 _ _ _ hf)
def f_X6_copyState (n : Nat) (N1 : Nat) (N2 : Nat) (f1 : Nat → Int32) (f : Nat → Int32) (x1 : Int32) (x3 : Int32) : Option (Nat → Int32) :=
  lo2 (f_X6_copyState_h3 n N1 N2 f1 x1 x3) n f (0 : Int32)
set_option maxRecDepth 100000 in
set_option maxHeartbeats 4000000 in
theorem ct_X6_copyState {E : zE} {l : Launch} {h0 : Hp} {a1 a : Nat} {n : Nat} {N1 : Nat} {N2 : Nat} {f1 : Nat → Int32} {f : Nat → Int32} {x1 : Int32} {x3 : Int32} {r : (Nat → Int32)} (hne : a1 ≠ a) (h1 : h0 a1 = some (.inl (zI E, N1, .inl f1))) (hf : f_X6_copyState n N1 N2 f1 f x1 x3 = some r) : zM E l 1 yX6_copyState cX6_copyState 5 none [.ref a1, .int x1, .ref a, .int x3] (pI E h0 a N2 f) none (pI E h0 a N2 r) := by
  refine zM_of (lv := [(0, .ref a1), (1, .int x1), (2, .ref a), (3, .int x3)]) (by decide +kernel) (Nat.le_of_ble_eq_true rfl) rfl (fun X hX C => ?_)
  subst hX
  replace C : zC E X RX6 cX6_copyState 5 none 1 := C
  unfold f_X6_copyState at hf
  refine z_iconst C (0 : Int32) dX6_copyState_0 (by decide) ?_
  refine z_istore (lv' := [(4, .int (0 : Int32)), (0, .ref a1), (1, .int x1), (2, .ref a), (3, .int x3)]) C dX6_copyState_1 (by decide) rfl ?_
  exact z_sub [1, 2, 3, 4, 0] rfl (w_X6_copyState_h3 hne h1 C n _ _ _ hf)
/-! X6_clear: depth 1 -/
def f_X6_clear_h26 (n : Nat)  (K26 : (Nat → Int32) → Int32 → Option (Nat → Int32)) (f : Nat → Int32) (x1 : Int32) : Option (Nat → Int32) :=
  if (28 : Int32) ≤ x1 then (some f) else (chk (inB ((21 : Int32) + x1) 217) (K26 (upd (f) ((21 : Int32) + x1).toNatClampNeg (-1 : Int32)) (x1 + 1)))
set_option maxRecDepth 100000 in
set_option maxHeartbeats 4000000 in
theorem w_X6_clear_h26 {E : zE} {X : zX} {h0 : Hp} {a : Nat} {n : Nat}   (C : zC E X RX6 cX6_clear 2 none 1)   : ∀ (q : Nat) (f : Nat → Int32) (x1 : Int32) (r : (Nat → Int32)), lo2 (f_X6_clear_h26 n) q f x1 = some r → zW E X 2 0 0 (MQ (xb X) (zQ E none (pI E h0 a 217 r)) (xa X) (xs X) 0 0 (zA E)) 26 (pI E h0 a 217 f) [(0, .ref a), (1, .int x1)] [] := by
  refine lo2_ind _ ?_
  intro K26 hK26 f x1 r hf
  unfold f_X6_clear_h26 at hf
  refine z_iload_n C dX6_clear_26 1 rfl ?_
  refine z_bipush C (28 : Int32) dX6_clear_27 (by decide) ?_
  refine z_icmp_ge C 45 dX6_clear_29 (by decide) (fun c29 => ?_) (fun c29 => ?_)
  · replace hf := ip c29 hf
    obtain rfl := Option.some.inj hf
    exact z_return C dX6_clear_45
  · replace hf := iN c29 hf
    refine z_aload_n C dX6_clear_32 0 rfl ?_
    refine z_bipush C (21 : Int32) dX6_clear_33 (by decide) ?_
    refine z_iload_n C dX6_clear_35 1 rfl ?_
    refine z_iadd C dX6_clear_36 ?_
    refine z_iconst C (-1 : Int32) dX6_clear_37 (by decide) ?_
    obtain ⟨c38, hf⟩ := chk_some hf
    refine z_iast C pI_a c38 dX6_clear_38 _ (pI_w _) ?_
    refine z_iinc (lv' := [(1, .int (x1 + 1)), (0, .ref a)]) C dX6_clear_39 1 (x1 + 1) rfl rfl (by decide) rfl ?_
    refine z_goto C 26 dX6_clear_42 (by decide) ?_
    exact z_sub [1, 0] rfl (hK26 _ _ _ hf)
def f_X6_clear_h2 (n : Nat)  (K2 : (Nat → Int32) → Int32 → Option (Nat → Int32)) (f : Nat → Int32) (x1 : Int32) : Option (Nat → Int32) :=
  if (217 : Int32) ≤ x1 then (chk (inB (6 : Int32) 217) (lo2 (f_X6_clear_h26 n) n (upd (f) (6 : Int32).toNatClampNeg (-1 : Int32)) (0 : Int32))) else (chk (inB x1 217) (K2 (upd (f) x1.toNatClampNeg (0 : Int32)) (x1 + 1)))
set_option maxRecDepth 100000 in
set_option maxHeartbeats 4000000 in
theorem w_X6_clear_h2 {E : zE} {X : zX} {h0 : Hp} {a : Nat} {n : Nat}   (C : zC E X RX6 cX6_clear 2 none 1)   : ∀ (q : Nat) (f : Nat → Int32) (x1 : Int32) (r : (Nat → Int32)), lo2 (f_X6_clear_h2 n) q f x1 = some r → zW E X 2 0 0 (MQ (xb X) (zQ E none (pI E h0 a 217 r)) (xa X) (xs X) 0 0 (zA E)) 2 (pI E h0 a 217 f) [(0, .ref a), (1, .int x1)] [] := by
  refine lo2_ind _ ?_
  intro K2 hK2 f x1 r hf
  unfold f_X6_clear_h2 at hf
  refine z_iload_n C dX6_clear_2 1 rfl ?_
  refine z_sipush C (217 : Int32) dX6_clear_3 (by decide) ?_
  refine z_icmp_ge C 19 dX6_clear_6 (by decide) (fun c6 => ?_) (fun c6 => ?_)
  · replace hf := ip c6 hf
    refine z_aload_n C dX6_clear_19 0 rfl ?_
    refine z_bipush C (6 : Int32) dX6_clear_20 (by decide) ?_
    refine z_iconst C (-1 : Int32) dX6_clear_22 (by decide) ?_
    obtain ⟨c23, hf⟩ := chk_some hf
    refine z_iast C pI_a c23 dX6_clear_23 _ (pI_w _) ?_
    refine z_iconst C (0 : Int32) dX6_clear_24 (by decide) ?_
    refine z_istore_n (lv' := [(1, .int (0 : Int32)), (0, .ref a)]) C dX6_clear_25 (by decide) rfl ?_
    exact z_sub [1, 0] rfl (w_X6_clear_h26 C n _ _ _ hf)
  · replace hf := iN c6 hf
    refine z_aload_n C dX6_clear_9 0 rfl ?_
    refine z_iload_n C dX6_clear_10 1 rfl ?_
    refine z_iconst C (0 : Int32) dX6_clear_11 (by decide) ?_
    obtain ⟨c12, hf⟩ := chk_some hf
    refine z_iast C pI_a c12 dX6_clear_12 _ (pI_w _) ?_
    refine z_iinc (lv' := [(1, .int (x1 + 1)), (0, .ref a)]) C dX6_clear_13 1 (x1 + 1) rfl rfl (by decide) rfl ?_
    refine z_goto C 2 dX6_clear_16 (by decide) ?_
    exact z_sub [1, 0] rfl (hK2 _ _ _ hf)
def f_X6_clear (n : Nat) (f : Nat → Int32) : Option (Nat → Int32) :=
  lo2 (f_X6_clear_h2 n) n f (0 : Int32)
set_option maxRecDepth 100000 in
set_option maxHeartbeats 4000000 in
theorem ct_X6_clear {E : zE} {l : Launch} {h0 : Hp} {a : Nat} {n : Nat} {f : Nat → Int32} {r : (Nat → Int32)}  (hf : f_X6_clear n f = some r) : zM E l 1 yX6_clear cX6_clear 2 none [.ref a] (pI E h0 a 217 f) none (pI E h0 a 217 r) := by
  refine zM_of (lv := [(0, .ref a)]) (by decide +kernel) (Nat.le_of_ble_eq_true rfl) rfl (fun X hX C => ?_)
  subst hX
  replace C : zC E X RX6 cX6_clear 2 none 1 := C
  unfold f_X6_clear at hf
  refine z_iconst C (0 : Int32) dX6_clear_0 (by decide) ?_
  refine z_istore_n (lv' := [(1, .int (0 : Int32)), (0, .ref a)]) C dX6_clear_1 (by decide) rfl ?_
  exact z_sub [1, 0] rfl (w_X6_clear_h2 C n _ _ _ hf)
/-! X6_lesser: depth 1 -/
def f_X6_lesser_h4 (n : Nat) (x0 : Int32)  (K4 : Int32 → Int32 → Option Int32) (x1 : Int32) (x2 : Int32) : Option Int32 :=
  if x2 < ((7 : Int32) - x1) then (some x1) else (K4 (x1 + 1) (x2 - ((7 : Int32) - x1)))
set_option maxRecDepth 100000 in
set_option maxHeartbeats 4000000 in
theorem w_X6_lesser_h4 {E : zE} {X : zX} {h : Hp} {n : Nat} {x0 : Int32}   (C : zC E X RX6 cX6_lesser 3 (some .int) 1)   : ∀ (q : Nat) (x1 : Int32) (x2 : Int32) (r : Int32), lo2 (f_X6_lesser_h4 n x0) q x1 x2 = some r → zW E X 3 0 0 (MQ (xb X) (zQ E (some (.int r)) h) (xa X) (xs X) 0 0 (zA E)) 4 h [(1, .int x1), (2, .int x2)] [] := by
  refine lo2_ind _ ?_
  intro K4 hK4 x1 x2 r hf
  unfold f_X6_lesser_h4 at hf
  refine z_iload_n C dX6_lesser_4 1 rfl ?_
  refine z_bipush C (7 : Int32) dX6_lesser_5 (by decide) ?_
  refine z_iload_n C dX6_lesser_7 0 rfl ?_
  refine z_isub C dX6_lesser_8 ?_
  refine z_icmp_lt C 25 dX6_lesser_9 (by decide) (fun c9 => ?_) (fun c9 => ?_)
  · replace hf := ip c9 hf
    refine z_iload_n C dX6_lesser_25 0 rfl ?_
    obtain rfl := Option.some.inj hf
    exact z_ireturn C dX6_lesser_26
  · replace hf := iN c9 hf
    refine z_iload_n C dX6_lesser_12 1 rfl ?_
    refine z_bipush C (7 : Int32) dX6_lesser_13 (by decide) ?_
    refine z_iload_n C dX6_lesser_15 0 rfl ?_
    refine z_isub C dX6_lesser_16 ?_
    refine z_isub C dX6_lesser_17 ?_
    refine z_istore_n (lv' := [(2, .int (x2 - ((7 : Int32) - x1))), (1, .int x1)]) C dX6_lesser_18 (by decide) rfl ?_
    refine z_iinc (lv' := [(1, .int (x1 + 1)), (2, .int (x2 - ((7 : Int32) - x1)))]) C dX6_lesser_19 1 (x1 + 1) rfl rfl (by decide) rfl ?_
    refine z_goto C 4 dX6_lesser_22 (by decide) ?_
    exact z_sub [0, 1] rfl (hK4 _ _ _ hf)
def f_X6_lesser (n : Nat) (x0 : Int32) : Option Int32 :=
  lo2 (f_X6_lesser_h4 n x0) n (0 : Int32) x0
set_option maxRecDepth 100000 in
set_option maxHeartbeats 4000000 in
theorem ct_X6_lesser {E : zE} {l : Launch} {h : Hp} {n : Nat} {x0 : Int32} {r : Int32}  (hf : f_X6_lesser n x0 = some r) : zM E l 1 yX6_lesser cX6_lesser 3 (some .int) [.int x0] h (some (.int r)) h := by
  refine zM_of (lv := [(0, .int x0)]) (by decide +kernel) (Nat.le_of_ble_eq_true rfl) rfl (fun X hX C => ?_)
  subst hX
  replace C : zC E X RX6 cX6_lesser 3 (some .int) 1 := C
  unfold f_X6_lesser at hf
  refine z_iconst C (0 : Int32) dX6_lesser_0 (by decide) ?_
  refine z_istore_n (lv' := [(1, .int (0 : Int32)), (0, .int x0)]) C dX6_lesser_1 (by decide) rfl ?_
  refine z_iload_n C dX6_lesser_2 1 rfl ?_
  refine z_istore_n (lv' := [(2, .int x0), (1, .int (0 : Int32)), (0, .int x0)]) C dX6_lesser_3 (by decide) rfl ?_
  exact z_sub [1, 0] rfl (w_X6_lesser_h4 C n _ _ _ hf)
/-! X6_greater: depth 2 -/
def f_X6_greater (n : Nat) (x0 : Int32) : Option Int32 :=
  (f_X6_lesser n x0).bind (fun q1 => chk (¬ (2 : Int32) = 0) (stt ((((7 : Int32) * q1) - ((q1 * (q1 - (1 : Int32))) / (2 : Int32)))) (fun v1 => some ((q1 + x0) - v1))))
set_option maxRecDepth 100000 in
set_option maxHeartbeats 4000000 in
theorem ct_X6_greater {E : zE} {l : Launch} {h : Hp} {n : Nat} {x0 : Int32} {r : Int32}  (hf : f_X6_greater n x0 = some r) : zM E l 2 yX6_greater cX6_greater 3 (some .int) [.int x0] h (some (.int r)) h := by
  refine zM_of (lv := [(0, .int x0)]) (by decide +kernel) (Nat.le_of_ble_eq_true rfl) rfl (fun X hX C => ?_)
  subst hX
  replace C : zC E X RX6 cX6_greater 3 (some .int) 2 := C
  unfold f_X6_greater at hf
  refine z_iload_n C dX6_greater_0 0 rfl ?_
  obtain ⟨q1, hq1, hf⟩ := bd_some hf
  refine iv_X6_46 C [.int x0] [] (ct_X6_lesser hq1) rfl (by decide) rfl (Nat.le_of_ble_eq_true rfl) z_k0 dX6_greater_1 ?_
  refine z_istore_n (lv' := [(1, .int q1), (0, .int x0)]) C dX6_greater_4 (by decide) rfl ?_
  refine z_bipush C (7 : Int32) dX6_greater_5 (by decide) ?_
  refine z_iload_n C dX6_greater_7 0 rfl ?_
  refine z_imul C dX6_greater_8 ?_
  refine z_iload_n C dX6_greater_9 0 rfl ?_
  refine z_iload_n C dX6_greater_10 0 rfl ?_
  refine z_iconst C (1 : Int32) dX6_greater_11 (by decide) ?_
  refine z_isub C dX6_greater_12 ?_
  refine z_imul C dX6_greater_13 ?_
  refine z_iconst C (2 : Int32) dX6_greater_14 (by decide) ?_
  obtain ⟨c15, hf⟩ := chk_some hf
  refine z_idiv C dX6_greater_15 c15 ?_
  refine z_isub C dX6_greater_16 ?_
  obtain ⟨v1, ev1, hf⟩ := st_some hf
  refine z_stk (congrArg (fun z => Value.int z :: []) ev1.symm) ?_
  refine z_istore_n (lv' := [(2, .int v1), (1, .int q1), (0, .int x0)]) C dX6_greater_17 (by decide) rfl ?_
  refine z_iload_n C dX6_greater_18 1 rfl ?_
  refine z_iload_n C dX6_greater_19 2 rfl ?_
  refine z_iadd C dX6_greater_20 ?_
  refine z_iload_n C dX6_greater_21 0 rfl ?_
  refine z_isub C dX6_greater_22 ?_
  obtain rfl := Option.some.inj hf
  exact z_ireturn C dX6_greater_23
/-! X6_pips: depth 3 -/
def f_X6_pips (n : Nat) (x0 : Int32) : Option Int32 :=
  (f_X6_lesser n x0).bind (fun q1 => (f_X6_greater n x0).bind (fun q5 => some (q1 + q5)))
set_option maxRecDepth 100000 in
set_option maxHeartbeats 4000000 in
theorem ct_X6_pips {E : zE} {l : Launch} {h : Hp} {n : Nat} {x0 : Int32} {r : Int32}  (hf : f_X6_pips n x0 = some r) : zM E l 3 yX6_pips cX6_pips 1 (some .int) [.int x0] h (some (.int r)) h := by
  refine zM_of (lv := [(0, .int x0)]) (by decide +kernel) (Nat.le_of_ble_eq_true rfl) rfl (fun X hX C => ?_)
  subst hX
  replace C : zC E X RX6 cX6_pips 1 (some .int) 3 := C
  unfold f_X6_pips at hf
  refine z_iload_n C dX6_pips_0 0 rfl ?_
  obtain ⟨q1, hq1, hf⟩ := bd_some hf
  refine iv_X6_46 C [.int x0] [] (ct_X6_lesser hq1) rfl (by decide) rfl (Nat.le_of_ble_eq_true rfl) z_k0 dX6_pips_1 ?_
  refine z_iload_n C dX6_pips_4 0 rfl ?_
  obtain ⟨q5, hq5, hf⟩ := bd_some hf
  refine iv_X6_50 C [.int x0] [.int q1] (ct_X6_greater hq5) rfl (by decide) rfl (Nat.le_of_ble_eq_true rfl) z_k0 dX6_pips_5 ?_
  refine z_iadd C dX6_pips_8 ?_
  obtain rfl := Option.some.inj hf
  exact z_ireturn C dX6_pips_9
/-! X6_isTile: depth 2 -/
def f_X6_isTile (x0 : Int32) : Option Int32 :=
  (f_X6_in x0.toInt64 (0 : Int64) (27 : Int64)).bind (fun q6 => chk (q6 = 0 ∨ q6 = 1) (some q6))
set_option maxRecDepth 100000 in
set_option maxHeartbeats 4000000 in
theorem ct_X6_isTile {E : zE} {l : Launch} {h : Hp} {x0 : Int32} {r : Int32}  (hf : f_X6_isTile x0 = some r) : zM E l 2 yX6_isTile cX6_isTile 1 (some .boolean) [.int x0] h (some (.int r)) h := by
  refine zM_of (lv := [(0, .int x0)]) (by decide +kernel) (Nat.le_of_ble_eq_true rfl) rfl (fun X hX C => ?_)
  subst hX
  replace C : zC E X RX6 cX6_isTile 1 (some .boolean) 2 := C
  unfold f_X6_isTile at hf
  refine z_iload_n C dX6_isTile_0 0 rfl ?_
  refine z_i2l C dX6_isTile_1 ?_
  refine z_lconst C (0 : Int64) dX6_isTile_2 (by decide) ?_
  refine z_ldc2 C (27 : Int64) dX6_isTile_3 cn_X6_53 ?_
  obtain ⟨q6, hq6, hf⟩ := bd_some hf
  refine iv_X6_55 C [.long x0.toInt64, .long (0 : Int64), .long (27 : Int64)] [] (ct_X6_in hq6) rfl (by decide) rfl (Nat.le_of_ble_eq_true rfl) z_k0 dX6_isTile_6 ?_
  obtain ⟨c9, hf⟩ := chk_some hf
  obtain rfl := Option.some.inj hf
  exact z_zreturn C c9 dX6_isTile_9
/-! X6_handMany: depth 1 -/
def f_X6_handMany_b26 (n : Nat) (f : Nat → Int32) (x1 : Int32) (K4 : Int32 → Int32 → Option Int32)  (x3 : Int32) (s0 : Int32) (s1 : Int32) : Option Int32 :=
  K4 (s1 + s0) (x3 + 1)
set_option maxRecDepth 100000 in
set_option maxHeartbeats 4000000 in
theorem w_X6_handMany_b26 {E : zE} {X : zX} {h0 : Hp} {a : Nat} {n : Nat} {f : Nat → Int32} {x1 : Int32} {K4 : Int32 → Int32 → Option Int32}  (C : zC E X RX6 cX6_handMany 4 (some .int) 1)  (hK4 : ∀ (x2 : Int32) (x3 : Int32) (r : Int32), K4 x2 x3 = some r → zW E X 4 0 0 (MQ (xb X) (zQ E (some (.int r)) (pI E h0 a 217 f)) (xa X) (xs X) 0 0 (zA E)) 4 (pI E h0 a 217 f) [(0, .ref a), (1, .int x1), (2, .int x2), (3, .int x3)] []) {x3 : Int32} {s0 : Int32} {s1 : Int32} {r : Int32} (hf : f_X6_handMany_b26 n f x1 K4 x3 s0 s1 = some r) : zW E X 4 0 0 (MQ (xb X) (zQ E (some (.int r)) (pI E h0 a 217 f)) (xa X) (xs X) 0 0 (zA E)) 26 (pI E h0 a 217 f) [(0, .ref a), (1, .int x1), (3, .int x3)] [.int s0, .int s1] := by
  unfold f_X6_handMany_b26 at hf
  refine z_iadd C dX6_handMany_26 ?_
  refine z_istore_n (lv' := [(2, .int (s1 + s0)), (0, .ref a), (1, .int x1), (3, .int x3)]) C dX6_handMany_27 (by decide) rfl ?_
  refine z_iinc (lv' := [(3, .int (x3 + 1)), (2, .int (s1 + s0)), (0, .ref a), (1, .int x1)]) C dX6_handMany_28 3 (x3 + 1) rfl rfl (by decide) rfl ?_
  refine z_goto C 4 dX6_handMany_31 (by decide) ?_
  exact z_sub [2, 3, 1, 0] rfl (hK4 _ _ _ hf)
def f_X6_handMany_h4 (n : Nat) (f : Nat → Int32) (x1 : Int32)  (K4 : Int32 → Int32 → Option Int32) (x2 : Int32) (x3 : Int32) : Option Int32 :=
  if (28 : Int32) ≤ x3 then (some x2) else (chk (inB ((21 : Int32) + x3) 217) (if (f ((21 : Int32) + x3).toNatClampNeg) = x1 then (f_X6_handMany_b26 n f x1 K4 x3 (1 : Int32) x2) else (f_X6_handMany_b26 n f x1 K4 x3 (0 : Int32) x2)))
set_option maxRecDepth 100000 in
set_option maxHeartbeats 4000000 in
theorem w_X6_handMany_h4 {E : zE} {X : zX} {h0 : Hp} {a : Nat} {n : Nat} {f : Nat → Int32} {x1 : Int32}   (C : zC E X RX6 cX6_handMany 4 (some .int) 1)   : ∀ (q : Nat) (x2 : Int32) (x3 : Int32) (r : Int32), lo2 (f_X6_handMany_h4 n f x1) q x2 x3 = some r → zW E X 4 0 0 (MQ (xb X) (zQ E (some (.int r)) (pI E h0 a 217 f)) (xa X) (xs X) 0 0 (zA E)) 4 (pI E h0 a 217 f) [(0, .ref a), (1, .int x1), (2, .int x2), (3, .int x3)] [] := by
  refine lo2_ind _ ?_
  intro K4 hK4 x2 x3 r hf
  unfold f_X6_handMany_h4 at hf
  refine z_iload_n C dX6_handMany_4 3 rfl ?_
  refine z_bipush C (28 : Int32) dX6_handMany_5 (by decide) ?_
  refine z_icmp_ge C 34 dX6_handMany_7 (by decide) (fun c7 => ?_) (fun c7 => ?_)
  · replace hf := ip c7 hf
    refine z_iload_n C dX6_handMany_34 2 rfl ?_
    obtain rfl := Option.some.inj hf
    exact z_ireturn C dX6_handMany_35
  · replace hf := iN c7 hf
    refine z_iload_n C dX6_handMany_10 2 rfl ?_
    refine z_aload_n C dX6_handMany_11 0 rfl ?_
    refine z_bipush C (21 : Int32) dX6_handMany_12 (by decide) ?_
    refine z_iload_n C dX6_handMany_14 3 rfl ?_
    refine z_iadd C dX6_handMany_15 ?_
    obtain ⟨c16, hf⟩ := chk_some hf
    refine z_iald C pI_a c16 dX6_handMany_16 ?_
    refine z_iload_n C dX6_handMany_17 1 rfl ?_
    refine z_icmp_ne C 25 dX6_handMany_18 (by decide) (fun c18 => ?_) (fun c18 => ?_)
    · replace hf := iN c18 hf
      refine z_iconst C (0 : Int32) dX6_handMany_25 (by decide) ?_
      exact z_sub [0, 1, 3] rfl (w_X6_handMany_b26 C hK4 hf)
    · replace hf := ip c18 hf
      refine z_iconst C (1 : Int32) dX6_handMany_21 (by decide) ?_
      refine z_goto C 26 dX6_handMany_22 (by decide) ?_
      exact z_sub [0, 1, 3] rfl (w_X6_handMany_b26 C hK4 hf)
def f_X6_handMany (n : Nat) (f : Nat → Int32) (x1 : Int32) : Option Int32 :=
  lo2 (f_X6_handMany_h4 n f x1) n (0 : Int32) (0 : Int32)
set_option maxRecDepth 100000 in
set_option maxHeartbeats 4000000 in
theorem ct_X6_handMany {E : zE} {l : Launch} {h0 : Hp} {a : Nat} {n : Nat} {f : Nat → Int32} {x1 : Int32} {r : Int32}  (hf : f_X6_handMany n f x1 = some r) : zM E l 1 yX6_handMany cX6_handMany 4 (some .int) [.ref a, .int x1] (pI E h0 a 217 f) (some (.int r)) (pI E h0 a 217 f) := by
  refine zM_of (lv := [(0, .ref a), (1, .int x1)]) (by decide +kernel) (Nat.le_of_ble_eq_true rfl) rfl (fun X hX C => ?_)
  subst hX
  replace C : zC E X RX6 cX6_handMany 4 (some .int) 1 := C
  unfold f_X6_handMany at hf
  refine z_iconst C (0 : Int32) dX6_handMany_0 (by decide) ?_
  refine z_istore_n (lv' := [(2, .int (0 : Int32)), (0, .ref a), (1, .int x1)]) C dX6_handMany_1 (by decide) rfl ?_
  refine z_iconst C (0 : Int32) dX6_handMany_2 (by decide) ?_
  refine z_istore_n (lv' := [(3, .int (0 : Int32)), (2, .int (0 : Int32)), (0, .ref a), (1, .int x1)]) C dX6_handMany_3 (by decide) rfl ?_
  exact z_sub [2, 3, 1, 0] rfl (w_X6_handMany_h4 C n _ _ _ hf)
/-! X6_handPips: depth 4 -/
def f_X6_handPips_b29 (n : Nat) (f : Nat → Int32) (x1 : Int32) (K4 : Int32 → Int32 → Option Int32)  (x3 : Int32) (s0 : Int32) (s1 : Int32) : Option Int32 :=
  K4 (s1 + s0) (x3 + 1)
set_option maxRecDepth 100000 in
set_option maxHeartbeats 4000000 in
theorem w_X6_handPips_b29 {E : zE} {X : zX} {h0 : Hp} {a : Nat} {n : Nat} {f : Nat → Int32} {x1 : Int32} {K4 : Int32 → Int32 → Option Int32}  (C : zC E X RX6 cX6_handPips 4 (some .int) 4)  (hK4 : ∀ (x2 : Int32) (x3 : Int32) (r : Int32), K4 x2 x3 = some r → zW E X 4 0 0 (MQ (xb X) (zQ E (some (.int r)) (pI E h0 a 217 f)) (xa X) (xs X) 0 0 (zA E)) 4 (pI E h0 a 217 f) [(0, .ref a), (1, .int x1), (2, .int x2), (3, .int x3)] []) {x3 : Int32} {s0 : Int32} {s1 : Int32} {r : Int32} (hf : f_X6_handPips_b29 n f x1 K4 x3 s0 s1 = some r) : zW E X 4 0 0 (MQ (xb X) (zQ E (some (.int r)) (pI E h0 a 217 f)) (xa X) (xs X) 0 0 (zA E)) 29 (pI E h0 a 217 f) [(0, .ref a), (1, .int x1), (3, .int x3)] [.int s0, .int s1] := by
  unfold f_X6_handPips_b29 at hf
  refine z_iadd C dX6_handPips_29 ?_
  refine z_istore_n (lv' := [(2, .int (s1 + s0)), (0, .ref a), (1, .int x1), (3, .int x3)]) C dX6_handPips_30 (by decide) rfl ?_
  refine z_iinc (lv' := [(3, .int (x3 + 1)), (2, .int (s1 + s0)), (0, .ref a), (1, .int x1)]) C dX6_handPips_31 3 (x3 + 1) rfl rfl (by decide) rfl ?_
  refine z_goto C 4 dX6_handPips_34 (by decide) ?_
  exact z_sub [2, 3, 1, 0] rfl (hK4 _ _ _ hf)
def f_X6_handPips_h4 (n : Nat) (f : Nat → Int32) (x1 : Int32)  (K4 : Int32 → Int32 → Option Int32) (x2 : Int32) (x3 : Int32) : Option Int32 :=
  if (28 : Int32) ≤ x3 then (some x2) else (chk (inB ((21 : Int32) + x3) 217) (if (f ((21 : Int32) + x3).toNatClampNeg) = x1 then ((f_X6_pips n x3).bind (fun q22 => f_X6_handPips_b29 n f x1 K4 x3 q22 x2)) else (f_X6_handPips_b29 n f x1 K4 x3 (0 : Int32) x2)))
set_option maxRecDepth 100000 in
set_option maxHeartbeats 4000000 in
theorem w_X6_handPips_h4 {E : zE} {X : zX} {h0 : Hp} {a : Nat} {n : Nat} {f : Nat → Int32} {x1 : Int32}   (C : zC E X RX6 cX6_handPips 4 (some .int) 4)   : ∀ (q : Nat) (x2 : Int32) (x3 : Int32) (r : Int32), lo2 (f_X6_handPips_h4 n f x1) q x2 x3 = some r → zW E X 4 0 0 (MQ (xb X) (zQ E (some (.int r)) (pI E h0 a 217 f)) (xa X) (xs X) 0 0 (zA E)) 4 (pI E h0 a 217 f) [(0, .ref a), (1, .int x1), (2, .int x2), (3, .int x3)] [] := by
  refine lo2_ind _ ?_
  intro K4 hK4 x2 x3 r hf
  unfold f_X6_handPips_h4 at hf
  refine z_iload_n C dX6_handPips_4 3 rfl ?_
  refine z_bipush C (28 : Int32) dX6_handPips_5 (by decide) ?_
  refine z_icmp_ge C 37 dX6_handPips_7 (by decide) (fun c7 => ?_) (fun c7 => ?_)
  · replace hf := ip c7 hf
    refine z_iload_n C dX6_handPips_37 2 rfl ?_
    obtain rfl := Option.some.inj hf
    exact z_ireturn C dX6_handPips_38
  · replace hf := iN c7 hf
    refine z_iload_n C dX6_handPips_10 2 rfl ?_
    refine z_aload_n C dX6_handPips_11 0 rfl ?_
    refine z_bipush C (21 : Int32) dX6_handPips_12 (by decide) ?_
    refine z_iload_n C dX6_handPips_14 3 rfl ?_
    refine z_iadd C dX6_handPips_15 ?_
    obtain ⟨c16, hf⟩ := chk_some hf
    refine z_iald C pI_a c16 dX6_handPips_16 ?_
    refine z_iload_n C dX6_handPips_17 1 rfl ?_
    refine z_icmp_ne C 28 dX6_handPips_18 (by decide) (fun c18 => ?_) (fun c18 => ?_)
    · replace hf := iN c18 hf
      refine z_iconst C (0 : Int32) dX6_handPips_28 (by decide) ?_
      exact z_sub [0, 1, 3] rfl (w_X6_handPips_b29 C hK4 hf)
    · replace hf := ip c18 hf
      refine z_iload_n C dX6_handPips_21 3 rfl ?_
      obtain ⟨q22, hq22, hf⟩ := bd_some hf
      refine iv_X6_59 C [.int x3] [.int x2] (ct_X6_pips hq22) rfl (by decide) rfl (Nat.le_of_ble_eq_true rfl) z_k0 dX6_handPips_22 ?_
      refine z_goto C 29 dX6_handPips_25 (by decide) ?_
      exact z_sub [0, 1, 3] rfl (w_X6_handPips_b29 C hK4 hf)
def f_X6_handPips (n : Nat) (f : Nat → Int32) (x1 : Int32) : Option Int32 :=
  lo2 (f_X6_handPips_h4 n f x1) n (0 : Int32) (0 : Int32)
set_option maxRecDepth 100000 in
set_option maxHeartbeats 4000000 in
theorem ct_X6_handPips {E : zE} {l : Launch} {h0 : Hp} {a : Nat} {n : Nat} {f : Nat → Int32} {x1 : Int32} {r : Int32}  (hf : f_X6_handPips n f x1 = some r) : zM E l 4 yX6_handPips cX6_handPips 4 (some .int) [.ref a, .int x1] (pI E h0 a 217 f) (some (.int r)) (pI E h0 a 217 f) := by
  refine zM_of (lv := [(0, .ref a), (1, .int x1)]) (by decide +kernel) (Nat.le_of_ble_eq_true rfl) rfl (fun X hX C => ?_)
  subst hX
  replace C : zC E X RX6 cX6_handPips 4 (some .int) 4 := C
  unfold f_X6_handPips at hf
  refine z_iconst C (0 : Int32) dX6_handPips_0 (by decide) ?_
  refine z_istore_n (lv' := [(2, .int (0 : Int32)), (0, .ref a), (1, .int x1)]) C dX6_handPips_1 (by decide) rfl ?_
  refine z_iconst C (0 : Int32) dX6_handPips_2 (by decide) ?_
  refine z_istore_n (lv' := [(3, .int (0 : Int32)), (2, .int (0 : Int32)), (0, .ref a), (1, .int x1)]) C dX6_handPips_3 (by decide) rfl ?_
  exact z_sub [2, 3, 1, 0] rfl (w_X6_handPips_h4 C n _ _ _ hf)
/-! X6_dx: depth 1 -/
def f_X6_dx (x0 : Int32) : Option Int32 :=
  if x0 = 0 then (some (1 : Int32)) else (if x0 = (2 : Int32) then (some (-1 : Int32)) else (some (0 : Int32)))
set_option maxRecDepth 100000 in
set_option maxHeartbeats 4000000 in
theorem ct_X6_dx {E : zE} {l : Launch} {h : Hp} {x0 : Int32} {r : Int32}  (hf : f_X6_dx x0 = some r) : zM E l 1 yX6_dx cX6_dx 1 (some .int) [.int x0] h (some (.int r)) h := by
  refine zM_of (lv := [(0, .int x0)]) (by decide +kernel) (Nat.le_of_ble_eq_true rfl) rfl (fun X hX C => ?_)
  subst hX
  replace C : zC E X RX6 cX6_dx 1 (some .int) 1 := C
  unfold f_X6_dx at hf
  refine z_iload_n C dX6_dx_0 0 rfl ?_
  refine z_if_ne C 8 dX6_dx_1 (by decide) (fun c1 => ?_) (fun c1 => ?_)
  · replace hf := iN c1 hf
    refine z_iload_n C dX6_dx_8 0 rfl ?_
    refine z_iconst C (2 : Int32) dX6_dx_9 (by decide) ?_
    refine z_icmp_ne C 17 dX6_dx_10 (by decide) (fun c10 => ?_) (fun c10 => ?_)
    · replace hf := iN c10 hf
      refine z_iconst C (0 : Int32) dX6_dx_17 (by decide) ?_
      obtain rfl := Option.some.inj hf
      exact z_ireturn C dX6_dx_18
    · replace hf := ip c10 hf
      refine z_iconst C (-1 : Int32) dX6_dx_13 (by decide) ?_
      refine z_goto C 18 dX6_dx_14 (by decide) ?_
      obtain rfl := Option.some.inj hf
      exact z_ireturn C dX6_dx_18
  · replace hf := ip c1 hf
    refine z_iconst C (1 : Int32) dX6_dx_4 (by decide) ?_
    refine z_goto C 18 dX6_dx_5 (by decide) ?_
    obtain rfl := Option.some.inj hf
    exact z_ireturn C dX6_dx_18
/-! X6_dy: depth 1 -/
def f_X6_dy (x0 : Int32) : Option Int32 :=
  if x0 = (1 : Int32) then (some (1 : Int32)) else (if x0 = (3 : Int32) then (some (-1 : Int32)) else (some (0 : Int32)))
set_option maxRecDepth 100000 in
set_option maxHeartbeats 4000000 in
theorem ct_X6_dy {E : zE} {l : Launch} {h : Hp} {x0 : Int32} {r : Int32}  (hf : f_X6_dy x0 = some r) : zM E l 1 yX6_dy cX6_dy 1 (some .int) [.int x0] h (some (.int r)) h := by
  refine zM_of (lv := [(0, .int x0)]) (by decide +kernel) (Nat.le_of_ble_eq_true rfl) rfl (fun X hX C => ?_)
  subst hX
  replace C : zC E X RX6 cX6_dy 1 (some .int) 1 := C
  unfold f_X6_dy at hf
  refine z_iload_n C dX6_dy_0 0 rfl ?_
  refine z_iconst C (1 : Int32) dX6_dy_1 (by decide) ?_
  refine z_icmp_ne C 9 dX6_dy_2 (by decide) (fun c2 => ?_) (fun c2 => ?_)
  · replace hf := iN c2 hf
    refine z_iload_n C dX6_dy_9 0 rfl ?_
    refine z_iconst C (3 : Int32) dX6_dy_10 (by decide) ?_
    refine z_icmp_ne C 18 dX6_dy_11 (by decide) (fun c11 => ?_) (fun c11 => ?_)
    · replace hf := iN c11 hf
      refine z_iconst C (0 : Int32) dX6_dy_18 (by decide) ?_
      obtain rfl := Option.some.inj hf
      exact z_ireturn C dX6_dy_19
    · replace hf := ip c11 hf
      refine z_iconst C (-1 : Int32) dX6_dy_14 (by decide) ?_
      refine z_goto C 19 dX6_dy_15 (by decide) ?_
      obtain rfl := Option.some.inj hf
      exact z_ireturn C dX6_dy_19
  · replace hf := ip c2 hf
    refine z_iconst C (1 : Int32) dX6_dy_5 (by decide) ?_
    refine z_goto C 19 dX6_dy_6 (by decide) ?_
    obtain rfl := Option.some.inj hf
    exact z_ireturn C dX6_dy_19
/-! X6_onTable: depth 1 -/
def f_X6_onTable (f : Nat → Int32) (x1 : Int32) (x2 : Int32) : Option Int32 :=
  chk (inB (((77 : Int32) + ((5 : Int32) * x1)) + x2) 217) (some (f (((77 : Int32) + ((5 : Int32) * x1)) + x2).toNatClampNeg))
set_option maxRecDepth 100000 in
set_option maxHeartbeats 4000000 in
theorem ct_X6_onTable {E : zE} {l : Launch} {h0 : Hp} {a : Nat} {f : Nat → Int32} {x1 : Int32} {x2 : Int32} {r : Int32}  (hf : f_X6_onTable f x1 x2 = some r) : zM E l 1 yX6_onTable cX6_onTable 3 (some .int) [.ref a, .int x1, .int x2] (pI E h0 a 217 f) (some (.int r)) (pI E h0 a 217 f) := by
  refine zM_of (lv := [(0, .ref a), (1, .int x1), (2, .int x2)]) (by decide +kernel) (Nat.le_of_ble_eq_true rfl) rfl (fun X hX C => ?_)
  subst hX
  replace C : zC E X RX6 cX6_onTable 3 (some .int) 1 := C
  unfold f_X6_onTable at hf
  refine z_aload_n C dX6_onTable_0 0 rfl ?_
  refine z_bipush C (77 : Int32) dX6_onTable_1 (by decide) ?_
  refine z_iconst C (5 : Int32) dX6_onTable_3 (by decide) ?_
  refine z_iload_n C dX6_onTable_4 1 rfl ?_
  refine z_imul C dX6_onTable_5 ?_
  refine z_iadd C dX6_onTable_6 ?_
  refine z_iload_n C dX6_onTable_7 2 rfl ?_
  refine z_iadd C dX6_onTable_8 ?_
  obtain ⟨c9, hf⟩ := chk_some hf
  refine z_iald C pI_a c9 dX6_onTable_9 ?_
  obtain rfl := Option.some.inj hf
  exact z_ireturn C dX6_onTable_10
/-! X6_otherPips: depth 4 -/
def f_X6_otherPips (n : Nat) (f : Nat → Int32) (x1 : Int32) : Option Int32 :=
  (f_X6_onTable f x1 (0 : Int32)).bind (fun q3 => (f_X6_pips n q3).bind (fun q6 => (f_X6_onTable f x1 (4 : Int32)).bind (fun q12 => some (q6 - q12))))
set_option maxRecDepth 100000 in
set_option maxHeartbeats 4000000 in
theorem ct_X6_otherPips {E : zE} {l : Launch} {h0 : Hp} {a : Nat} {n : Nat} {f : Nat → Int32} {x1 : Int32} {r : Int32}  (hf : f_X6_otherPips n f x1 = some r) : zM E l 4 yX6_otherPips cX6_otherPips 2 (some .int) [.ref a, .int x1] (pI E h0 a 217 f) (some (.int r)) (pI E h0 a 217 f) := by
  refine zM_of (lv := [(0, .ref a), (1, .int x1)]) (by decide +kernel) (Nat.le_of_ble_eq_true rfl) rfl (fun X hX C => ?_)
  subst hX
  replace C : zC E X RX6 cX6_otherPips 2 (some .int) 4 := C
  unfold f_X6_otherPips at hf
  refine z_aload_n C dX6_otherPips_0 0 rfl ?_
  refine z_iload_n C dX6_otherPips_1 1 rfl ?_
  refine z_iconst C (0 : Int32) dX6_otherPips_2 (by decide) ?_
  obtain ⟨q3, hq3, hf⟩ := bd_some hf
  refine iv_X6_62 C [.ref a, .int x1, .int (0 : Int32)] [] (ct_X6_onTable hq3) rfl (by decide) rfl (Nat.le_of_ble_eq_true rfl) z_k0 dX6_otherPips_3 ?_
  obtain ⟨q6, hq6, hf⟩ := bd_some hf
  refine iv_X6_59 C [.int q3] [] (ct_X6_pips hq6) rfl (by decide) rfl (Nat.le_of_ble_eq_true rfl) z_k0 dX6_otherPips_6 ?_
  refine z_aload_n C dX6_otherPips_9 0 rfl ?_
  refine z_iload_n C dX6_otherPips_10 1 rfl ?_
  refine z_iconst C (4 : Int32) dX6_otherPips_11 (by decide) ?_
  obtain ⟨q12, hq12, hf⟩ := bd_some hf
  refine iv_X6_62 C [.ref a, .int x1, .int (4 : Int32)] [.int q6] (ct_X6_onTable hq12) rfl (by decide) rfl (Nat.le_of_ble_eq_true rfl) z_k0 dX6_otherPips_12 ?_
  refine z_isub C dX6_otherPips_15 ?_
  obtain rfl := Option.some.inj hf
  exact z_ireturn C dX6_otherPips_16
/-! X6_xOf: depth 2 -/
def f_X6_xOf (f : Nat → Int32) (x1 : Int32) (x2 : Int32) : Option Int32 :=
  (f_X6_onTable f x1 (1 : Int32)).bind (fun q3 => (f_X6_onTable f x1 (3 : Int32)).bind (fun q10 => (f_X6_dx q10).bind (fun q13 => some (q3 + (x2 * q13)))))
set_option maxRecDepth 100000 in
set_option maxHeartbeats 4000000 in
theorem ct_X6_xOf {E : zE} {l : Launch} {h0 : Hp} {a : Nat} {f : Nat → Int32} {x1 : Int32} {x2 : Int32} {r : Int32}  (hf : f_X6_xOf f x1 x2 = some r) : zM E l 2 yX6_xOf cX6_xOf 3 (some .int) [.ref a, .int x1, .int x2] (pI E h0 a 217 f) (some (.int r)) (pI E h0 a 217 f) := by
  refine zM_of (lv := [(0, .ref a), (1, .int x1), (2, .int x2)]) (by decide +kernel) (Nat.le_of_ble_eq_true rfl) rfl (fun X hX C => ?_)
  subst hX
  replace C : zC E X RX6 cX6_xOf 3 (some .int) 2 := C
  unfold f_X6_xOf at hf
  refine z_aload_n C dX6_xOf_0 0 rfl ?_
  refine z_iload_n C dX6_xOf_1 1 rfl ?_
  refine z_iconst C (1 : Int32) dX6_xOf_2 (by decide) ?_
  obtain ⟨q3, hq3, hf⟩ := bd_some hf
  refine iv_X6_62 C [.ref a, .int x1, .int (1 : Int32)] [] (ct_X6_onTable hq3) rfl (by decide) rfl (Nat.le_of_ble_eq_true rfl) z_k0 dX6_xOf_3 ?_
  refine z_iload_n C dX6_xOf_6 2 rfl ?_
  refine z_aload_n C dX6_xOf_7 0 rfl ?_
  refine z_iload_n C dX6_xOf_8 1 rfl ?_
  refine z_iconst C (3 : Int32) dX6_xOf_9 (by decide) ?_
  obtain ⟨q10, hq10, hf⟩ := bd_some hf
  refine iv_X6_62 C [.ref a, .int x1, .int (3 : Int32)] [.int x2, .int q3] (ct_X6_onTable hq10) rfl (by decide) rfl (Nat.le_of_ble_eq_true rfl) z_k0 dX6_xOf_10 ?_
  obtain ⟨q13, hq13, hf⟩ := bd_some hf
  refine iv_X6_66 C [.int q10] [.int x2, .int q3] (ct_X6_dx hq13) rfl (by decide) rfl (Nat.le_of_ble_eq_true rfl) z_k0 dX6_xOf_13 ?_
  refine z_imul C dX6_xOf_16 ?_
  refine z_iadd C dX6_xOf_17 ?_
  obtain rfl := Option.some.inj hf
  exact z_ireturn C dX6_xOf_18
/-! X6_yOf: depth 2 -/
def f_X6_yOf (f : Nat → Int32) (x1 : Int32) (x2 : Int32) : Option Int32 :=
  (f_X6_onTable f x1 (2 : Int32)).bind (fun q3 => (f_X6_onTable f x1 (3 : Int32)).bind (fun q10 => (f_X6_dy q10).bind (fun q13 => some (q3 + (x2 * q13)))))
set_option maxRecDepth 100000 in
set_option maxHeartbeats 4000000 in
theorem ct_X6_yOf {E : zE} {l : Launch} {h0 : Hp} {a : Nat} {f : Nat → Int32} {x1 : Int32} {x2 : Int32} {r : Int32}  (hf : f_X6_yOf f x1 x2 = some r) : zM E l 2 yX6_yOf cX6_yOf 3 (some .int) [.ref a, .int x1, .int x2] (pI E h0 a 217 f) (some (.int r)) (pI E h0 a 217 f) := by
  refine zM_of (lv := [(0, .ref a), (1, .int x1), (2, .int x2)]) (by decide +kernel) (Nat.le_of_ble_eq_true rfl) rfl (fun X hX C => ?_)
  subst hX
  replace C : zC E X RX6 cX6_yOf 3 (some .int) 2 := C
  unfold f_X6_yOf at hf
  refine z_aload_n C dX6_yOf_0 0 rfl ?_
  refine z_iload_n C dX6_yOf_1 1 rfl ?_
  refine z_iconst C (2 : Int32) dX6_yOf_2 (by decide) ?_
  obtain ⟨q3, hq3, hf⟩ := bd_some hf
  refine iv_X6_62 C [.ref a, .int x1, .int (2 : Int32)] [] (ct_X6_onTable hq3) rfl (by decide) rfl (Nat.le_of_ble_eq_true rfl) z_k0 dX6_yOf_3 ?_
  refine z_iload_n C dX6_yOf_6 2 rfl ?_
  refine z_aload_n C dX6_yOf_7 0 rfl ?_
  refine z_iload_n C dX6_yOf_8 1 rfl ?_
  refine z_iconst C (3 : Int32) dX6_yOf_9 (by decide) ?_
  obtain ⟨q10, hq10, hf⟩ := bd_some hf
  refine iv_X6_62 C [.ref a, .int x1, .int (3 : Int32)] [.int x2, .int q3] (ct_X6_onTable hq10) rfl (by decide) rfl (Nat.le_of_ble_eq_true rfl) z_k0 dX6_yOf_10 ?_
  obtain ⟨q13, hq13, hf⟩ := bd_some hf
  refine iv_X6_69 C [.int q10] [.int x2, .int q3] (ct_X6_dy hq13) rfl (by decide) rfl (Nat.le_of_ble_eq_true rfl) z_k0 dX6_yOf_13 ?_
  refine z_imul C dX6_yOf_16 ?_
  refine z_iadd C dX6_yOf_17 ?_
  obtain rfl := Option.some.inj hf
  exact z_ireturn C dX6_yOf_18
/-! X6_cellAt: depth 5 -/
def f_X6_cellAt_b62 (n : Nat) (f : Nat → Int32) (x1 : Int32) (x2 : Int32) (K2 : Int32 → Option Int32)  (x3 : Int32) : Option Int32 :=
  K2 (x3 + 1)
set_option maxRecDepth 100000 in
set_option maxHeartbeats 4000000 in
theorem w_X6_cellAt_b62 {E : zE} {X : zX} {h0 : Hp} {a : Nat} {n : Nat} {f : Nat → Int32} {x1 : Int32} {x2 : Int32} {K2 : Int32 → Option Int32}  (C : zC E X RX6 cX6_cellAt 4 (some .int) 5)  (hK2 : ∀ (x3 : Int32) (r : Int32), K2 x3 = some r → zW E X 4 0 0 (MQ (xb X) (zQ E (some (.int r)) (pI E h0 a 217 f)) (xa X) (xs X) 0 0 (zA E)) 2 (pI E h0 a 217 f) [(0, .ref a), (1, .int x1), (2, .int x2), (3, .int x3)] []) {x3 : Int32} {r : Int32} (hf : f_X6_cellAt_b62 n f x1 x2 K2 x3 = some r) : zW E X 4 0 0 (MQ (xb X) (zQ E (some (.int r)) (pI E h0 a 217 f)) (xa X) (xs X) 0 0 (zA E)) 62 (pI E h0 a 217 f) [(0, .ref a), (1, .int x1), (2, .int x2), (3, .int x3)] [] := by
  unfold f_X6_cellAt_b62 at hf
  refine z_iinc (lv' := [(3, .int (x3 + 1)), (0, .ref a), (1, .int x1), (2, .int x2)]) C dX6_cellAt_62 3 (x3 + 1) rfl rfl (by decide) rfl ?_
  refine z_goto C 2 dX6_cellAt_65 (by decide) ?_
  exact z_sub [1, 2, 3, 0] rfl (hK2 _ _ hf)
def f_X6_cellAt_b36 (n : Nat) (f : Nat → Int32) (x1 : Int32) (x2 : Int32) (K2 : Int32 → Option Int32)  (x3 : Int32) : Option Int32 :=
  (f_X6_xOf f x3 (1 : Int32)).bind (fun q39 => if q39 = x1 then ((f_X6_yOf f x3 (1 : Int32)).bind (fun q49 => if q49 = x2 then ((f_X6_otherPips n f x3).bind (fun q58 => some q58)) else (f_X6_cellAt_b62 n f x1 x2 K2 x3))) else (f_X6_cellAt_b62 n f x1 x2 K2 x3))
set_option maxRecDepth 100000 in
set_option maxHeartbeats 4000000 in
theorem w_X6_cellAt_b36 {E : zE} {X : zX} {h0 : Hp} {a : Nat} {n : Nat} {f : Nat → Int32} {x1 : Int32} {x2 : Int32} {K2 : Int32 → Option Int32}  (C : zC E X RX6 cX6_cellAt 4 (some .int) 5)  (hK2 : ∀ (x3 : Int32) (r : Int32), K2 x3 = some r → zW E X 4 0 0 (MQ (xb X) (zQ E (some (.int r)) (pI E h0 a 217 f)) (xa X) (xs X) 0 0 (zA E)) 2 (pI E h0 a 217 f) [(0, .ref a), (1, .int x1), (2, .int x2), (3, .int x3)] []) {x3 : Int32} {r : Int32} (hf : f_X6_cellAt_b36 n f x1 x2 K2 x3 = some r) : zW E X 4 0 0 (MQ (xb X) (zQ E (some (.int r)) (pI E h0 a 217 f)) (xa X) (xs X) 0 0 (zA E)) 36 (pI E h0 a 217 f) [(0, .ref a), (1, .int x1), (2, .int x2), (3, .int x3)] [] := by
  unfold f_X6_cellAt_b36 at hf
  refine z_aload_n C dX6_cellAt_36 0 rfl ?_
  refine z_iload_n C dX6_cellAt_37 3 rfl ?_
  refine z_iconst C (1 : Int32) dX6_cellAt_38 (by decide) ?_
  obtain ⟨q39, hq39, hf⟩ := bd_some hf
  refine iv_X6_72 C [.ref a, .int x3, .int (1 : Int32)] [] (ct_X6_xOf hq39) rfl (by decide) rfl (Nat.le_of_ble_eq_true rfl) z_k0 dX6_cellAt_39 ?_
  refine z_iload_n C dX6_cellAt_42 1 rfl ?_
  refine z_icmp_ne C 62 dX6_cellAt_43 (by decide) (fun c43 => ?_) (fun c43 => ?_)
  · replace hf := iN c43 hf
    exact z_sub [0, 1, 2, 3] rfl (w_X6_cellAt_b62 C hK2 hf)
  · replace hf := ip c43 hf
    refine z_aload_n C dX6_cellAt_46 0 rfl ?_
    refine z_iload_n C dX6_cellAt_47 3 rfl ?_
    refine z_iconst C (1 : Int32) dX6_cellAt_48 (by decide) ?_
    obtain ⟨q49, hq49, hf⟩ := bd_some hf
    refine iv_X6_75 C [.ref a, .int x3, .int (1 : Int32)] [] (ct_X6_yOf hq49) rfl (by decide) rfl (Nat.le_of_ble_eq_true rfl) z_k0 dX6_cellAt_49 ?_
    refine z_iload_n C dX6_cellAt_52 2 rfl ?_
    refine z_icmp_ne C 62 dX6_cellAt_53 (by decide) (fun c53 => ?_) (fun c53 => ?_)
    · replace hf := iN c53 hf
      exact z_sub [0, 1, 2, 3] rfl (w_X6_cellAt_b62 C hK2 hf)
    · replace hf := ip c53 hf
      refine z_aload_n C dX6_cellAt_56 0 rfl ?_
      refine z_iload_n C dX6_cellAt_57 3 rfl ?_
      obtain ⟨q58, hq58, hf⟩ := bd_some hf
      refine iv_X6_78 C [.ref a, .int x3] [] (ct_X6_otherPips hq58) rfl (by decide) rfl (Nat.le_of_ble_eq_true rfl) z_k0 dX6_cellAt_58 ?_
      obtain rfl := Option.some.inj hf
      exact z_ireturn C dX6_cellAt_61
def f_X6_cellAt_h2 (n : Nat) (f : Nat → Int32) (x1 : Int32) (x2 : Int32)  (K2 : Int32 → Option Int32) (x3 : Int32) : Option Int32 :=
  chk (inB (5 : Int32) 217) (if (f (5 : Int32).toNatClampNeg) ≤ x3 then (some (-1 : Int32)) else ((f_X6_xOf f x3 (0 : Int32)).bind (fun q12 => if q12 = x1 then ((f_X6_yOf f x3 (0 : Int32)).bind (fun q22 => if q22 = x2 then ((f_X6_onTable f x3 (4 : Int32)).bind (fun q32 => some q32)) else (f_X6_cellAt_b36 n f x1 x2 K2 x3))) else (f_X6_cellAt_b36 n f x1 x2 K2 x3))))
set_option maxRecDepth 100000 in
set_option maxHeartbeats 4000000 in
theorem w_X6_cellAt_h2 {E : zE} {X : zX} {h0 : Hp} {a : Nat} {n : Nat} {f : Nat → Int32} {x1 : Int32} {x2 : Int32}   (C : zC E X RX6 cX6_cellAt 4 (some .int) 5)   : ∀ (q : Nat) (x3 : Int32) (r : Int32), lo1 (f_X6_cellAt_h2 n f x1 x2) q x3 = some r → zW E X 4 0 0 (MQ (xb X) (zQ E (some (.int r)) (pI E h0 a 217 f)) (xa X) (xs X) 0 0 (zA E)) 2 (pI E h0 a 217 f) [(0, .ref a), (1, .int x1), (2, .int x2), (3, .int x3)] [] := by
  refine lo1_ind _ ?_
  intro K2 hK2 x3 r hf
  unfold f_X6_cellAt_h2 at hf
  refine z_iload_n C dX6_cellAt_2 3 rfl ?_
  refine z_aload_n C dX6_cellAt_3 0 rfl ?_
  refine z_iconst C (5 : Int32) dX6_cellAt_4 (by decide) ?_
  obtain ⟨c5, hf⟩ := chk_some hf
  refine z_iald C pI_a c5 dX6_cellAt_5 ?_
  refine z_icmp_ge C 68 dX6_cellAt_6 (by decide) (fun c6 => ?_) (fun c6 => ?_)
  · replace hf := ip c6 hf
    refine z_iconst C (-1 : Int32) dX6_cellAt_68 (by decide) ?_
    obtain rfl := Option.some.inj hf
    exact z_ireturn C dX6_cellAt_69
  · replace hf := iN c6 hf
    refine z_aload_n C dX6_cellAt_9 0 rfl ?_
    refine z_iload_n C dX6_cellAt_10 3 rfl ?_
    refine z_iconst C (0 : Int32) dX6_cellAt_11 (by decide) ?_
    obtain ⟨q12, hq12, hf⟩ := bd_some hf
    refine iv_X6_72 C [.ref a, .int x3, .int (0 : Int32)] [] (ct_X6_xOf hq12) rfl (by decide) rfl (Nat.le_of_ble_eq_true rfl) z_k0 dX6_cellAt_12 ?_
    refine z_iload_n C dX6_cellAt_15 1 rfl ?_
    refine z_icmp_ne C 36 dX6_cellAt_16 (by decide) (fun c16 => ?_) (fun c16 => ?_)
    · replace hf := iN c16 hf
      exact z_sub [0, 1, 2, 3] rfl (w_X6_cellAt_b36 C hK2 hf)
    · replace hf := ip c16 hf
      refine z_aload_n C dX6_cellAt_19 0 rfl ?_
      refine z_iload_n C dX6_cellAt_20 3 rfl ?_
      refine z_iconst C (0 : Int32) dX6_cellAt_21 (by decide) ?_
      obtain ⟨q22, hq22, hf⟩ := bd_some hf
      refine iv_X6_75 C [.ref a, .int x3, .int (0 : Int32)] [] (ct_X6_yOf hq22) rfl (by decide) rfl (Nat.le_of_ble_eq_true rfl) z_k0 dX6_cellAt_22 ?_
      refine z_iload_n C dX6_cellAt_25 2 rfl ?_
      refine z_icmp_ne C 36 dX6_cellAt_26 (by decide) (fun c26 => ?_) (fun c26 => ?_)
      · replace hf := iN c26 hf
        exact z_sub [0, 1, 2, 3] rfl (w_X6_cellAt_b36 C hK2 hf)
      · replace hf := ip c26 hf
        refine z_aload_n C dX6_cellAt_29 0 rfl ?_
        refine z_iload_n C dX6_cellAt_30 3 rfl ?_
        refine z_iconst C (4 : Int32) dX6_cellAt_31 (by decide) ?_
        obtain ⟨q32, hq32, hf⟩ := bd_some hf
        refine iv_X6_62 C [.ref a, .int x3, .int (4 : Int32)] [] (ct_X6_onTable hq32) rfl (by decide) rfl (Nat.le_of_ble_eq_true rfl) z_k0 dX6_cellAt_32 ?_
        obtain rfl := Option.some.inj hf
        exact z_ireturn C dX6_cellAt_35
def f_X6_cellAt (n : Nat) (f : Nat → Int32) (x1 : Int32) (x2 : Int32) : Option Int32 :=
  lo1 (f_X6_cellAt_h2 n f x1 x2) n (0 : Int32)
set_option maxRecDepth 100000 in
set_option maxHeartbeats 4000000 in
theorem ct_X6_cellAt {E : zE} {l : Launch} {h0 : Hp} {a : Nat} {n : Nat} {f : Nat → Int32} {x1 : Int32} {x2 : Int32} {r : Int32}  (hf : f_X6_cellAt n f x1 x2 = some r) : zM E l 5 yX6_cellAt cX6_cellAt 4 (some .int) [.ref a, .int x1, .int x2] (pI E h0 a 217 f) (some (.int r)) (pI E h0 a 217 f) := by
  refine zM_of (lv := [(0, .ref a), (1, .int x1), (2, .int x2)]) (by decide +kernel) (Nat.le_of_ble_eq_true rfl) rfl (fun X hX C => ?_)
  subst hX
  replace C : zC E X RX6 cX6_cellAt 4 (some .int) 5 := C
  unfold f_X6_cellAt at hf
  refine z_iconst C (0 : Int32) dX6_cellAt_0 (by decide) ?_
  refine z_istore_n (lv' := [(3, .int (0 : Int32)), (0, .ref a), (1, .int x1), (2, .int x2)]) C dX6_cellAt_1 (by decide) rfl ?_
  exact z_sub [1, 2, 3, 0] rfl (w_X6_cellAt_h2 C n _ _ hf)
/-! X6_isFree: depth 6 -/
def f_X6_isFree (n : Nat) (f : Nat → Int32) (x1 : Int32) (x2 : Int32) : Option Int32 :=
  (f_X6_in x1.toInt64 (0 : Int64) (24 : Int64)).bind (fun q6 => if q6 = 0 then (some (0 : Int32)) else ((f_X6_in x2.toInt64 (0 : Int64) (24 : Int64)).bind (fun q18 => if q18 = 0 then (some (0 : Int32)) else ((f_X6_cellAt n f x1 x2).bind (fun q27 => if q27 = (-1 : Int32) then (some (1 : Int32)) else (some (0 : Int32)))))))
set_option maxRecDepth 100000 in
set_option maxHeartbeats 4000000 in
theorem ct_X6_isFree {E : zE} {l : Launch} {h0 : Hp} {a : Nat} {n : Nat} {f : Nat → Int32} {x1 : Int32} {x2 : Int32} {r : Int32}  (hf : f_X6_isFree n f x1 x2 = some r) : zM E l 6 yX6_isFree cX6_isFree 3 (some .boolean) [.ref a, .int x1, .int x2] (pI E h0 a 217 f) (some (.int r)) (pI E h0 a 217 f) := by
  refine zM_of (lv := [(0, .ref a), (1, .int x1), (2, .int x2)]) (by decide +kernel) (Nat.le_of_ble_eq_true rfl) rfl (fun X hX C => ?_)
  subst hX
  replace C : zC E X RX6 cX6_isFree 3 (some .boolean) 6 := C
  unfold f_X6_isFree at hf
  refine z_iload_n C dX6_isFree_0 1 rfl ?_
  refine z_i2l C dX6_isFree_1 ?_
  refine z_lconst C (0 : Int64) dX6_isFree_2 (by decide) ?_
  refine z_ldc2 C (24 : Int64) dX6_isFree_3 cn_X6_82 ?_
  obtain ⟨q6, hq6, hf⟩ := bd_some hf
  refine iv_X6_55 C [.long x1.toInt64, .long (0 : Int64), .long (24 : Int64)] [] (ct_X6_in hq6) rfl (by decide) rfl (Nat.le_of_ble_eq_true rfl) z_k0 dX6_isFree_6 ?_
  refine z_if_eq C 38 dX6_isFree_9 (by decide) (fun c9 => ?_) (fun c9 => ?_)
  · replace hf := ip c9 hf
    refine z_iconst C (0 : Int32) dX6_isFree_38 (by decide) ?_
    obtain rfl := Option.some.inj hf
    exact z_zreturn (v := (0 : Int32)) C (by decide) dX6_isFree_39
  · replace hf := iN c9 hf
    refine z_iload_n C dX6_isFree_12 2 rfl ?_
    refine z_i2l C dX6_isFree_13 ?_
    refine z_lconst C (0 : Int64) dX6_isFree_14 (by decide) ?_
    refine z_ldc2 C (24 : Int64) dX6_isFree_15 cn_X6_82 ?_
    obtain ⟨q18, hq18, hf⟩ := bd_some hf
    refine iv_X6_55 C [.long x2.toInt64, .long (0 : Int64), .long (24 : Int64)] [] (ct_X6_in hq18) rfl (by decide) rfl (Nat.le_of_ble_eq_true rfl) z_k0 dX6_isFree_18 ?_
    refine z_if_eq C 38 dX6_isFree_21 (by decide) (fun c21 => ?_) (fun c21 => ?_)
    · replace hf := ip c21 hf
      refine z_iconst C (0 : Int32) dX6_isFree_38 (by decide) ?_
      obtain rfl := Option.some.inj hf
      exact z_zreturn (v := (0 : Int32)) C (by decide) dX6_isFree_39
    · replace hf := iN c21 hf
      refine z_aload_n C dX6_isFree_24 0 rfl ?_
      refine z_iload_n C dX6_isFree_25 1 rfl ?_
      refine z_iload_n C dX6_isFree_26 2 rfl ?_
      obtain ⟨q27, hq27, hf⟩ := bd_some hf
      refine iv_X6_84 C [.ref a, .int x1, .int x2] [] (ct_X6_cellAt hq27) rfl (by decide) rfl (Nat.le_of_ble_eq_true rfl) z_k0 dX6_isFree_27 ?_
      refine z_iconst C (-1 : Int32) dX6_isFree_30 (by decide) ?_
      refine z_icmp_ne C 38 dX6_isFree_31 (by decide) (fun c31 => ?_) (fun c31 => ?_)
      · replace hf := iN c31 hf
        refine z_iconst C (0 : Int32) dX6_isFree_38 (by decide) ?_
        obtain rfl := Option.some.inj hf
        exact z_zreturn (v := (0 : Int32)) C (by decide) dX6_isFree_39
      · replace hf := ip c31 hf
        refine z_iconst C (1 : Int32) dX6_isFree_34 (by decide) ?_
        refine z_goto C 39 dX6_isFree_35 (by decide) ?_
        obtain rfl := Option.some.inj hf
        exact z_zreturn (v := (1 : Int32)) C (by decide) dX6_isFree_39
/-! X6_nextX: depth 3 -/
def f_X6_nextX (f : Nat → Int32) : Option Int32 :=
  chk (inB (5 : Int32) 217) (if (f (5 : Int32).toNatClampNeg) = 0 then (some (12 : Int32)) else (chk (inB (5 : Int32) 217) ((f_X6_xOf f ((f (5 : Int32).toNatClampNeg) - (1 : Int32)) (1 : Int32)).bind (fun q18 => chk (inB (7 : Int32) 217) ((f_X6_dx (f (7 : Int32).toNatClampNeg)).bind (fun q25 => some (q18 + q25)))))))
set_option maxRecDepth 100000 in
set_option maxHeartbeats 4000000 in
theorem ct_X6_nextX {E : zE} {l : Launch} {h0 : Hp} {a : Nat} {f : Nat → Int32} {r : Int32}  (hf : f_X6_nextX f = some r) : zM E l 3 yX6_nextX cX6_nextX 1 (some .int) [.ref a] (pI E h0 a 217 f) (some (.int r)) (pI E h0 a 217 f) := by
  refine zM_of (lv := [(0, .ref a)]) (by decide +kernel) (Nat.le_of_ble_eq_true rfl) rfl (fun X hX C => ?_)
  subst hX
  replace C : zC E X RX6 cX6_nextX 1 (some .int) 3 := C
  unfold f_X6_nextX at hf
  refine z_aload_n C dX6_nextX_0 0 rfl ?_
  refine z_iconst C (5 : Int32) dX6_nextX_1 (by decide) ?_
  obtain ⟨c2, hf⟩ := chk_some hf
  refine z_iald C pI_a c2 dX6_nextX_2 ?_
  refine z_if_ne C 11 dX6_nextX_3 (by decide) (fun c3 => ?_) (fun c3 => ?_)
  · replace hf := iN c3 hf
    refine z_aload_n C dX6_nextX_11 0 rfl ?_
    refine z_aload_n C dX6_nextX_12 0 rfl ?_
    refine z_iconst C (5 : Int32) dX6_nextX_13 (by decide) ?_
    obtain ⟨c14, hf⟩ := chk_some hf
    refine z_iald C pI_a c14 dX6_nextX_14 ?_
    refine z_iconst C (1 : Int32) dX6_nextX_15 (by decide) ?_
    refine z_isub C dX6_nextX_16 ?_
    refine z_iconst C (1 : Int32) dX6_nextX_17 (by decide) ?_
    obtain ⟨q18, hq18, hf⟩ := bd_some hf
    refine iv_X6_72 C [.ref a, .int ((f (5 : Int32).toNatClampNeg) - (1 : Int32)), .int (1 : Int32)] [] (ct_X6_xOf hq18) rfl (by decide) rfl (Nat.le_of_ble_eq_true rfl) z_k0 dX6_nextX_18 ?_
    refine z_aload_n C dX6_nextX_21 0 rfl ?_
    refine z_bipush C (7 : Int32) dX6_nextX_22 (by decide) ?_
    obtain ⟨c24, hf⟩ := chk_some hf
    refine z_iald C pI_a c24 dX6_nextX_24 ?_
    obtain ⟨q25, hq25, hf⟩ := bd_some hf
    refine iv_X6_66 C [.int (f (7 : Int32).toNatClampNeg)] [.int q18] (ct_X6_dx hq25) rfl (by decide) rfl (Nat.le_of_ble_eq_true rfl) z_k0 dX6_nextX_25 ?_
    refine z_iadd C dX6_nextX_28 ?_
    obtain rfl := Option.some.inj hf
    exact z_ireturn C dX6_nextX_29
  · replace hf := ip c3 hf
    refine z_bipush C (12 : Int32) dX6_nextX_6 (by decide) ?_
    refine z_goto C 29 dX6_nextX_8 (by decide) ?_
    obtain rfl := Option.some.inj hf
    exact z_ireturn C dX6_nextX_29
/-! X6_nextY: depth 3 -/
def f_X6_nextY (f : Nat → Int32) : Option Int32 :=
  chk (inB (5 : Int32) 217) (if (f (5 : Int32).toNatClampNeg) = 0 then (some (12 : Int32)) else (chk (inB (5 : Int32) 217) ((f_X6_yOf f ((f (5 : Int32).toNatClampNeg) - (1 : Int32)) (1 : Int32)).bind (fun q18 => chk (inB (7 : Int32) 217) ((f_X6_dy (f (7 : Int32).toNatClampNeg)).bind (fun q25 => some (q18 + q25)))))))
set_option maxRecDepth 100000 in
set_option maxHeartbeats 4000000 in
theorem ct_X6_nextY {E : zE} {l : Launch} {h0 : Hp} {a : Nat} {f : Nat → Int32} {r : Int32}  (hf : f_X6_nextY f = some r) : zM E l 3 yX6_nextY cX6_nextY 1 (some .int) [.ref a] (pI E h0 a 217 f) (some (.int r)) (pI E h0 a 217 f) := by
  refine zM_of (lv := [(0, .ref a)]) (by decide +kernel) (Nat.le_of_ble_eq_true rfl) rfl (fun X hX C => ?_)
  subst hX
  replace C : zC E X RX6 cX6_nextY 1 (some .int) 3 := C
  unfold f_X6_nextY at hf
  refine z_aload_n C dX6_nextY_0 0 rfl ?_
  refine z_iconst C (5 : Int32) dX6_nextY_1 (by decide) ?_
  obtain ⟨c2, hf⟩ := chk_some hf
  refine z_iald C pI_a c2 dX6_nextY_2 ?_
  refine z_if_ne C 11 dX6_nextY_3 (by decide) (fun c3 => ?_) (fun c3 => ?_)
  · replace hf := iN c3 hf
    refine z_aload_n C dX6_nextY_11 0 rfl ?_
    refine z_aload_n C dX6_nextY_12 0 rfl ?_
    refine z_iconst C (5 : Int32) dX6_nextY_13 (by decide) ?_
    obtain ⟨c14, hf⟩ := chk_some hf
    refine z_iald C pI_a c14 dX6_nextY_14 ?_
    refine z_iconst C (1 : Int32) dX6_nextY_15 (by decide) ?_
    refine z_isub C dX6_nextY_16 ?_
    refine z_iconst C (1 : Int32) dX6_nextY_17 (by decide) ?_
    obtain ⟨q18, hq18, hf⟩ := bd_some hf
    refine iv_X6_75 C [.ref a, .int ((f (5 : Int32).toNatClampNeg) - (1 : Int32)), .int (1 : Int32)] [] (ct_X6_yOf hq18) rfl (by decide) rfl (Nat.le_of_ble_eq_true rfl) z_k0 dX6_nextY_18 ?_
    refine z_aload_n C dX6_nextY_21 0 rfl ?_
    refine z_bipush C (7 : Int32) dX6_nextY_22 (by decide) ?_
    obtain ⟨c24, hf⟩ := chk_some hf
    refine z_iald C pI_a c24 dX6_nextY_24 ?_
    obtain ⟨q25, hq25, hf⟩ := bd_some hf
    refine iv_X6_69 C [.int (f (7 : Int32).toNatClampNeg)] [.int q18] (ct_X6_dy hq25) rfl (by decide) rfl (Nat.le_of_ble_eq_true rfl) z_k0 dX6_nextY_25 ?_
    refine z_iadd C dX6_nextY_28 ?_
    obtain rfl := Option.some.inj hf
    exact z_ireturn C dX6_nextY_29
  · replace hf := ip c3 hf
    refine z_bipush C (12 : Int32) dX6_nextY_6 (by decide) ?_
    refine z_goto C 29 dX6_nextY_8 (by decide) ?_
    obtain rfl := Option.some.inj hf
    exact z_ireturn C dX6_nextY_29
/-! X6_fitsTo: depth 3 -/
def f_X6_fitsTo_b21 (n : Nat) (x0 : Int32) (x1 : Int32)    : Option Int32 :=
  some (1 : Int32)
set_option maxRecDepth 100000 in
set_option maxHeartbeats 4000000 in
theorem w_X6_fitsTo_b21 {E : zE} {X : zX} {h : Hp} {n : Nat} {x0 : Int32} {x1 : Int32}   (C : zC E X RX6 cX6_fitsTo 2 (some .boolean) 3)    {r : Int32} (hf : f_X6_fitsTo_b21 n x0 x1  = some r) : zW E X 2 0 0 (MQ (xb X) (zQ E (some (.int r)) h) (xa X) (xs X) 0 0 (zA E)) 21 h [] [] := by
  unfold f_X6_fitsTo_b21 at hf
  refine z_iconst C (1 : Int32) dX6_fitsTo_21 (by decide) ?_
  refine z_goto C 26 dX6_fitsTo_22 (by decide) ?_
  obtain rfl := Option.some.inj hf
  exact z_zreturn (v := (1 : Int32)) C (by decide) dX6_fitsTo_26
def f_X6_fitsTo (n : Nat) (x0 : Int32) (x1 : Int32) : Option Int32 :=
  if x1 = (-1 : Int32) then (f_X6_fitsTo_b21 n x0 x1 ) else ((f_X6_lesser n x0).bind (fun q6 => if q6 = x1 then (f_X6_fitsTo_b21 n x0 x1 ) else ((f_X6_greater n x0).bind (fun q14 => if q14 = x1 then (f_X6_fitsTo_b21 n x0 x1 ) else (some (0 : Int32))))))
set_option maxRecDepth 100000 in
set_option maxHeartbeats 4000000 in
theorem ct_X6_fitsTo {E : zE} {l : Launch} {h : Hp} {n : Nat} {x0 : Int32} {x1 : Int32} {r : Int32}  (hf : f_X6_fitsTo n x0 x1 = some r) : zM E l 3 yX6_fitsTo cX6_fitsTo 2 (some .boolean) [.int x0, .int x1] h (some (.int r)) h := by
  refine zM_of (lv := [(0, .int x0), (1, .int x1)]) (by decide +kernel) (Nat.le_of_ble_eq_true rfl) rfl (fun X hX C => ?_)
  subst hX
  replace C : zC E X RX6 cX6_fitsTo 2 (some .boolean) 3 := C
  unfold f_X6_fitsTo at hf
  refine z_iload_n C dX6_fitsTo_0 1 rfl ?_
  refine z_iconst C (-1 : Int32) dX6_fitsTo_1 (by decide) ?_
  refine z_icmp_eq C 21 dX6_fitsTo_2 (by decide) (fun c2 => ?_) (fun c2 => ?_)
  · replace hf := ip c2 hf
    exact z_sub [] rfl (w_X6_fitsTo_b21 C hf)
  · replace hf := iN c2 hf
    refine z_iload_n C dX6_fitsTo_5 0 rfl ?_
    obtain ⟨q6, hq6, hf⟩ := bd_some hf
    refine iv_X6_46 C [.int x0] [] (ct_X6_lesser hq6) rfl (by decide) rfl (Nat.le_of_ble_eq_true rfl) z_k0 dX6_fitsTo_6 ?_
    refine z_iload_n C dX6_fitsTo_9 1 rfl ?_
    refine z_icmp_eq C 21 dX6_fitsTo_10 (by decide) (fun c10 => ?_) (fun c10 => ?_)
    · replace hf := ip c10 hf
      exact z_sub [] rfl (w_X6_fitsTo_b21 C hf)
    · replace hf := iN c10 hf
      refine z_iload_n C dX6_fitsTo_13 0 rfl ?_
      obtain ⟨q14, hq14, hf⟩ := bd_some hf
      refine iv_X6_50 C [.int x0] [] (ct_X6_greater hq14) rfl (by decide) rfl (Nat.le_of_ble_eq_true rfl) z_k0 dX6_fitsTo_14 ?_
      refine z_iload_n C dX6_fitsTo_17 1 rfl ?_
      refine z_icmp_ne C 25 dX6_fitsTo_18 (by decide) (fun c18 => ?_) (fun c18 => ?_)
      · replace hf := iN c18 hf
        refine z_iconst C (0 : Int32) dX6_fitsTo_25 (by decide) ?_
        obtain rfl := Option.some.inj hf
        exact z_zreturn (v := (0 : Int32)) C (by decide) dX6_fitsTo_26
      · replace hf := ip c18 hf
        exact z_sub [] rfl (w_X6_fitsTo_b21 C hf)
/-! X6_endBehind: depth 4 -/
def f_X6_endBehind (n : Nat) (x0 : Int32) (x1 : Int32) : Option Int32 :=
  if x1 = (-1 : Int32) then ((f_X6_greater n x0).bind (fun q6 => some q6)) else ((f_X6_pips n x0).bind (fun q13 => some (q13 - x1)))
set_option maxRecDepth 100000 in
set_option maxHeartbeats 4000000 in
theorem ct_X6_endBehind {E : zE} {l : Launch} {h : Hp} {n : Nat} {x0 : Int32} {x1 : Int32} {r : Int32}  (hf : f_X6_endBehind n x0 x1 = some r) : zM E l 4 yX6_endBehind cX6_endBehind 2 (some .int) [.int x0, .int x1] h (some (.int r)) h := by
  refine zM_of (lv := [(0, .int x0), (1, .int x1)]) (by decide +kernel) (Nat.le_of_ble_eq_true rfl) rfl (fun X hX C => ?_)
  subst hX
  replace C : zC E X RX6 cX6_endBehind 2 (some .int) 4 := C
  unfold f_X6_endBehind at hf
  refine z_iload_n C dX6_endBehind_0 1 rfl ?_
  refine z_iconst C (-1 : Int32) dX6_endBehind_1 (by decide) ?_
  refine z_icmp_ne C 12 dX6_endBehind_2 (by decide) (fun c2 => ?_) (fun c2 => ?_)
  · replace hf := iN c2 hf
    refine z_iload_n C dX6_endBehind_12 0 rfl ?_
    obtain ⟨q13, hq13, hf⟩ := bd_some hf
    refine iv_X6_59 C [.int x0] [] (ct_X6_pips hq13) rfl (by decide) rfl (Nat.le_of_ble_eq_true rfl) z_k0 dX6_endBehind_13 ?_
    refine z_iload_n C dX6_endBehind_16 1 rfl ?_
    refine z_isub C dX6_endBehind_17 ?_
    obtain rfl := Option.some.inj hf
    exact z_ireturn C dX6_endBehind_18
  · replace hf := ip c2 hf
    refine z_iload_n C dX6_endBehind_5 0 rfl ?_
    obtain ⟨q6, hq6, hf⟩ := bd_some hf
    refine iv_X6_50 C [.int x0] [] (ct_X6_greater hq6) rfl (by decide) rfl (Nat.le_of_ble_eq_true rfl) z_k0 dX6_endBehind_6 ?_
    refine z_goto C 18 dX6_endBehind_9 (by decide) ?_
    obtain rfl := Option.some.inj hf
    exact z_ireturn C dX6_endBehind_18
/-! X6_reason: depth 7 -/
def f_X6_reason (n : Nat) (f : Nat → Int32) (x1 : Int32) : Option Int32 :=
  chk (inB ((21 : Int32) + x1) 217) (chk (inB (3 : Int32) 217) (if (f ((21 : Int32) + x1).toNatClampNeg) = (f (3 : Int32).toNatClampNeg) then (chk (inB (6 : Int32) 217) ((f_X6_fitsTo n x1 (f (6 : Int32).toNatClampNeg)).bind (fun q19 => if q19 = 0 then (some (2 : Int32)) else ((f_X6_nextX f).bind (fun q28 => (f_X6_nextY f).bind (fun q33 => (f_X6_isFree n f q28 q33).bind (fun q40 => if q40 = 0 then (some (3 : Int32)) else (chk (inB (7 : Int32) 217) ((f_X6_dx (f (7 : Int32).toNatClampNeg)).bind (fun q52 => chk (inB (7 : Int32) 217) ((f_X6_dy (f (7 : Int32).toNatClampNeg)).bind (fun q61 => (f_X6_isFree n f (q28 + q52) (q33 + q61)).bind (fun q65 => if q65 = 0 then (some (3 : Int32)) else (some (0 : Int32))))))))))))))) else (some (1 : Int32))))
set_option maxRecDepth 100000 in
set_option maxHeartbeats 4000000 in
theorem ct_X6_reason {E : zE} {l : Launch} {h0 : Hp} {a : Nat} {n : Nat} {f : Nat → Int32} {x1 : Int32} {r : Int32}  (hf : f_X6_reason n f x1 = some r) : zM E l 7 yX6_reason cX6_reason 4 (some .int) [.ref a, .int x1] (pI E h0 a 217 f) (some (.int r)) (pI E h0 a 217 f) := by
  refine zM_of (lv := [(0, .ref a), (1, .int x1)]) (by decide +kernel) (Nat.le_of_ble_eq_true rfl) rfl (fun X hX C => ?_)
  subst hX
  replace C : zC E X RX6 cX6_reason 4 (some .int) 7 := C
  unfold f_X6_reason at hf
  refine z_aload_n C dX6_reason_0 0 rfl ?_
  refine z_bipush C (21 : Int32) dX6_reason_1 (by decide) ?_
  refine z_iload_n C dX6_reason_3 1 rfl ?_
  refine z_iadd C dX6_reason_4 ?_
  obtain ⟨c5, hf⟩ := chk_some hf
  refine z_iald C pI_a c5 dX6_reason_5 ?_
  refine z_aload_n C dX6_reason_6 0 rfl ?_
  refine z_iconst C (3 : Int32) dX6_reason_7 (by decide) ?_
  obtain ⟨c8, hf⟩ := chk_some hf
  refine z_iald C pI_a c8 dX6_reason_8 ?_
  refine z_icmp_eq C 14 dX6_reason_9 (by decide) (fun c9 => ?_) (fun c9 => ?_)
  · replace hf := ip c9 hf
    refine z_iload_n C dX6_reason_14 1 rfl ?_
    refine z_aload_n C dX6_reason_15 0 rfl ?_
    refine z_bipush C (6 : Int32) dX6_reason_16 (by decide) ?_
    obtain ⟨c18, hf⟩ := chk_some hf
    refine z_iald C pI_a c18 dX6_reason_18 ?_
    obtain ⟨q19, hq19, hf⟩ := bd_some hf
    refine iv_X6_87 C [.int x1, .int (f (6 : Int32).toNatClampNeg)] [] (ct_X6_fitsTo hq19) rfl (by decide) rfl (Nat.le_of_ble_eq_true rfl) z_k0 dX6_reason_19 ?_
    refine z_if_ne C 27 dX6_reason_22 (by decide) (fun c22 => ?_) (fun c22 => ?_)
    · replace hf := iN c22 hf
      refine z_aload_n C dX6_reason_27 0 rfl ?_
      obtain ⟨q28, hq28, hf⟩ := bd_some hf
      refine iv_X6_91 C [.ref a] [] (ct_X6_nextX hq28) rfl (by decide) rfl (Nat.le_of_ble_eq_true rfl) z_k0 dX6_reason_28 ?_
      refine z_istore_n (lv' := [(2, .int q28), (0, .ref a), (1, .int x1)]) C dX6_reason_31 (by decide) rfl ?_
      refine z_aload_n C dX6_reason_32 1 rfl ?_
      obtain ⟨q33, hq33, hf⟩ := bd_some hf
      refine iv_X6_95 C [.ref a] [] (ct_X6_nextY hq33) rfl (by decide) rfl (Nat.le_of_ble_eq_true rfl) z_k0 dX6_reason_33 ?_
      refine z_istore_n (lv' := [(3, .int q33), (2, .int q28), (0, .ref a), (1, .int x1)]) C dX6_reason_36 (by decide) rfl ?_
      refine z_aload_n C dX6_reason_37 2 rfl ?_
      refine z_iload_n C dX6_reason_38 1 rfl ?_
      refine z_iload_n C dX6_reason_39 0 rfl ?_
      obtain ⟨q40, hq40, hf⟩ := bd_some hf
      refine iv_X6_98 C [.ref a, .int q28, .int q33] [] (ct_X6_isFree hq40) rfl (by decide) rfl (Nat.le_of_ble_eq_true rfl) z_k0 dX6_reason_40 ?_
      refine z_if_eq C 75 dX6_reason_43 (by decide) (fun c43 => ?_) (fun c43 => ?_)
      · replace hf := ip c43 hf
        refine z_iconst C (3 : Int32) dX6_reason_75 (by decide) ?_
        obtain rfl := Option.some.inj hf
        exact z_ireturn C dX6_reason_76
      · replace hf := iN c43 hf
        refine z_aload_n C dX6_reason_46 2 rfl ?_
        refine z_iload_n C dX6_reason_47 1 rfl ?_
        refine z_aload_n C dX6_reason_48 2 rfl ?_
        refine z_bipush C (7 : Int32) dX6_reason_49 (by decide) ?_
        obtain ⟨c51, hf⟩ := chk_some hf
        refine z_iald C pI_a c51 dX6_reason_51 ?_
        obtain ⟨q52, hq52, hf⟩ := bd_some hf
        refine iv_X6_66 C [.int (f (7 : Int32).toNatClampNeg)] [.int q28, .ref a] (ct_X6_dx hq52) rfl (by decide) rfl (Nat.le_of_ble_eq_true rfl) z_k0 dX6_reason_52 ?_
        refine z_iadd C dX6_reason_55 ?_
        refine z_iload_n C dX6_reason_56 0 rfl ?_
        refine z_aload_n C dX6_reason_57 2 rfl ?_
        refine z_bipush C (7 : Int32) dX6_reason_58 (by decide) ?_
        obtain ⟨c60, hf⟩ := chk_some hf
        refine z_iald C pI_a c60 dX6_reason_60 ?_
        obtain ⟨q61, hq61, hf⟩ := bd_some hf
        refine iv_X6_69 C [.int (f (7 : Int32).toNatClampNeg)] [.int q33, .int (q28 + q52), .ref a] (ct_X6_dy hq61) rfl (by decide) rfl (Nat.le_of_ble_eq_true rfl) z_k0 dX6_reason_61 ?_
        refine z_iadd C dX6_reason_64 ?_
        obtain ⟨q65, hq65, hf⟩ := bd_some hf
        refine iv_X6_98 C [.ref a, .int (q28 + q52), .int (q33 + q61)] [] (ct_X6_isFree hq65) rfl (by decide) rfl (Nat.le_of_ble_eq_true rfl) z_k0 dX6_reason_65 ?_
        refine z_if_eq C 75 dX6_reason_68 (by decide) (fun c68 => ?_) (fun c68 => ?_)
        · replace hf := ip c68 hf
          refine z_iconst C (3 : Int32) dX6_reason_75 (by decide) ?_
          obtain rfl := Option.some.inj hf
          exact z_ireturn C dX6_reason_76
        · replace hf := iN c68 hf
          refine z_iconst C (0 : Int32) dX6_reason_71 (by decide) ?_
          refine z_goto C 76 dX6_reason_72 (by decide) ?_
          obtain rfl := Option.some.inj hf
          exact z_ireturn C dX6_reason_76
    · replace hf := ip c22 hf
      refine z_iconst C (2 : Int32) dX6_reason_25 (by decide) ?_
      obtain rfl := Option.some.inj hf
      exact z_ireturn C dX6_reason_26
  · replace hf := iN c9 hf
    refine z_iconst C (1 : Int32) dX6_reason_12 (by decide) ?_
    obtain rfl := Option.some.inj hf
    exact z_ireturn C dX6_reason_13
/-! X6_legalMany: depth 8 -/
def f_X6_legalMany_b24 (n : Nat) (f : Nat → Int32) (K4 : Int32 → Int32 → Option Int32)  (x2 : Int32) (s0 : Int32) (s1 : Int32) : Option Int32 :=
  K4 (s1 + s0) (x2 + 1)
set_option maxRecDepth 100000 in
set_option maxHeartbeats 4000000 in
theorem w_X6_legalMany_b24 {E : zE} {X : zX} {h0 : Hp} {a : Nat} {n : Nat} {f : Nat → Int32} {K4 : Int32 → Int32 → Option Int32}  (C : zC E X RX6 cX6_legalMany 3 (some .int) 8)  (hK4 : ∀ (x1 : Int32) (x2 : Int32) (r : Int32), K4 x1 x2 = some r → zW E X 3 0 0 (MQ (xb X) (zQ E (some (.int r)) (pI E h0 a 217 f)) (xa X) (xs X) 0 0 (zA E)) 4 (pI E h0 a 217 f) [(0, .ref a), (1, .int x1), (2, .int x2)] []) {x2 : Int32} {s0 : Int32} {s1 : Int32} {r : Int32} (hf : f_X6_legalMany_b24 n f K4 x2 s0 s1 = some r) : zW E X 3 0 0 (MQ (xb X) (zQ E (some (.int r)) (pI E h0 a 217 f)) (xa X) (xs X) 0 0 (zA E)) 24 (pI E h0 a 217 f) [(0, .ref a), (2, .int x2)] [.int s0, .int s1] := by
  unfold f_X6_legalMany_b24 at hf
  refine z_iadd C dX6_legalMany_24 ?_
  refine z_istore_n (lv' := [(1, .int (s1 + s0)), (0, .ref a), (2, .int x2)]) C dX6_legalMany_25 (by decide) rfl ?_
  refine z_iinc (lv' := [(2, .int (x2 + 1)), (1, .int (s1 + s0)), (0, .ref a)]) C dX6_legalMany_26 2 (x2 + 1) rfl rfl (by decide) rfl ?_
  refine z_goto C 4 dX6_legalMany_29 (by decide) ?_
  exact z_sub [2, 1, 0] rfl (hK4 _ _ _ hf)
def f_X6_legalMany_h4 (n : Nat) (f : Nat → Int32)  (K4 : Int32 → Int32 → Option Int32) (x1 : Int32) (x2 : Int32) : Option Int32 :=
  if (28 : Int32) ≤ x2 then (some x1) else ((f_X6_reason n f x2).bind (fun q13 => if q13 = 0 then (f_X6_legalMany_b24 n f K4 x2 (1 : Int32) x1) else (f_X6_legalMany_b24 n f K4 x2 (0 : Int32) x1)))
set_option maxRecDepth 100000 in
set_option maxHeartbeats 4000000 in
theorem w_X6_legalMany_h4 {E : zE} {X : zX} {h0 : Hp} {a : Nat} {n : Nat} {f : Nat → Int32}   (C : zC E X RX6 cX6_legalMany 3 (some .int) 8)   : ∀ (q : Nat) (x1 : Int32) (x2 : Int32) (r : Int32), lo2 (f_X6_legalMany_h4 n f) q x1 x2 = some r → zW E X 3 0 0 (MQ (xb X) (zQ E (some (.int r)) (pI E h0 a 217 f)) (xa X) (xs X) 0 0 (zA E)) 4 (pI E h0 a 217 f) [(0, .ref a), (1, .int x1), (2, .int x2)] [] := by
  refine lo2_ind _ ?_
  intro K4 hK4 x1 x2 r hf
  unfold f_X6_legalMany_h4 at hf
  refine z_iload_n C dX6_legalMany_4 2 rfl ?_
  refine z_bipush C (28 : Int32) dX6_legalMany_5 (by decide) ?_
  refine z_icmp_ge C 32 dX6_legalMany_7 (by decide) (fun c7 => ?_) (fun c7 => ?_)
  · replace hf := ip c7 hf
    refine z_iload_n C dX6_legalMany_32 1 rfl ?_
    obtain rfl := Option.some.inj hf
    exact z_ireturn C dX6_legalMany_33
  · replace hf := iN c7 hf
    refine z_iload_n C dX6_legalMany_10 1 rfl ?_
    refine z_aload_n C dX6_legalMany_11 0 rfl ?_
    refine z_iload_n C dX6_legalMany_12 2 rfl ?_
    obtain ⟨q13, hq13, hf⟩ := bd_some hf
    refine iv_X6_102 C [.ref a, .int x2] [.int x1] (ct_X6_reason hq13) rfl (by decide) rfl (Nat.le_of_ble_eq_true rfl) z_k0 dX6_legalMany_13 ?_
    refine z_if_ne C 23 dX6_legalMany_16 (by decide) (fun c16 => ?_) (fun c16 => ?_)
    · replace hf := iN c16 hf
      refine z_iconst C (0 : Int32) dX6_legalMany_23 (by decide) ?_
      exact z_sub [0, 2] rfl (w_X6_legalMany_b24 C hK4 hf)
    · replace hf := ip c16 hf
      refine z_iconst C (1 : Int32) dX6_legalMany_19 (by decide) ?_
      refine z_goto C 24 dX6_legalMany_20 (by decide) ?_
      exact z_sub [0, 2] rfl (w_X6_legalMany_b24 C hK4 hf)
def f_X6_legalMany (n : Nat) (f : Nat → Int32) : Option Int32 :=
  lo2 (f_X6_legalMany_h4 n f) n (0 : Int32) (0 : Int32)
set_option maxRecDepth 100000 in
set_option maxHeartbeats 4000000 in
theorem ct_X6_legalMany {E : zE} {l : Launch} {h0 : Hp} {a : Nat} {n : Nat} {f : Nat → Int32} {r : Int32}  (hf : f_X6_legalMany n f = some r) : zM E l 8 yX6_legalMany cX6_legalMany 3 (some .int) [.ref a] (pI E h0 a 217 f) (some (.int r)) (pI E h0 a 217 f) := by
  refine zM_of (lv := [(0, .ref a)]) (by decide +kernel) (Nat.le_of_ble_eq_true rfl) rfl (fun X hX C => ?_)
  subst hX
  replace C : zC E X RX6 cX6_legalMany 3 (some .int) 8 := C
  unfold f_X6_legalMany at hf
  refine z_iconst C (0 : Int32) dX6_legalMany_0 (by decide) ?_
  refine z_istore_n (lv' := [(1, .int (0 : Int32)), (0, .ref a)]) C dX6_legalMany_1 (by decide) rfl ?_
  refine z_iconst C (0 : Int32) dX6_legalMany_2 (by decide) ?_
  refine z_istore_n (lv' := [(2, .int (0 : Int32)), (1, .int (0 : Int32)), (0, .ref a)]) C dX6_legalMany_3 (by decide) rfl ?_
  exact z_sub [2, 1, 0] rfl (w_X6_legalMany_h4 C n _ _ _ hf)
/-! X6_legalAt: depth 8 -/
def f_X6_legalAt_b27 (n : Nat) (f : Nat → Int32) (x1 : Int32) (K4 : Int32 → Int32 → Option Int32)  (x2 : Int32) (x3 : Int32) : Option Int32 :=
  K4 x2 (x3 + 1)
set_option maxRecDepth 100000 in
set_option maxHeartbeats 4000000 in
theorem w_X6_legalAt_b27 {E : zE} {X : zX} {h0 : Hp} {a : Nat} {n : Nat} {f : Nat → Int32} {x1 : Int32} {K4 : Int32 → Int32 → Option Int32}  (C : zC E X RX6 cX6_legalAt 4 (some .int) 8)  (hK4 : ∀ (x2 : Int32) (x3 : Int32) (r : Int32), K4 x2 x3 = some r → zW E X 4 0 0 (MQ (xb X) (zQ E (some (.int r)) (pI E h0 a 217 f)) (xa X) (xs X) 0 0 (zA E)) 4 (pI E h0 a 217 f) [(0, .ref a), (2, .int x2), (3, .int x3)] []) {x2 : Int32} {x3 : Int32} {r : Int32} (hf : f_X6_legalAt_b27 n f x1 K4 x2 x3 = some r) : zW E X 4 0 0 (MQ (xb X) (zQ E (some (.int r)) (pI E h0 a 217 f)) (xa X) (xs X) 0 0 (zA E)) 27 (pI E h0 a 217 f) [(0, .ref a), (2, .int x2), (3, .int x3)] [] := by
  unfold f_X6_legalAt_b27 at hf
  refine z_iinc (lv' := [(3, .int (x3 + 1)), (0, .ref a), (2, .int x2)]) C dX6_legalAt_27 2 (x3 + 1) rfl rfl (by decide) rfl ?_
  refine z_goto C 4 dX6_legalAt_30 (by decide) ?_
  exact z_sub [1, 2, 0] rfl (hK4 _ _ _ hf)
def f_X6_legalAt_h4 (n : Nat) (f : Nat → Int32) (x1 : Int32)  (K4 : Int32 → Int32 → Option Int32) (x2 : Int32) (x3 : Int32) : Option Int32 :=
  if (28 : Int32) ≤ x3 then (some (-1 : Int32)) else ((f_X6_reason n f x3).bind (fun q12 => if q12 = 0 then (if x2 = 0 then (some x3) else (f_X6_legalAt_b27 n f x1 K4 (x2 + (-1)) x3)) else (f_X6_legalAt_b27 n f x1 K4 x2 x3)))
set_option maxRecDepth 100000 in
set_option maxHeartbeats 4000000 in
theorem w_X6_legalAt_h4 {E : zE} {X : zX} {h0 : Hp} {a : Nat} {n : Nat} {f : Nat → Int32} {x1 : Int32}   (C : zC E X RX6 cX6_legalAt 4 (some .int) 8)   : ∀ (q : Nat) (x2 : Int32) (x3 : Int32) (r : Int32), lo2 (f_X6_legalAt_h4 n f x1) q x2 x3 = some r → zW E X 4 0 0 (MQ (xb X) (zQ E (some (.int r)) (pI E h0 a 217 f)) (xa X) (xs X) 0 0 (zA E)) 4 (pI E h0 a 217 f) [(0, .ref a), (2, .int x2), (3, .int x3)] [] := by
  refine lo2_ind _ ?_
  intro K4 hK4 x2 x3 r hf
  unfold f_X6_legalAt_h4 at hf
  refine z_iload_n C dX6_legalAt_4 2 rfl ?_
  refine z_bipush C (28 : Int32) dX6_legalAt_5 (by decide) ?_
  refine z_icmp_ge C 33 dX6_legalAt_7 (by decide) (fun c7 => ?_) (fun c7 => ?_)
  · replace hf := ip c7 hf
    refine z_iconst C (-1 : Int32) dX6_legalAt_33 (by decide) ?_
    obtain rfl := Option.some.inj hf
    exact z_ireturn C dX6_legalAt_34
  · replace hf := iN c7 hf
    refine z_aload_n C dX6_legalAt_10 0 rfl ?_
    refine z_iload_n C dX6_legalAt_11 2 rfl ?_
    obtain ⟨q12, hq12, hf⟩ := bd_some hf
    refine iv_X6_102 C [.ref a, .int x3] [] (ct_X6_reason hq12) rfl (by decide) rfl (Nat.le_of_ble_eq_true rfl) z_k0 dX6_legalAt_12 ?_
    refine z_if_ne C 27 dX6_legalAt_15 (by decide) (fun c15 => ?_) (fun c15 => ?_)
    · replace hf := iN c15 hf
      exact z_sub [0, 1, 2] rfl (w_X6_legalAt_b27 C hK4 hf)
    · replace hf := ip c15 hf
      refine z_iload_n C dX6_legalAt_18 1 rfl ?_
      refine z_if_ne C 24 dX6_legalAt_19 (by decide) (fun c19 => ?_) (fun c19 => ?_)
      · replace hf := iN c19 hf
        refine z_iinc (lv' := [(2, .int (x2 + (-1))), (0, .ref a), (3, .int x3)]) C dX6_legalAt_24 1 (x2 + (-1)) rfl rfl (by decide) rfl ?_
        exact z_sub [1, 0, 2] rfl (w_X6_legalAt_b27 C hK4 hf)
      · replace hf := ip c19 hf
        refine z_iload_n C dX6_legalAt_22 2 rfl ?_
        obtain rfl := Option.some.inj hf
        exact z_ireturn C dX6_legalAt_23
def f_X6_legalAt (n : Nat) (f : Nat → Int32) (x1 : Int32) : Option Int32 :=
  lo2 (f_X6_legalAt_h4 n f x1) n x1 (0 : Int32)
set_option maxRecDepth 100000 in
set_option maxHeartbeats 4000000 in
theorem ct_X6_legalAt {E : zE} {l : Launch} {h0 : Hp} {a : Nat} {n : Nat} {f : Nat → Int32} {x1 : Int32} {r : Int32}  (hf : f_X6_legalAt n f x1 = some r) : zM E l 8 yX6_legalAt cX6_legalAt 4 (some .int) [.ref a, .int x1] (pI E h0 a 217 f) (some (.int r)) (pI E h0 a 217 f) := by
  refine zM_of (lv := [(0, .ref a), (1, .int x1)]) (by decide +kernel) (Nat.le_of_ble_eq_true rfl) rfl (fun X hX C => ?_)
  subst hX
  replace C : zC E X RX6 cX6_legalAt 4 (some .int) 8 := C
  unfold f_X6_legalAt at hf
  refine z_iload_n C dX6_legalAt_0 1 rfl ?_
  refine z_istore_n (lv' := [(2, .int x1), (0, .ref a), (1, .int x1)]) C dX6_legalAt_1 (by decide) rfl ?_
  refine z_iconst C (0 : Int32) dX6_legalAt_2 (by decide) ?_
  refine z_istore_n (lv' := [(3, .int (0 : Int32)), (2, .int x1), (0, .ref a), (1, .int x1)]) C dX6_legalAt_3 (by decide) rfl ?_
  exact z_sub [2, 1, 0] rfl (w_X6_legalAt_h4 C n _ _ _ hf)
/-! X6_bestOf: depth 8 -/
def f_X6_bestOf_b46 (n : Nat) (f : Nat → Int32) (K4 : Int32 → Int32 → Option Int32)  (x2 : Int32) (s0 : Int32) : Option Int32 :=
  K4 s0 (x2 + 1)
set_option maxRecDepth 100000 in
set_option maxHeartbeats 4000000 in
theorem w_X6_bestOf_b46 {E : zE} {X : zX} {h0 : Hp} {a : Nat} {n : Nat} {f : Nat → Int32} {K4 : Int32 → Int32 → Option Int32}  (C : zC E X RX6 cX6_bestOf 3 (some .int) 8)  (hK4 : ∀ (x1 : Int32) (x2 : Int32) (r : Int32), K4 x1 x2 = some r → zW E X 3 0 0 (MQ (xb X) (zQ E (some (.int r)) (pI E h0 a 217 f)) (xa X) (xs X) 0 0 (zA E)) 4 (pI E h0 a 217 f) [(0, .ref a), (1, .int x1), (2, .int x2)] []) {x2 : Int32} {s0 : Int32} {r : Int32} (hf : f_X6_bestOf_b46 n f K4 x2 s0 = some r) : zW E X 3 0 0 (MQ (xb X) (zQ E (some (.int r)) (pI E h0 a 217 f)) (xa X) (xs X) 0 0 (zA E)) 46 (pI E h0 a 217 f) [(0, .ref a), (2, .int x2)] [.int s0] := by
  unfold f_X6_bestOf_b46 at hf
  refine z_istore_n (lv' := [(1, .int s0), (0, .ref a), (2, .int x2)]) C dX6_bestOf_46 (by decide) rfl ?_
  refine z_iinc (lv' := [(2, .int (x2 + 1)), (1, .int s0), (0, .ref a)]) C dX6_bestOf_47 2 (x2 + 1) rfl rfl (by decide) rfl ?_
  refine z_goto C 4 dX6_bestOf_50 (by decide) ?_
  exact z_sub [2, 1, 0] rfl (hK4 _ _ _ hf)
def f_X6_bestOf_b45 (n : Nat) (f : Nat → Int32) (K4 : Int32 → Int32 → Option Int32)  (x1 : Int32) (x2 : Int32) : Option Int32 :=
  f_X6_bestOf_b46 n f K4 x2 x1
set_option maxRecDepth 100000 in
set_option maxHeartbeats 4000000 in
theorem w_X6_bestOf_b45 {E : zE} {X : zX} {h0 : Hp} {a : Nat} {n : Nat} {f : Nat → Int32} {K4 : Int32 → Int32 → Option Int32}  (C : zC E X RX6 cX6_bestOf 3 (some .int) 8)  (hK4 : ∀ (x1 : Int32) (x2 : Int32) (r : Int32), K4 x1 x2 = some r → zW E X 3 0 0 (MQ (xb X) (zQ E (some (.int r)) (pI E h0 a 217 f)) (xa X) (xs X) 0 0 (zA E)) 4 (pI E h0 a 217 f) [(0, .ref a), (1, .int x1), (2, .int x2)] []) {x1 : Int32} {x2 : Int32} {r : Int32} (hf : f_X6_bestOf_b45 n f K4 x1 x2 = some r) : zW E X 3 0 0 (MQ (xb X) (zQ E (some (.int r)) (pI E h0 a 217 f)) (xa X) (xs X) 0 0 (zA E)) 45 (pI E h0 a 217 f) [(0, .ref a), (1, .int x1), (2, .int x2)] [] := by
  unfold f_X6_bestOf_b45 at hf
  refine z_iload_n C dX6_bestOf_45 1 rfl ?_
  exact z_sub [0, 2] rfl (w_X6_bestOf_b46 C hK4 hf)
def f_X6_bestOf_b41 (n : Nat) (f : Nat → Int32) (K4 : Int32 → Int32 → Option Int32)  (x2 : Int32) : Option Int32 :=
  f_X6_bestOf_b46 n f K4 x2 x2
set_option maxRecDepth 100000 in
set_option maxHeartbeats 4000000 in
theorem w_X6_bestOf_b41 {E : zE} {X : zX} {h0 : Hp} {a : Nat} {n : Nat} {f : Nat → Int32} {K4 : Int32 → Int32 → Option Int32}  (C : zC E X RX6 cX6_bestOf 3 (some .int) 8)  (hK4 : ∀ (x1 : Int32) (x2 : Int32) (r : Int32), K4 x1 x2 = some r → zW E X 3 0 0 (MQ (xb X) (zQ E (some (.int r)) (pI E h0 a 217 f)) (xa X) (xs X) 0 0 (zA E)) 4 (pI E h0 a 217 f) [(0, .ref a), (1, .int x1), (2, .int x2)] []) {x2 : Int32} {r : Int32} (hf : f_X6_bestOf_b41 n f K4 x2 = some r) : zW E X 3 0 0 (MQ (xb X) (zQ E (some (.int r)) (pI E h0 a 217 f)) (xa X) (xs X) 0 0 (zA E)) 41 (pI E h0 a 217 f) [(0, .ref a), (2, .int x2)] [] := by
  unfold f_X6_bestOf_b41 at hf
  refine z_iload_n C dX6_bestOf_41 1 rfl ?_
  refine z_goto C 46 dX6_bestOf_42 (by decide) ?_
  exact z_sub [0, 1] rfl (w_X6_bestOf_b46 C hK4 hf)
def f_X6_bestOf_h4 (n : Nat) (f : Nat → Int32)  (K4 : Int32 → Int32 → Option Int32) (x1 : Int32) (x2 : Int32) : Option Int32 :=
  if (28 : Int32) ≤ x2 then (some x1) else (chk (inB (1 : Int32) 217) (if (f (1 : Int32).toNatClampNeg) = (1 : Int32) then ((f_X6_reason n f x2).bind (fun q19 => if q19 = 0 then (if x1 = (-1 : Int32) then (f_X6_bestOf_b41 n f K4 x2) else ((f_X6_pips n x2).bind (fun q31 => (f_X6_pips n x1).bind (fun q35 => if q31 ≤ q35 then (f_X6_bestOf_b45 n f K4 x1 x2) else (f_X6_bestOf_b41 n f K4 x2))))) else (f_X6_bestOf_b45 n f K4 x1 x2))) else (some x1)))
set_option maxRecDepth 100000 in
set_option maxHeartbeats 4000000 in
theorem w_X6_bestOf_h4 {E : zE} {X : zX} {h0 : Hp} {a : Nat} {n : Nat} {f : Nat → Int32}   (C : zC E X RX6 cX6_bestOf 3 (some .int) 8)   : ∀ (q : Nat) (x1 : Int32) (x2 : Int32) (r : Int32), lo2 (f_X6_bestOf_h4 n f) q x1 x2 = some r → zW E X 3 0 0 (MQ (xb X) (zQ E (some (.int r)) (pI E h0 a 217 f)) (xa X) (xs X) 0 0 (zA E)) 4 (pI E h0 a 217 f) [(0, .ref a), (1, .int x1), (2, .int x2)] [] := by
  refine lo2_ind _ ?_
  intro K4 hK4 x1 x2 r hf
  unfold f_X6_bestOf_h4 at hf
  refine z_iload_n C dX6_bestOf_4 2 rfl ?_
  refine z_bipush C (28 : Int32) dX6_bestOf_5 (by decide) ?_
  refine z_icmp_ge C 53 dX6_bestOf_7 (by decide) (fun c7 => ?_) (fun c7 => ?_)
  · replace hf := ip c7 hf
    refine z_iload_n C dX6_bestOf_53 1 rfl ?_
    obtain rfl := Option.some.inj hf
    exact z_ireturn C dX6_bestOf_54
  · replace hf := iN c7 hf
    refine z_aload_n C dX6_bestOf_10 0 rfl ?_
    refine z_iconst C (1 : Int32) dX6_bestOf_11 (by decide) ?_
    obtain ⟨c12, hf⟩ := chk_some hf
    refine z_iald C pI_a c12 dX6_bestOf_12 ?_
    refine z_iconst C (1 : Int32) dX6_bestOf_13 (by decide) ?_
    refine z_icmp_ne C 53 dX6_bestOf_14 (by decide) (fun c14 => ?_) (fun c14 => ?_)
    · replace hf := iN c14 hf
      refine z_iload_n C dX6_bestOf_53 1 rfl ?_
      obtain rfl := Option.some.inj hf
      exact z_ireturn C dX6_bestOf_54
    · replace hf := ip c14 hf
      refine z_aload_n C dX6_bestOf_17 0 rfl ?_
      refine z_iload_n C dX6_bestOf_18 2 rfl ?_
      obtain ⟨q19, hq19, hf⟩ := bd_some hf
      refine iv_X6_102 C [.ref a, .int x2] [] (ct_X6_reason hq19) rfl (by decide) rfl (Nat.le_of_ble_eq_true rfl) z_k0 dX6_bestOf_19 ?_
      refine z_if_ne C 45 dX6_bestOf_22 (by decide) (fun c22 => ?_) (fun c22 => ?_)
      · replace hf := iN c22 hf
        exact z_sub [0, 1, 2] rfl (w_X6_bestOf_b45 C hK4 hf)
      · replace hf := ip c22 hf
        refine z_iload_n C dX6_bestOf_25 1 rfl ?_
        refine z_iconst C (-1 : Int32) dX6_bestOf_26 (by decide) ?_
        refine z_icmp_eq C 41 dX6_bestOf_27 (by decide) (fun c27 => ?_) (fun c27 => ?_)
        · replace hf := ip c27 hf
          exact z_sub [0, 2] rfl (w_X6_bestOf_b41 C hK4 hf)
        · replace hf := iN c27 hf
          refine z_iload_n C dX6_bestOf_30 2 rfl ?_
          obtain ⟨q31, hq31, hf⟩ := bd_some hf
          refine iv_X6_59 C [.int x2] [] (ct_X6_pips hq31) rfl (by decide) rfl (Nat.le_of_ble_eq_true rfl) z_k0 dX6_bestOf_31 ?_
          refine z_iload_n C dX6_bestOf_34 1 rfl ?_
          obtain ⟨q35, hq35, hf⟩ := bd_some hf
          refine iv_X6_59 C [.int x1] [.int q31] (ct_X6_pips hq35) rfl (by decide) rfl (Nat.le_of_ble_eq_true rfl) z_k0 dX6_bestOf_35 ?_
          refine z_icmp_le C 45 dX6_bestOf_38 (by decide) (fun c38 => ?_) (fun c38 => ?_)
          · replace hf := ip c38 hf
            exact z_sub [0, 1, 2] rfl (w_X6_bestOf_b45 C hK4 hf)
          · replace hf := iN c38 hf
            exact z_sub [0, 2] rfl (w_X6_bestOf_b41 C hK4 hf)
def f_X6_bestOf (n : Nat) (f : Nat → Int32) : Option Int32 :=
  lo2 (f_X6_bestOf_h4 n f) n (-1 : Int32) (0 : Int32)
set_option maxRecDepth 100000 in
set_option maxHeartbeats 4000000 in
theorem ct_X6_bestOf {E : zE} {l : Launch} {h0 : Hp} {a : Nat} {n : Nat} {f : Nat → Int32} {r : Int32}  (hf : f_X6_bestOf n f = some r) : zM E l 8 yX6_bestOf cX6_bestOf 3 (some .int) [.ref a] (pI E h0 a 217 f) (some (.int r)) (pI E h0 a 217 f) := by
  refine zM_of (lv := [(0, .ref a)]) (by decide +kernel) (Nat.le_of_ble_eq_true rfl) rfl (fun X hX C => ?_)
  subst hX
  replace C : zC E X RX6 cX6_bestOf 3 (some .int) 8 := C
  unfold f_X6_bestOf at hf
  refine z_iconst C (-1 : Int32) dX6_bestOf_0 (by decide) ?_
  refine z_istore_n (lv' := [(1, .int (-1 : Int32)), (0, .ref a)]) C dX6_bestOf_1 (by decide) rfl ?_
  refine z_iconst C (0 : Int32) dX6_bestOf_2 (by decide) ?_
  refine z_istore_n (lv' := [(2, .int (0 : Int32)), (1, .int (-1 : Int32)), (0, .ref a)]) C dX6_bestOf_3 (by decide) rfl ?_
  exact z_sub [2, 1, 0] rfl (w_X6_bestOf_h4 C n _ _ _ hf)
/-! X6_allPips: depth 5 -/
def f_X6_allPips_h4 (n : Nat) (f : Nat → Int32)  (K4 : Int32 → Int32 → Option Int32) (x1 : Int32) (x2 : Int32) : Option Int32 :=
  chk (inB (2 : Int32) 217) (if (f (2 : Int32).toNatClampNeg) ≤ x2 then (some x1) else ((f_X6_handPips n f x2).bind (fun q14 => K4 (x1 + q14) (x2 + 1))))
set_option maxRecDepth 100000 in
set_option maxHeartbeats 4000000 in
theorem w_X6_allPips_h4 {E : zE} {X : zX} {h0 : Hp} {a : Nat} {n : Nat} {f : Nat → Int32}   (C : zC E X RX6 cX6_allPips 3 (some .int) 5)   : ∀ (q : Nat) (x1 : Int32) (x2 : Int32) (r : Int32), lo2 (f_X6_allPips_h4 n f) q x1 x2 = some r → zW E X 3 0 0 (MQ (xb X) (zQ E (some (.int r)) (pI E h0 a 217 f)) (xa X) (xs X) 0 0 (zA E)) 4 (pI E h0 a 217 f) [(0, .ref a), (1, .int x1), (2, .int x2)] [] := by
  refine lo2_ind _ ?_
  intro K4 hK4 x1 x2 r hf
  unfold f_X6_allPips_h4 at hf
  refine z_iload_n C dX6_allPips_4 2 rfl ?_
  refine z_aload_n C dX6_allPips_5 0 rfl ?_
  refine z_iconst C (2 : Int32) dX6_allPips_6 (by decide) ?_
  obtain ⟨c7, hf⟩ := chk_some hf
  refine z_iald C pI_a c7 dX6_allPips_7 ?_
  refine z_icmp_ge C 25 dX6_allPips_8 (by decide) (fun c8 => ?_) (fun c8 => ?_)
  · replace hf := ip c8 hf
    refine z_iload_n C dX6_allPips_25 1 rfl ?_
    obtain rfl := Option.some.inj hf
    exact z_ireturn C dX6_allPips_26
  · replace hf := iN c8 hf
    refine z_iload_n C dX6_allPips_11 1 rfl ?_
    refine z_aload_n C dX6_allPips_12 0 rfl ?_
    refine z_iload_n C dX6_allPips_13 2 rfl ?_
    obtain ⟨q14, hq14, hf⟩ := bd_some hf
    refine iv_X6_109 C [.ref a, .int x2] [.int x1] (ct_X6_handPips hq14) rfl (by decide) rfl (Nat.le_of_ble_eq_true rfl) z_k0 dX6_allPips_14 ?_
    refine z_iadd C dX6_allPips_17 ?_
    refine z_istore_n (lv' := [(1, .int (x1 + q14)), (0, .ref a), (2, .int x2)]) C dX6_allPips_18 (by decide) rfl ?_
    refine z_iinc (lv' := [(2, .int (x2 + 1)), (1, .int (x1 + q14)), (0, .ref a)]) C dX6_allPips_19 2 (x2 + 1) rfl rfl (by decide) rfl ?_
    refine z_goto C 4 dX6_allPips_22 (by decide) ?_
    exact z_sub [2, 1, 0] rfl (hK4 _ _ _ hf)
def f_X6_allPips (n : Nat) (f : Nat → Int32) : Option Int32 :=
  lo2 (f_X6_allPips_h4 n f) n (0 : Int32) (0 : Int32)
set_option maxRecDepth 100000 in
set_option maxHeartbeats 4000000 in
theorem ct_X6_allPips {E : zE} {l : Launch} {h0 : Hp} {a : Nat} {n : Nat} {f : Nat → Int32} {r : Int32}  (hf : f_X6_allPips n f = some r) : zM E l 5 yX6_allPips cX6_allPips 3 (some .int) [.ref a] (pI E h0 a 217 f) (some (.int r)) (pI E h0 a 217 f) := by
  refine zM_of (lv := [(0, .ref a)]) (by decide +kernel) (Nat.le_of_ble_eq_true rfl) rfl (fun X hX C => ?_)
  subst hX
  replace C : zC E X RX6 cX6_allPips 3 (some .int) 5 := C
  unfold f_X6_allPips at hf
  refine z_iconst C (0 : Int32) dX6_allPips_0 (by decide) ?_
  refine z_istore_n (lv' := [(1, .int (0 : Int32)), (0, .ref a)]) C dX6_allPips_1 (by decide) rfl ?_
  refine z_iconst C (0 : Int32) dX6_allPips_2 (by decide) ?_
  refine z_istore_n (lv' := [(2, .int (0 : Int32)), (1, .int (0 : Int32)), (0, .ref a)]) C dX6_allPips_3 (by decide) rfl ?_
  exact z_sub [2, 1, 0] rfl (w_X6_allPips_h4 C n _ _ _ hf)
/-! X6_wins: depth 6 -/
def f_X6_wins (n : Nat) (f : Nat → Int32) (x1 : Int32) : Option (Nat → Int32) :=
  chk (inB ((13 : Int32) + x1) 217) ((f_X6_allPips n f).bind (fun q8 => (f_X6_handPips n f x1).bind (fun q14 => chk (inB ((13 : Int32) + x1) 217) (stt (upd (f) ((13 : Int32) + x1).toNatClampNeg ((f ((13 : Int32) + x1).toNatClampNeg) + (q8 - ((2 : Int32) * q14)))) (fun fn1 => chk (inB ((17 : Int32) + x1) 217) (chk (inB ((17 : Int32) + x1) 217) (stt (upd (fn1) ((17 : Int32) + x1).toNatClampNeg ((fn1 ((17 : Int32) + x1).toNatClampNeg) + (1 : Int32))) (fun fn2 => chk (inB (1 : Int32) 217) (some (upd (fn2) (1 : Int32).toNatClampNeg (2 : Int32)))))))))))
set_option maxRecDepth 100000 in
set_option maxHeartbeats 4000000 in
theorem ct_X6_wins {E : zE} {l : Launch} {h0 : Hp} {a : Nat} {n : Nat} {f : Nat → Int32} {x1 : Int32} {r : (Nat → Int32)}  (hf : f_X6_wins n f x1 = some r) : zM E l 6 yX6_wins cX6_wins 2 none [.ref a, .int x1] (pI E h0 a 217 f) none (pI E h0 a 217 r) := by
  refine zM_of (lv := [(0, .ref a), (1, .int x1)]) (by decide +kernel) (Nat.le_of_ble_eq_true rfl) rfl (fun X hX C => ?_)
  subst hX
  replace C : zC E X RX6 cX6_wins 2 none 6 := C
  unfold f_X6_wins at hf
  refine z_aload_n C dX6_wins_0 0 rfl ?_
  refine z_bipush C (13 : Int32) dX6_wins_1 (by decide) ?_
  refine z_iload_n C dX6_wins_3 1 rfl ?_
  refine z_iadd C dX6_wins_4 ?_
  refine z_dup2 C dX6_wins_5 rfl rfl ?_
  obtain ⟨c6, hf⟩ := chk_some hf
  refine z_iald C pI_a c6 dX6_wins_6 ?_
  refine z_aload_n C dX6_wins_7 0 rfl ?_
  obtain ⟨q8, hq8, hf⟩ := bd_some hf
  refine iv_X6_112 C [.ref a] [.int (f ((13 : Int32) + x1).toNatClampNeg), .int ((13 : Int32) + x1), .ref a] (ct_X6_allPips hq8) rfl (by decide) rfl (Nat.le_of_ble_eq_true rfl) z_k0 dX6_wins_8 ?_
  refine z_iconst C (2 : Int32) dX6_wins_11 (by decide) ?_
  refine z_aload_n C dX6_wins_12 0 rfl ?_
  refine z_iload_n C dX6_wins_13 1 rfl ?_
  obtain ⟨q14, hq14, hf⟩ := bd_some hf
  refine iv_X6_109 C [.ref a, .int x1] [.int (2 : Int32), .int q8, .int (f ((13 : Int32) + x1).toNatClampNeg), .int ((13 : Int32) + x1), .ref a] (ct_X6_handPips hq14) rfl (by decide) rfl (Nat.le_of_ble_eq_true rfl) z_k0 dX6_wins_14 ?_
  refine z_imul C dX6_wins_17 ?_
  refine z_isub C dX6_wins_18 ?_
  refine z_iadd C dX6_wins_19 ?_
  obtain ⟨c20, hf⟩ := chk_some hf
  refine z_iast C pI_a c20 dX6_wins_20 _ (pI_w _) ?_
  obtain ⟨fn1, efn1, hf⟩ := st_some hf
  refine z_heap (congrArg (fun z => (pI E h0 a 217 z)) efn1.symm) ?_
  refine z_aload_n C dX6_wins_21 0 rfl ?_
  refine z_bipush C (17 : Int32) dX6_wins_22 (by decide) ?_
  refine z_iload_n C dX6_wins_24 1 rfl ?_
  refine z_iadd C dX6_wins_25 ?_
  refine z_dup2 C dX6_wins_26 rfl rfl ?_
  obtain ⟨c27, hf⟩ := chk_some hf
  refine z_iald C pI_a c27 dX6_wins_27 ?_
  refine z_iconst C (1 : Int32) dX6_wins_28 (by decide) ?_
  refine z_iadd C dX6_wins_29 ?_
  obtain ⟨c30, hf⟩ := chk_some hf
  refine z_iast C pI_a c30 dX6_wins_30 _ (pI_w _) ?_
  obtain ⟨fn2, efn2, hf⟩ := st_some hf
  refine z_heap (congrArg (fun z => (pI E h0 a 217 z)) efn2.symm) ?_
  refine z_aload_n C dX6_wins_31 0 rfl ?_
  refine z_iconst C (1 : Int32) dX6_wins_32 (by decide) ?_
  refine z_iconst C (2 : Int32) dX6_wins_33 (by decide) ?_
  obtain ⟨c34, hf⟩ := chk_some hf
  refine z_iast C pI_a c34 dX6_wins_34 _ (pI_w _) ?_
  obtain rfl := Option.some.inj hf
  exact z_return C dX6_wins_35
/-! X6_nextTurn: depth 1 -/
def f_X6_nextTurn (f : Nat → Int32) : Option (Nat → Int32) :=
  chk (inB (3 : Int32) 217) (chk (inB (2 : Int32) 217) (chk (¬ (f (2 : Int32).toNatClampNeg) = 0) (chk (inB (3 : Int32) 217) (stt (upd (f) (3 : Int32).toNatClampNeg (jrem ((f (3 : Int32).toNatClampNeg) + (1 : Int32)) (f (2 : Int32).toNatClampNeg))) (fun fn1 => some fn1)))))
set_option maxRecDepth 100000 in
set_option maxHeartbeats 4000000 in
theorem ct_X6_nextTurn {E : zE} {l : Launch} {h0 : Hp} {a : Nat} {f : Nat → Int32} {r : (Nat → Int32)}  (hf : f_X6_nextTurn f = some r) : zM E l 1 yX6_nextTurn cX6_nextTurn 1 none [.ref a] (pI E h0 a 217 f) none (pI E h0 a 217 r) := by
  refine zM_of (lv := [(0, .ref a)]) (by decide +kernel) (Nat.le_of_ble_eq_true rfl) rfl (fun X hX C => ?_)
  subst hX
  replace C : zC E X RX6 cX6_nextTurn 1 none 1 := C
  unfold f_X6_nextTurn at hf
  refine z_aload_n C dX6_nextTurn_0 0 rfl ?_
  refine z_iconst C (3 : Int32) dX6_nextTurn_1 (by decide) ?_
  refine z_aload_n C dX6_nextTurn_2 0 rfl ?_
  refine z_iconst C (3 : Int32) dX6_nextTurn_3 (by decide) ?_
  obtain ⟨c4, hf⟩ := chk_some hf
  refine z_iald C pI_a c4 dX6_nextTurn_4 ?_
  refine z_iconst C (1 : Int32) dX6_nextTurn_5 (by decide) ?_
  refine z_iadd C dX6_nextTurn_6 ?_
  refine z_aload_n C dX6_nextTurn_7 0 rfl ?_
  refine z_iconst C (2 : Int32) dX6_nextTurn_8 (by decide) ?_
  obtain ⟨c9, hf⟩ := chk_some hf
  refine z_iald C pI_a c9 dX6_nextTurn_9 ?_
  obtain ⟨c10, hf⟩ := chk_some hf
  refine z_irem C dX6_nextTurn_10 c10 ?_
  obtain ⟨c11, hf⟩ := chk_some hf
  refine z_iast C pI_a c11 dX6_nextTurn_11 _ (pI_w _) ?_
  obtain ⟨fn1, efn1, hf⟩ := st_some hf
  refine z_heap (congrArg (fun z => (pI E h0 a 217 z)) efn1.symm) ?_
  obtain rfl := Option.some.inj hf
  exact z_return C dX6_nextTurn_12
/-! X6_put: depth 7 -/
def f_X6_put_b169 (n : Nat) (x1 : Int32) (x2 : Int32)   (f : Nat → Int32) (x3 : Int32) : Option (Nat → Int32) :=
  (f_X6_handMany n f x3).bind (fun q171 => if q171 = 0 then ((f_X6_wins n f x3).bind (fun q179 => some q179)) else ((f_X6_nextTurn f).bind (fun q186 => some q186)))
set_option maxRecDepth 100000 in
set_option maxHeartbeats 4000000 in
theorem w_X6_put_b169 {E : zE} {X : zX} {h0 : Hp} {a : Nat} {n : Nat} {x1 : Int32} {x2 : Int32}   (C : zC E X RX6 cX6_put 7 none 7)   {f : Nat → Int32} {x3 : Int32} {r : (Nat → Int32)} (hf : f_X6_put_b169 n x1 x2 f x3 = some r) : zW E X 7 0 0 (MQ (xb X) (zQ E none (pI E h0 a 217 r)) (xa X) (xs X) 0 0 (zA E)) 169 (pI E h0 a 217 f) [(0, .ref a), (3, .int x3)] [] := by
  unfold f_X6_put_b169 at hf
  refine z_aload_n C dX6_put_169 0 rfl ?_
  refine z_iload_n C dX6_put_170 1 rfl ?_
  obtain ⟨q171, hq171, hf⟩ := bd_some hf
  refine iv_X6_119 C [.ref a, .int x3] [] (ct_X6_handMany hq171) rfl (by decide) rfl (Nat.le_of_ble_eq_true rfl) z_k0 dX6_put_171 ?_
  refine z_if_ne C 185 dX6_put_174 (by decide) (fun c174 => ?_) (fun c174 => ?_)
  · replace hf := iN c174 hf
    refine z_aload_n C dX6_put_185 0 rfl ?_
    obtain ⟨q186, hq186, hf⟩ := bd_some hf
    refine iv_X6_126 C [.ref a] [] (ct_X6_nextTurn hq186) rfl (by decide) rfl (Nat.le_of_ble_eq_true rfl) z_k0 dX6_put_186 ?_
    obtain rfl := Option.some.inj hf
    exact z_return C dX6_put_189
  · replace hf := ip c174 hf
    refine z_aload_n C dX6_put_177 0 rfl ?_
    refine z_iload_n C dX6_put_178 1 rfl ?_
    obtain ⟨q179, hq179, hf⟩ := bd_some hf
    refine iv_X6_122 C [.ref a, .int x3] [] (ct_X6_wins hq179) rfl (by decide) rfl (Nat.le_of_ble_eq_true rfl) z_k0 dX6_put_179 ?_
    refine z_goto C 189 dX6_put_182 (by decide) ?_
    obtain rfl := Option.some.inj hf
    exact z_return C dX6_put_189
def f_X6_put_b164 (n : Nat) (x1 : Int32) (x2 : Int32)   (f : Nat → Int32) (x3 : Int32) (s0 : Int32) : Option (Nat → Int32) :=
  chk (inB s0 217) (chk (inB s0 217) (f_X6_put_b169 n x1 x2 (upd (f) s0.toNatClampNeg ((f s0.toNatClampNeg) + (1 : Int32))) x3))
set_option maxRecDepth 100000 in
set_option maxHeartbeats 4000000 in
theorem w_X6_put_b164 {E : zE} {X : zX} {h0 : Hp} {a : Nat} {n : Nat} {x1 : Int32} {x2 : Int32}   (C : zC E X RX6 cX6_put 7 none 7)   {f : Nat → Int32} {x3 : Int32} {s0 : Int32} {r : (Nat → Int32)} (hf : f_X6_put_b164 n x1 x2 f x3 s0 = some r) : zW E X 7 0 0 (MQ (xb X) (zQ E none (pI E h0 a 217 r)) (xa X) (xs X) 0 0 (zA E)) 164 (pI E h0 a 217 f) [(0, .ref a), (3, .int x3)] [.int s0, .ref a] := by
  unfold f_X6_put_b164 at hf
  refine z_dup2 C dX6_put_164 rfl rfl ?_
  obtain ⟨c165, hf⟩ := chk_some hf
  refine z_iald C pI_a c165 dX6_put_165 ?_
  refine z_iconst C (1 : Int32) dX6_put_166 (by decide) ?_
  refine z_iadd C dX6_put_167 ?_
  obtain ⟨c168, hf⟩ := chk_some hf
  refine z_iast C pI_a c168 dX6_put_168 _ (pI_w _) ?_
  exact z_sub [0, 1] rfl (w_X6_put_b169 C hf)
def f_X6_put_b148 (n : Nat) (x1 : Int32) (x2 : Int32)   (f : Nat → Int32) (x3 : Int32) (s0 : Int32) (s1 : Int32) (s2 : Int32) : Option (Nat → Int32) :=
  chk (¬ (4 : Int32) = 0) (chk (inB s2 217) (if x2 = 0 then (f_X6_put_b164 n x1 x2 (upd (f) s2.toNatClampNeg (jrem (s1 + s0) (4 : Int32))) x3 (11 : Int32)) else (f_X6_put_b164 n x1 x2 (upd (f) s2.toNatClampNeg (jrem (s1 + s0) (4 : Int32))) x3 (12 : Int32))))
set_option maxRecDepth 100000 in
set_option maxHeartbeats 4000000 in
theorem w_X6_put_b148 {E : zE} {X : zX} {h0 : Hp} {a : Nat} {n : Nat} {x1 : Int32} {x2 : Int32}   (C : zC E X RX6 cX6_put 7 none 7)   {f : Nat → Int32} {x3 : Int32} {s0 : Int32} {s1 : Int32} {s2 : Int32} {r : (Nat → Int32)} (hf : f_X6_put_b148 n x1 x2 f x3 s0 s1 s2 = some r) : zW E X 7 0 0 (MQ (xb X) (zQ E none (pI E h0 a 217 r)) (xa X) (xs X) 0 0 (zA E)) 148 (pI E h0 a 217 f) [(0, .ref a), (2, .int x2), (3, .int x3)] [.int s0, .int s1, .int s2, .ref a] := by
  unfold f_X6_put_b148 at hf
  refine z_iadd C dX6_put_148 ?_
  refine z_iconst C (4 : Int32) dX6_put_149 (by decide) ?_
  obtain ⟨c150, hf⟩ := chk_some hf
  refine z_irem C dX6_put_150 c150 ?_
  obtain ⟨c151, hf⟩ := chk_some hf
  refine z_iast C pI_a c151 dX6_put_151 _ (pI_w _) ?_
  refine z_aload_n C dX6_put_152 0 rfl ?_
  refine z_iload_n C dX6_put_153 1 rfl ?_
  refine z_if_eq C 162 dX6_put_154 (by decide) (fun c154 => ?_) (fun c154 => ?_)
  · replace hf := ip c154 hf
    refine z_bipush C (11 : Int32) dX6_put_162 (by decide) ?_
    exact z_sub [0, 2] rfl (w_X6_put_b164 C hf)
  · replace hf := iN c154 hf
    refine z_bipush C (12 : Int32) dX6_put_157 (by decide) ?_
    refine z_goto C 164 dX6_put_159 (by decide) ?_
    exact z_sub [0, 2] rfl (w_X6_put_b164 C hf)
def f_X6_put_b81 (n : Nat) (x1 : Int32) (x2 : Int32)   (f : Nat → Int32) (x3 : Int32) (s0 : Int32) (s1 : Int32) : Option (Nat → Int32) :=
  chk (inB s1 217) (chk (inB (5 : Int32) 217) (chk (inB (5 : Int32) 217) (stt (upd ((upd (f) s1.toNatClampNeg s0)) (5 : Int32).toNatClampNeg (((upd (f) s1.toNatClampNeg s0) (5 : Int32).toNatClampNeg) + (1 : Int32))) (fun fn4 => chk (inB (10 : Int32) 217) (chk (inB (10 : Int32) 217) (stt (upd (fn4) (10 : Int32).toNatClampNeg ((fn4 (10 : Int32).toNatClampNeg) + (1 : Int32))) (fun fn5 => chk (inB (6 : Int32) 217) ((f_X6_endBehind n x1 (fn5 (6 : Int32).toNatClampNeg)).bind (fun q105 => chk (inB (6 : Int32) 217) (chk (inB ((21 : Int32) + x1) 217) (stt (upd ((upd (fn5) (6 : Int32).toNatClampNeg q105)) ((21 : Int32) + x1).toNatClampNeg (-1 : Int32)) (fun fn6 => chk (inB (8 : Int32) 217) ((f_X6_lesser n x1).bind (fun q122 => (f_X6_greater n x1).bind (fun q126 => if q122 = q126 then (chk (inB (7 : Int32) 217) (if x2 = 0 then (f_X6_put_b148 n x1 x2 (upd (fn6) (8 : Int32).toNatClampNeg (0 : Int32)) x3 (1 : Int32) ((upd (fn6) (8 : Int32).toNatClampNeg (0 : Int32)) (7 : Int32).toNatClampNeg) (7 : Int32)) else (f_X6_put_b148 n x1 x2 (upd (fn6) (8 : Int32).toNatClampNeg (0 : Int32)) x3 (3 : Int32) ((upd (fn6) (8 : Int32).toNatClampNeg (0 : Int32)) (7 : Int32).toNatClampNeg) (7 : Int32)))) else (f_X6_put_b169 n x1 x2 (upd (fn6) (8 : Int32).toNatClampNeg (0 : Int32)) x3))))))))))))))))
set_option maxRecDepth 100000 in
set_option maxHeartbeats 4000000 in
theorem w_X6_put_b81 {E : zE} {X : zX} {h0 : Hp} {a : Nat} {n : Nat} {x1 : Int32} {x2 : Int32}   (C : zC E X RX6 cX6_put 7 none 7)   {f : Nat → Int32} {x3 : Int32} {s0 : Int32} {s1 : Int32} {r : (Nat → Int32)} (hf : f_X6_put_b81 n x1 x2 f x3 s0 s1 = some r) : zW E X 7 0 0 (MQ (xb X) (zQ E none (pI E h0 a 217 r)) (xa X) (xs X) 0 0 (zA E)) 81 (pI E h0 a 217 f) [(0, .ref a), (1, .int x1), (2, .int x2), (3, .int x3)] [.int s0, .int s1, .ref a] := by
  unfold f_X6_put_b81 at hf
  obtain ⟨c81, hf⟩ := chk_some hf
  refine z_iast C pI_a c81 dX6_put_81 _ (pI_w _) ?_
  refine z_aload_n C dX6_put_82 0 rfl ?_
  refine z_iconst C (5 : Int32) dX6_put_83 (by decide) ?_
  refine z_dup2 C dX6_put_84 rfl rfl ?_
  obtain ⟨c85, hf⟩ := chk_some hf
  refine z_iald C pI_a c85 dX6_put_85 ?_
  refine z_iconst C (1 : Int32) dX6_put_86 (by decide) ?_
  refine z_iadd C dX6_put_87 ?_
  obtain ⟨c88, hf⟩ := chk_some hf
  refine z_iast C pI_a c88 dX6_put_88 _ (pI_w _) ?_
  obtain ⟨fn4, efn4, hf⟩ := st_some hf
  refine z_heap (congrArg (fun z => (pI E h0 a 217 z)) efn4.symm) ?_
  refine z_aload_n C dX6_put_89 0 rfl ?_
  refine z_bipush C (10 : Int32) dX6_put_90 (by decide) ?_
  refine z_dup2 C dX6_put_92 rfl rfl ?_
  obtain ⟨c93, hf⟩ := chk_some hf
  refine z_iald C pI_a c93 dX6_put_93 ?_
  refine z_iconst C (1 : Int32) dX6_put_94 (by decide) ?_
  refine z_iadd C dX6_put_95 ?_
  obtain ⟨c96, hf⟩ := chk_some hf
  refine z_iast C pI_a c96 dX6_put_96 _ (pI_w _) ?_
  obtain ⟨fn5, efn5, hf⟩ := st_some hf
  refine z_heap (congrArg (fun z => (pI E h0 a 217 z)) efn5.symm) ?_
  refine z_aload_n C dX6_put_97 0 rfl ?_
  refine z_bipush C (6 : Int32) dX6_put_98 (by decide) ?_
  refine z_iload_n C dX6_put_100 1 rfl ?_
  refine z_aload_n C dX6_put_101 0 rfl ?_
  refine z_bipush C (6 : Int32) dX6_put_102 (by decide) ?_
  obtain ⟨c104, hf⟩ := chk_some hf
  refine z_iald C pI_a c104 dX6_put_104 ?_
  obtain ⟨q105, hq105, hf⟩ := bd_some hf
  refine iv_X6_115 C [.int x1, .int (fn5 (6 : Int32).toNatClampNeg)] [.int (6 : Int32), .ref a] (ct_X6_endBehind hq105) rfl (by decide) rfl (Nat.le_of_ble_eq_true rfl) z_k0 dX6_put_105 ?_
  obtain ⟨c108, hf⟩ := chk_some hf
  refine z_iast C pI_a c108 dX6_put_108 _ (pI_w _) ?_
  refine z_aload_n C dX6_put_109 0 rfl ?_
  refine z_bipush C (21 : Int32) dX6_put_110 (by decide) ?_
  refine z_iload_n C dX6_put_112 1 rfl ?_
  refine z_iadd C dX6_put_113 ?_
  refine z_iconst C (-1 : Int32) dX6_put_114 (by decide) ?_
  obtain ⟨c115, hf⟩ := chk_some hf
  refine z_iast C pI_a c115 dX6_put_115 _ (pI_w _) ?_
  obtain ⟨fn6, efn6, hf⟩ := st_some hf
  refine z_heap (congrArg (fun z => (pI E h0 a 217 z)) efn6.symm) ?_
  refine z_aload_n C dX6_put_116 0 rfl ?_
  refine z_bipush C (8 : Int32) dX6_put_117 (by decide) ?_
  refine z_iconst C (0 : Int32) dX6_put_119 (by decide) ?_
  obtain ⟨c120, hf⟩ := chk_some hf
  refine z_iast C pI_a c120 dX6_put_120 _ (pI_w _) ?_
  refine z_iload_n C dX6_put_121 1 rfl ?_
  obtain ⟨q122, hq122, hf⟩ := bd_some hf
  refine iv_X6_46 C [.int x1] [] (ct_X6_lesser hq122) rfl (by decide) rfl (Nat.le_of_ble_eq_true rfl) z_k0 dX6_put_122 ?_
  refine z_iload_n C dX6_put_125 1 rfl ?_
  obtain ⟨q126, hq126, hf⟩ := bd_some hf
  refine iv_X6_50 C [.int x1] [.int q122] (ct_X6_greater hq126) rfl (by decide) rfl (Nat.le_of_ble_eq_true rfl) z_k0 dX6_put_126 ?_
  refine z_icmp_ne C 169 dX6_put_129 (by decide) (fun c129 => ?_) (fun c129 => ?_)
  · replace hf := iN c129 hf
    exact z_sub [0, 3] rfl (w_X6_put_b169 C hf)
  · replace hf := ip c129 hf
    refine z_aload_n C dX6_put_132 0 rfl ?_
    refine z_bipush C (7 : Int32) dX6_put_133 (by decide) ?_
    refine z_aload_n C dX6_put_135 0 rfl ?_
    refine z_bipush C (7 : Int32) dX6_put_136 (by decide) ?_
    obtain ⟨c138, hf⟩ := chk_some hf
    refine z_iald C pI_a c138 dX6_put_138 ?_
    refine z_iload_n C dX6_put_139 2 rfl ?_
    refine z_if_eq C 147 dX6_put_140 (by decide) (fun c140 => ?_) (fun c140 => ?_)
    · replace hf := ip c140 hf
      refine z_iconst C (1 : Int32) dX6_put_147 (by decide) ?_
      exact z_sub [0, 2, 3] rfl (w_X6_put_b148 C hf)
    · replace hf := iN c140 hf
      refine z_iconst C (3 : Int32) dX6_put_143 (by decide) ?_
      refine z_goto C 148 dX6_put_144 (by decide) ?_
      exact z_sub [0, 2, 3] rfl (w_X6_put_b148 C hf)
def f_X6_put (n : Nat) (f : Nat → Int32) (x1 : Int32) (x2 : Int32) : Option (Nat → Int32) :=
  chk (inB (3 : Int32) 217) (chk (inB (5 : Int32) 217) (stt (((77 : Int32) + ((5 : Int32) * (f (5 : Int32).toNatClampNeg)))) (fun v1 => (f_X6_nextX f).bind (fun q15 => (f_X6_nextY f).bind (fun q21 => chk (inB v1 217) (chk (inB (v1 + (1 : Int32)) 217) (stt (upd ((upd (f) v1.toNatClampNeg x1)) (v1 + (1 : Int32)).toNatClampNeg q15) (fun fn2 => chk (inB (v1 + (2 : Int32)) 217) (chk (inB (7 : Int32) 217) (chk (inB (v1 + (3 : Int32)) 217) (stt (upd ((upd (fn2) (v1 + (2 : Int32)).toNatClampNeg q21)) (v1 + (3 : Int32)).toNatClampNeg ((upd (fn2) (v1 + (2 : Int32)).toNatClampNeg q21) (7 : Int32).toNatClampNeg)) (fun fn3 => chk (inB (6 : Int32) 217) (if (fn3 (6 : Int32).toNatClampNeg) = (-1 : Int32) then ((f_X6_lesser n x1).bind (fun q71 => f_X6_put_b81 n x1 x2 fn3 (f (3 : Int32).toNatClampNeg) q71 (v1 + (4 : Int32)))) else (chk (inB (6 : Int32) 217) (f_X6_put_b81 n x1 x2 fn3 (f (3 : Int32).toNatClampNeg) (fn3 (6 : Int32).toNatClampNeg) (v1 + (4 : Int32)))))))))))))))))
set_option maxRecDepth 100000 in
set_option maxHeartbeats 4000000 in
theorem ct_X6_put {E : zE} {l : Launch} {h0 : Hp} {a : Nat} {n : Nat} {f : Nat → Int32} {x1 : Int32} {x2 : Int32} {r : (Nat → Int32)}  (hf : f_X6_put n f x1 x2 = some r) : zM E l 7 yX6_put cX6_put 7 none [.ref a, .int x1, .int x2] (pI E h0 a 217 f) none (pI E h0 a 217 r) := by
  refine zM_of (lv := [(0, .ref a), (1, .int x1), (2, .int x2)]) (by decide +kernel) (Nat.le_of_ble_eq_true rfl) rfl (fun X hX C => ?_)
  subst hX
  replace C : zC E X RX6 cX6_put 7 none 7 := C
  unfold f_X6_put at hf
  refine z_aload_n C dX6_put_0 0 rfl ?_
  refine z_iconst C (3 : Int32) dX6_put_1 (by decide) ?_
  obtain ⟨c2, hf⟩ := chk_some hf
  refine z_iald C pI_a c2 dX6_put_2 ?_
  refine z_istore_n (lv' := [(3, .int (f (3 : Int32).toNatClampNeg)), (0, .ref a), (1, .int x1), (2, .int x2)]) C dX6_put_3 (by decide) rfl ?_
  refine z_bipush C (77 : Int32) dX6_put_4 (by decide) ?_
  refine z_iconst C (5 : Int32) dX6_put_6 (by decide) ?_
  refine z_aload_n C dX6_put_7 1 rfl ?_
  refine z_iconst C (5 : Int32) dX6_put_8 (by decide) ?_
  obtain ⟨c9, hf⟩ := chk_some hf
  refine z_iald C pI_a c9 dX6_put_9 ?_
  refine z_imul C dX6_put_10 ?_
  refine z_iadd C dX6_put_11 ?_
  obtain ⟨v1, ev1, hf⟩ := st_some hf
  refine z_stk (congrArg (fun z => Value.int z :: []) ev1.symm) ?_
  refine z_istore (lv' := [(4, .int v1), (3, .int (f (3 : Int32).toNatClampNeg)), (0, .ref a), (1, .int x1), (2, .int x2)]) C dX6_put_12 (by decide) rfl ?_
  refine z_aload_n C dX6_put_14 2 rfl ?_
  obtain ⟨q15, hq15, hf⟩ := bd_some hf
  refine iv_X6_91 C [.ref a] [] (ct_X6_nextX hq15) rfl (by decide) rfl (Nat.le_of_ble_eq_true rfl) z_k0 dX6_put_15 ?_
  refine z_istore (lv' := [(5, .int q15), (4, .int v1), (3, .int (f (3 : Int32).toNatClampNeg)), (0, .ref a), (1, .int x1), (2, .int x2)]) C dX6_put_18 (by decide) rfl ?_
  refine z_aload_n C dX6_put_20 3 rfl ?_
  obtain ⟨q21, hq21, hf⟩ := bd_some hf
  refine iv_X6_95 C [.ref a] [] (ct_X6_nextY hq21) rfl (by decide) rfl (Nat.le_of_ble_eq_true rfl) z_k0 dX6_put_21 ?_
  refine z_istore (lv' := [(6, .int q21), (5, .int q15), (4, .int v1), (3, .int (f (3 : Int32).toNatClampNeg)), (0, .ref a), (1, .int x1), (2, .int x2)]) C dX6_put_24 (by decide) rfl ?_
  refine z_aload_n C dX6_put_26 4 rfl ?_
  refine z_iload C dX6_put_27 2 rfl ?_
  refine z_iload_n C dX6_put_29 5 rfl ?_
  obtain ⟨c30, hf⟩ := chk_some hf
  refine z_iast C pI_a c30 dX6_put_30 _ (pI_w _) ?_
  refine z_aload_n C dX6_put_31 4 rfl ?_
  refine z_iload C dX6_put_32 2 rfl ?_
  refine z_iconst C (1 : Int32) dX6_put_34 (by decide) ?_
  refine z_iadd C dX6_put_35 ?_
  refine z_iload C dX6_put_36 1 rfl ?_
  obtain ⟨c38, hf⟩ := chk_some hf
  refine z_iast C pI_a c38 dX6_put_38 _ (pI_w _) ?_
  obtain ⟨fn2, efn2, hf⟩ := st_some hf
  refine z_heap (congrArg (fun z => (pI E h0 a 217 z)) efn2.symm) ?_
  refine z_aload_n C dX6_put_39 4 rfl ?_
  refine z_iload C dX6_put_40 2 rfl ?_
  refine z_iconst C (2 : Int32) dX6_put_42 (by decide) ?_
  refine z_iadd C dX6_put_43 ?_
  refine z_iload C dX6_put_44 0 rfl ?_
  obtain ⟨c46, hf⟩ := chk_some hf
  refine z_iast C pI_a c46 dX6_put_46 _ (pI_w _) ?_
  refine z_aload_n C dX6_put_47 4 rfl ?_
  refine z_iload C dX6_put_48 2 rfl ?_
  refine z_iconst C (3 : Int32) dX6_put_50 (by decide) ?_
  refine z_iadd C dX6_put_51 ?_
  refine z_aload_n C dX6_put_52 4 rfl ?_
  refine z_bipush C (7 : Int32) dX6_put_53 (by decide) ?_
  obtain ⟨c55, hf⟩ := chk_some hf
  refine z_iald C pI_a c55 dX6_put_55 ?_
  obtain ⟨c56, hf⟩ := chk_some hf
  refine z_iast C pI_a c56 dX6_put_56 _ (pI_w _) ?_
  obtain ⟨fn3, efn3, hf⟩ := st_some hf
  refine z_heap (congrArg (fun z => (pI E h0 a 217 z)) efn3.symm) ?_
  refine z_aload_n C dX6_put_57 4 rfl ?_
  refine z_iload C dX6_put_58 2 rfl ?_
  refine z_iconst C (4 : Int32) dX6_put_60 (by decide) ?_
  refine z_iadd C dX6_put_61 ?_
  refine z_aload_n C dX6_put_62 4 rfl ?_
  refine z_bipush C (6 : Int32) dX6_put_63 (by decide) ?_
  obtain ⟨c65, hf⟩ := chk_some hf
  refine z_iald C pI_a c65 dX6_put_65 ?_
  refine z_iconst C (-1 : Int32) dX6_put_66 (by decide) ?_
  refine z_icmp_ne C 77 dX6_put_67 (by decide) (fun c67 => ?_) (fun c67 => ?_)
  · replace hf := iN c67 hf
    refine z_aload_n C dX6_put_77 4 rfl ?_
    refine z_bipush C (6 : Int32) dX6_put_78 (by decide) ?_
    obtain ⟨c80, hf⟩ := chk_some hf
    refine z_iald C pI_a c80 dX6_put_80 ?_
    exact z_sub [4, 5, 6, 3] rfl (w_X6_put_b81 C hf)
  · replace hf := ip c67 hf
    refine z_iload_n C dX6_put_70 5 rfl ?_
    obtain ⟨q71, hq71, hf⟩ := bd_some hf
    refine iv_X6_46 C [.int x1] [.int (v1 + (4 : Int32)), .ref a] (ct_X6_lesser hq71) rfl (by decide) rfl (Nat.le_of_ble_eq_true rfl) z_k0 dX6_put_71 ?_
    refine z_goto C 81 dX6_put_74 (by decide) ?_
    exact z_sub [4, 5, 6, 3] rfl (w_X6_put_b81 C hf)
/-! X6_playOn: depth 8 -/
def f_X6_playOn (n : Nat) (f : Nat → Int32) (x1 : Int32) (x2 : Int32) : Option ((Nat → Int32) × Int32) :=
  (f_X6_reason n f x1).bind (fun q2 => if q2 = 0 then ((f_X6_put n f x1 x2).bind (fun q13 => some (q13, q2))) else (chk (inB (9 : Int32) 217) (chk (inB (9 : Int32) 217) (stt (upd (f) (9 : Int32).toNatClampNeg ((f (9 : Int32).toNatClampNeg) + (1 : Int32))) (fun fn1 => some (fn1, q2))))))
set_option maxRecDepth 100000 in
set_option maxHeartbeats 4000000 in
theorem ct_X6_playOn {E : zE} {l : Launch} {h0 : Hp} {a : Nat} {n : Nat} {f : Nat → Int32} {x1 : Int32} {x2 : Int32} {r : ((Nat → Int32) × Int32)}  (hf : f_X6_playOn n f x1 x2 = some r) : zM E l 8 yX6_playOn cX6_playOn 4 (some .int) [.ref a, .int x1, .int x2] (pI E h0 a 217 f) (some (.int r.2)) (pI E h0 a 217 r.1) := by
  refine zM_of (lv := [(0, .ref a), (1, .int x1), (2, .int x2)]) (by decide +kernel) (Nat.le_of_ble_eq_true rfl) rfl (fun X hX C => ?_)
  subst hX
  replace C : zC E X RX6 cX6_playOn 4 (some .int) 8 := C
  unfold f_X6_playOn at hf
  refine z_aload_n C dX6_playOn_0 0 rfl ?_
  refine z_iload_n C dX6_playOn_1 1 rfl ?_
  obtain ⟨q2, hq2, hf⟩ := bd_some hf
  refine iv_X6_102 C [.ref a, .int x1] [] (ct_X6_reason hq2) rfl (by decide) rfl (Nat.le_of_ble_eq_true rfl) z_k0 dX6_playOn_2 ?_
  refine z_istore_n (lv' := [(3, .int q2), (0, .ref a), (1, .int x1), (2, .int x2)]) C dX6_playOn_5 (by decide) rfl ?_
  refine z_iload_n C dX6_playOn_6 0 rfl ?_
  refine z_if_ne C 19 dX6_playOn_7 (by decide) (fun c7 => ?_) (fun c7 => ?_)
  · replace hf := iN c7 hf
    refine z_aload_n C dX6_playOn_19 1 rfl ?_
    refine z_bipush C (9 : Int32) dX6_playOn_20 (by decide) ?_
    refine z_dup2 C dX6_playOn_22 rfl rfl ?_
    obtain ⟨c23, hf⟩ := chk_some hf
    refine z_iald C pI_a c23 dX6_playOn_23 ?_
    refine z_iconst C (1 : Int32) dX6_playOn_24 (by decide) ?_
    refine z_iadd C dX6_playOn_25 ?_
    obtain ⟨c26, hf⟩ := chk_some hf
    refine z_iast C pI_a c26 dX6_playOn_26 _ (pI_w _) ?_
    obtain ⟨fn1, efn1, hf⟩ := st_some hf
    refine z_heap (congrArg (fun z => (pI E h0 a 217 z)) efn1.symm) ?_
    refine z_iload_n C dX6_playOn_27 0 rfl ?_
    obtain rfl := Option.some.inj hf
    exact z_ireturn C dX6_playOn_28
  · replace hf := ip c7 hf
    refine z_aload_n C dX6_playOn_10 1 rfl ?_
    refine z_iload_n C dX6_playOn_11 2 rfl ?_
    refine z_iload_n C dX6_playOn_12 3 rfl ?_
    obtain ⟨q13, hq13, hf⟩ := bd_some hf
    refine iv_X6_129 C [.ref a, .int x1, .int x2] [] (ct_X6_put hq13) rfl (by decide) rfl (Nat.le_of_ble_eq_true rfl) z_k0 dX6_playOn_13 ?_
    refine z_goto C 27 dX6_playOn_16 (by decide) ?_
    refine z_iload_n C dX6_playOn_27 0 rfl ?_
    obtain rfl := Option.some.inj hf
    exact z_ireturn C dX6_playOn_28
/-! X6_canDraw: depth 1 -/
def f_X6_canDraw (f : Nat → Int32) : Option Int32 :=
  chk (inB (1 : Int32) 217) (if (f (1 : Int32).toNatClampNeg) = (1 : Int32) then (chk (inB (4 : Int32) 217) (if (f (4 : Int32).toNatClampNeg) ≤ 0 then (some (0 : Int32)) else (some (1 : Int32)))) else (some (0 : Int32)))
set_option maxRecDepth 100000 in
set_option maxHeartbeats 4000000 in
theorem ct_X6_canDraw {E : zE} {l : Launch} {h0 : Hp} {a : Nat} {f : Nat → Int32} {r : Int32}  (hf : f_X6_canDraw f = some r) : zM E l 1 yX6_canDraw cX6_canDraw 1 (some .boolean) [.ref a] (pI E h0 a 217 f) (some (.int r)) (pI E h0 a 217 f) := by
  refine zM_of (lv := [(0, .ref a)]) (by decide +kernel) (Nat.le_of_ble_eq_true rfl) rfl (fun X hX C => ?_)
  subst hX
  replace C : zC E X RX6 cX6_canDraw 1 (some .boolean) 1 := C
  unfold f_X6_canDraw at hf
  refine z_aload_n C dX6_canDraw_0 0 rfl ?_
  refine z_iconst C (1 : Int32) dX6_canDraw_1 (by decide) ?_
  obtain ⟨c2, hf⟩ := chk_some hf
  refine z_iald C pI_a c2 dX6_canDraw_2 ?_
  refine z_iconst C (1 : Int32) dX6_canDraw_3 (by decide) ?_
  refine z_icmp_ne C 17 dX6_canDraw_4 (by decide) (fun c4 => ?_) (fun c4 => ?_)
  · replace hf := iN c4 hf
    refine z_iconst C (0 : Int32) dX6_canDraw_17 (by decide) ?_
    obtain rfl := Option.some.inj hf
    exact z_zreturn (v := (0 : Int32)) C (by decide) dX6_canDraw_18
  · replace hf := ip c4 hf
    refine z_aload_n C dX6_canDraw_7 0 rfl ?_
    refine z_iconst C (4 : Int32) dX6_canDraw_8 (by decide) ?_
    obtain ⟨c9, hf⟩ := chk_some hf
    refine z_iald C pI_a c9 dX6_canDraw_9 ?_
    refine z_if_le C 17 dX6_canDraw_10 (by decide) (fun c10 => ?_) (fun c10 => ?_)
    · replace hf := ip c10 hf
      refine z_iconst C (0 : Int32) dX6_canDraw_17 (by decide) ?_
      obtain rfl := Option.some.inj hf
      exact z_zreturn (v := (0 : Int32)) C (by decide) dX6_canDraw_18
    · replace hf := iN c10 hf
      refine z_iconst C (1 : Int32) dX6_canDraw_13 (by decide) ?_
      refine z_goto C 18 dX6_canDraw_14 (by decide) ?_
      obtain rfl := Option.some.inj hf
      exact z_zreturn (v := (1 : Int32)) C (by decide) dX6_canDraw_18
/-! X6_canPass: depth 1 -/
def f_X6_canPass (f : Nat → Int32) : Option Int32 :=
  chk (inB (1 : Int32) 217) (if (f (1 : Int32).toNatClampNeg) = (1 : Int32) then (chk (inB (4 : Int32) 217) (if (f (4 : Int32).toNatClampNeg) = 0 then (some (1 : Int32)) else (some (0 : Int32)))) else (some (0 : Int32)))
set_option maxRecDepth 100000 in
set_option maxHeartbeats 4000000 in
theorem ct_X6_canPass {E : zE} {l : Launch} {h0 : Hp} {a : Nat} {f : Nat → Int32} {r : Int32}  (hf : f_X6_canPass f = some r) : zM E l 1 yX6_canPass cX6_canPass 1 (some .boolean) [.ref a] (pI E h0 a 217 f) (some (.int r)) (pI E h0 a 217 f) := by
  refine zM_of (lv := [(0, .ref a)]) (by decide +kernel) (Nat.le_of_ble_eq_true rfl) rfl (fun X hX C => ?_)
  subst hX
  replace C : zC E X RX6 cX6_canPass 1 (some .boolean) 1 := C
  unfold f_X6_canPass at hf
  refine z_aload_n C dX6_canPass_0 0 rfl ?_
  refine z_iconst C (1 : Int32) dX6_canPass_1 (by decide) ?_
  obtain ⟨c2, hf⟩ := chk_some hf
  refine z_iald C pI_a c2 dX6_canPass_2 ?_
  refine z_iconst C (1 : Int32) dX6_canPass_3 (by decide) ?_
  refine z_icmp_ne C 17 dX6_canPass_4 (by decide) (fun c4 => ?_) (fun c4 => ?_)
  · replace hf := iN c4 hf
    refine z_iconst C (0 : Int32) dX6_canPass_17 (by decide) ?_
    obtain rfl := Option.some.inj hf
    exact z_zreturn (v := (0 : Int32)) C (by decide) dX6_canPass_18
  · replace hf := ip c4 hf
    refine z_aload_n C dX6_canPass_7 0 rfl ?_
    refine z_iconst C (4 : Int32) dX6_canPass_8 (by decide) ?_
    obtain ⟨c9, hf⟩ := chk_some hf
    refine z_iald C pI_a c9 dX6_canPass_9 ?_
    refine z_if_ne C 17 dX6_canPass_10 (by decide) (fun c10 => ?_) (fun c10 => ?_)
    · replace hf := iN c10 hf
      refine z_iconst C (0 : Int32) dX6_canPass_17 (by decide) ?_
      obtain rfl := Option.some.inj hf
      exact z_zreturn (v := (0 : Int32)) C (by decide) dX6_canPass_18
    · replace hf := ip c10 hf
      refine z_iconst C (1 : Int32) dX6_canPass_13 (by decide) ?_
      refine z_goto C 18 dX6_canPass_14 (by decide) ?_
      obtain rfl := Option.some.inj hf
      exact z_zreturn (v := (1 : Int32)) C (by decide) dX6_canPass_18
/-! X6_drawOn: depth 1 -/
def f_X6_drawOn_h7 (n : Nat)  (K7 : (Nat → Int32) → Int32 → Int32 → Option ((Nat → Int32) × Int32)) (f : Nat → Int32) (x1 : Int32) (x2 : Int32) : Option ((Nat → Int32) × Int32) :=
  chk (inB (4 : Int32) 217) (if ((f (4 : Int32).toNatClampNeg) - (1 : Int32)) ≤ x2 then (chk (inB (4 : Int32) 217) (chk (inB (4 : Int32) 217) (stt (upd (f) (4 : Int32).toNatClampNeg ((f (4 : Int32).toNatClampNeg) - (1 : Int32))) (fun fn1 => chk (inB (3 : Int32) 217) (chk (inB ((21 : Int32) + x1) 217) (stt (upd (fn1) ((21 : Int32) + x1).toNatClampNeg (fn1 (3 : Int32).toNatClampNeg)) (fun fn2 => chk (inB (8 : Int32) 217) (some (upd (fn2) (8 : Int32).toNatClampNeg (0 : Int32), x1))))))))) else (chk (inB (((49 : Int32) + x2) + (1 : Int32)) 217) (chk (inB ((49 : Int32) + x2) 217) (stt (upd (f) ((49 : Int32) + x2).toNatClampNeg (f (((49 : Int32) + x2) + (1 : Int32)).toNatClampNeg)) (fun fn3 => K7 fn3 x1 (x2 + 1))))))
set_option maxRecDepth 100000 in
set_option maxHeartbeats 4000000 in
theorem w_X6_drawOn_h7 {E : zE} {X : zX} {h0 : Hp} {a : Nat} {n : Nat}   (C : zC E X RX6 cX6_drawOn 3 (some .int) 1)   : ∀ (q : Nat) (f : Nat → Int32) (x1 : Int32) (x2 : Int32) (r : ((Nat → Int32) × Int32)), lo3 (f_X6_drawOn_h7 n) q f x1 x2 = some r → zW E X 3 0 0 (MQ (xb X) (zQ E (some (.int r.2)) (pI E h0 a 217 r.1)) (xa X) (xs X) 0 0 (zA E)) 7 (pI E h0 a 217 f) [(0, .ref a), (1, .int x1), (2, .int x2)] [] := by
  refine lo3_ind _ ?_
  intro K7 hK7 f x1 x2 r hf
  unfold f_X6_drawOn_h7 at hf
  refine z_iload_n C dX6_drawOn_7 2 rfl ?_
  refine z_aload_n C dX6_drawOn_8 0 rfl ?_
  refine z_iconst C (4 : Int32) dX6_drawOn_9 (by decide) ?_
  obtain ⟨c10, hf⟩ := chk_some hf
  refine z_iald C pI_a c10 dX6_drawOn_10 ?_
  refine z_iconst C (1 : Int32) dX6_drawOn_11 (by decide) ?_
  refine z_isub C dX6_drawOn_12 ?_
  refine z_icmp_ge C 36 dX6_drawOn_13 (by decide) (fun c13 => ?_) (fun c13 => ?_)
  · replace hf := ip c13 hf
    refine z_aload_n C dX6_drawOn_36 0 rfl ?_
    refine z_iconst C (4 : Int32) dX6_drawOn_37 (by decide) ?_
    refine z_dup2 C dX6_drawOn_38 rfl rfl ?_
    obtain ⟨c39, hf⟩ := chk_some hf
    refine z_iald C pI_a c39 dX6_drawOn_39 ?_
    refine z_iconst C (1 : Int32) dX6_drawOn_40 (by decide) ?_
    refine z_isub C dX6_drawOn_41 ?_
    obtain ⟨c42, hf⟩ := chk_some hf
    refine z_iast C pI_a c42 dX6_drawOn_42 _ (pI_w _) ?_
    obtain ⟨fn1, efn1, hf⟩ := st_some hf
    refine z_heap (congrArg (fun z => (pI E h0 a 217 z)) efn1.symm) ?_
    refine z_aload_n C dX6_drawOn_43 0 rfl ?_
    refine z_bipush C (21 : Int32) dX6_drawOn_44 (by decide) ?_
    refine z_iload_n C dX6_drawOn_46 1 rfl ?_
    refine z_iadd C dX6_drawOn_47 ?_
    refine z_aload_n C dX6_drawOn_48 0 rfl ?_
    refine z_iconst C (3 : Int32) dX6_drawOn_49 (by decide) ?_
    obtain ⟨c50, hf⟩ := chk_some hf
    refine z_iald C pI_a c50 dX6_drawOn_50 ?_
    obtain ⟨c51, hf⟩ := chk_some hf
    refine z_iast C pI_a c51 dX6_drawOn_51 _ (pI_w _) ?_
    obtain ⟨fn2, efn2, hf⟩ := st_some hf
    refine z_heap (congrArg (fun z => (pI E h0 a 217 z)) efn2.symm) ?_
    refine z_aload_n C dX6_drawOn_52 0 rfl ?_
    refine z_bipush C (8 : Int32) dX6_drawOn_53 (by decide) ?_
    refine z_iconst C (0 : Int32) dX6_drawOn_55 (by decide) ?_
    obtain ⟨c56, hf⟩ := chk_some hf
    refine z_iast C pI_a c56 dX6_drawOn_56 _ (pI_w _) ?_
    refine z_iload_n C dX6_drawOn_57 1 rfl ?_
    obtain rfl := Option.some.inj hf
    exact z_ireturn C dX6_drawOn_58
  · replace hf := iN c13 hf
    refine z_aload_n C dX6_drawOn_16 0 rfl ?_
    refine z_bipush C (49 : Int32) dX6_drawOn_17 (by decide) ?_
    refine z_iload_n C dX6_drawOn_19 2 rfl ?_
    refine z_iadd C dX6_drawOn_20 ?_
    refine z_aload_n C dX6_drawOn_21 0 rfl ?_
    refine z_bipush C (49 : Int32) dX6_drawOn_22 (by decide) ?_
    refine z_iload_n C dX6_drawOn_24 2 rfl ?_
    refine z_iadd C dX6_drawOn_25 ?_
    refine z_iconst C (1 : Int32) dX6_drawOn_26 (by decide) ?_
    refine z_iadd C dX6_drawOn_27 ?_
    obtain ⟨c28, hf⟩ := chk_some hf
    refine z_iald C pI_a c28 dX6_drawOn_28 ?_
    obtain ⟨c29, hf⟩ := chk_some hf
    refine z_iast C pI_a c29 dX6_drawOn_29 _ (pI_w _) ?_
    obtain ⟨fn3, efn3, hf⟩ := st_some hf
    refine z_heap (congrArg (fun z => (pI E h0 a 217 z)) efn3.symm) ?_
    refine z_iinc (lv' := [(2, .int (x2 + 1)), (0, .ref a), (1, .int x1)]) C dX6_drawOn_30 2 (x2 + 1) rfl rfl (by decide) rfl ?_
    refine z_goto C 7 dX6_drawOn_33 (by decide) ?_
    exact z_sub [1, 2, 0] rfl (hK7 _ _ _ _ hf)
def f_X6_drawOn (n : Nat) (f : Nat → Int32) : Option ((Nat → Int32) × Int32) :=
  chk (inB (49 : Int32) 217) (lo3 (f_X6_drawOn_h7 n) n f (f (49 : Int32).toNatClampNeg) (0 : Int32))
set_option maxRecDepth 100000 in
set_option maxHeartbeats 4000000 in
theorem ct_X6_drawOn {E : zE} {l : Launch} {h0 : Hp} {a : Nat} {n : Nat} {f : Nat → Int32} {r : ((Nat → Int32) × Int32)}  (hf : f_X6_drawOn n f = some r) : zM E l 1 yX6_drawOn cX6_drawOn 3 (some .int) [.ref a] (pI E h0 a 217 f) (some (.int r.2)) (pI E h0 a 217 r.1) := by
  refine zM_of (lv := [(0, .ref a)]) (by decide +kernel) (Nat.le_of_ble_eq_true rfl) rfl (fun X hX C => ?_)
  subst hX
  replace C : zC E X RX6 cX6_drawOn 3 (some .int) 1 := C
  unfold f_X6_drawOn at hf
  refine z_aload_n C dX6_drawOn_0 0 rfl ?_
  refine z_bipush C (49 : Int32) dX6_drawOn_1 (by decide) ?_
  obtain ⟨c3, hf⟩ := chk_some hf
  refine z_iald C pI_a c3 dX6_drawOn_3 ?_
  refine z_istore_n (lv' := [(1, .int (f (49 : Int32).toNatClampNeg)), (0, .ref a)]) C dX6_drawOn_4 (by decide) rfl ?_
  refine z_iconst C (0 : Int32) dX6_drawOn_5 (by decide) ?_
  refine z_istore_n (lv' := [(2, .int (0 : Int32)), (1, .int (f (49 : Int32).toNatClampNeg)), (0, .ref a)]) C dX6_drawOn_6 (by decide) rfl ?_
  exact z_sub [2, 1, 0] rfl (w_X6_drawOn_h7 C n _ _ _ _ hf)
/-! X6_passOn: depth 7 -/
def f_X6_passOn_b66 (n : Nat)   (f : Nat → Int32) : Option ((Nat → Int32) × Int32) :=
  chk (inB (1 : Int32) 217) (some (f, (f (1 : Int32).toNatClampNeg)))
set_option maxRecDepth 100000 in
set_option maxHeartbeats 4000000 in
theorem w_X6_passOn_b66 {E : zE} {X : zX} {h0 : Hp} {a : Nat} {n : Nat}   (C : zC E X RX6 cX6_passOn 3 (some .int) 7)   {f : Nat → Int32} {r : ((Nat → Int32) × Int32)} (hf : f_X6_passOn_b66 n f = some r) : zW E X 3 0 0 (MQ (xb X) (zQ E (some (.int r.2)) (pI E h0 a 217 r.1)) (xa X) (xs X) 0 0 (zA E)) 66 (pI E h0 a 217 f) [(0, .ref a)] [] := by
  unfold f_X6_passOn_b66 at hf
  refine z_aload_n C dX6_passOn_66 0 rfl ?_
  refine z_iconst C (1 : Int32) dX6_passOn_67 (by decide) ?_
  obtain ⟨c68, hf⟩ := chk_some hf
  refine z_iald C pI_a c68 dX6_passOn_68 ?_
  obtain rfl := Option.some.inj hf
  exact z_ireturn C dX6_passOn_69
def f_X6_passOn_b47 (n : Nat) (K22 : (Nat → Int32) → Int32 → Int32 → Option ((Nat → Int32) × Int32))  (f : Nat → Int32) (x2 : Int32) (s0 : Int32) : Option ((Nat → Int32) × Int32) :=
  K22 f s0 (x2 + 1)
set_option maxRecDepth 100000 in
set_option maxHeartbeats 4000000 in
theorem w_X6_passOn_b47 {E : zE} {X : zX} {h0 : Hp} {a : Nat} {n : Nat} {K22 : (Nat → Int32) → Int32 → Int32 → Option ((Nat → Int32) × Int32)}  (C : zC E X RX6 cX6_passOn 3 (some .int) 7)  (hK22 : ∀ (f : Nat → Int32) (x1 : Int32) (x2 : Int32) (r : ((Nat → Int32) × Int32)), K22 f x1 x2 = some r → zW E X 3 0 0 (MQ (xb X) (zQ E (some (.int r.2)) (pI E h0 a 217 r.1)) (xa X) (xs X) 0 0 (zA E)) 22 (pI E h0 a 217 f) [(0, .ref a), (1, .int x1), (2, .int x2)] []) {f : Nat → Int32} {x2 : Int32} {s0 : Int32} {r : ((Nat → Int32) × Int32)} (hf : f_X6_passOn_b47 n K22 f x2 s0 = some r) : zW E X 3 0 0 (MQ (xb X) (zQ E (some (.int r.2)) (pI E h0 a 217 r.1)) (xa X) (xs X) 0 0 (zA E)) 47 (pI E h0 a 217 f) [(0, .ref a), (2, .int x2)] [.int s0] := by
  unfold f_X6_passOn_b47 at hf
  refine z_istore_n (lv' := [(1, .int s0), (0, .ref a), (2, .int x2)]) C dX6_passOn_47 (by decide) rfl ?_
  refine z_iinc (lv' := [(2, .int (x2 + 1)), (1, .int s0), (0, .ref a)]) C dX6_passOn_48 2 (x2 + 1) rfl rfl (by decide) rfl ?_
  refine z_goto C 22 dX6_passOn_51 (by decide) ?_
  exact z_sub [2, 1, 0] rfl (hK22 _ _ _ _ hf)
def f_X6_passOn_h22 (n : Nat)  (K22 : (Nat → Int32) → Int32 → Int32 → Option ((Nat → Int32) × Int32)) (f : Nat → Int32) (x1 : Int32) (x2 : Int32) : Option ((Nat → Int32) × Int32) :=
  chk (inB (2 : Int32) 217) (if (f (2 : Int32).toNatClampNeg) ≤ x2 then ((f_X6_wins n f x1).bind (fun q56 => f_X6_passOn_b66 n q56)) else ((f_X6_handPips n f x2).bind (fun q31 => (f_X6_handPips n f x1).bind (fun q36 => if q36 ≤ q31 then (f_X6_passOn_b47 n K22 f x2 x1) else (f_X6_passOn_b47 n K22 f x2 x2)))))
set_option maxRecDepth 100000 in
set_option maxHeartbeats 4000000 in
theorem w_X6_passOn_h22 {E : zE} {X : zX} {h0 : Hp} {a : Nat} {n : Nat}   (C : zC E X RX6 cX6_passOn 3 (some .int) 7)   : ∀ (q : Nat) (f : Nat → Int32) (x1 : Int32) (x2 : Int32) (r : ((Nat → Int32) × Int32)), lo3 (f_X6_passOn_h22 n) q f x1 x2 = some r → zW E X 3 0 0 (MQ (xb X) (zQ E (some (.int r.2)) (pI E h0 a 217 r.1)) (xa X) (xs X) 0 0 (zA E)) 22 (pI E h0 a 217 f) [(0, .ref a), (1, .int x1), (2, .int x2)] [] := by
  refine lo3_ind _ ?_
  intro K22 hK22 f x1 x2 r hf
  unfold f_X6_passOn_h22 at hf
  refine z_iload_n C dX6_passOn_22 2 rfl ?_
  refine z_aload_n C dX6_passOn_23 0 rfl ?_
  refine z_iconst C (2 : Int32) dX6_passOn_24 (by decide) ?_
  obtain ⟨c25, hf⟩ := chk_some hf
  refine z_iald C pI_a c25 dX6_passOn_25 ?_
  refine z_icmp_ge C 54 dX6_passOn_26 (by decide) (fun c26 => ?_) (fun c26 => ?_)
  · replace hf := ip c26 hf
    refine z_aload_n C dX6_passOn_54 0 rfl ?_
    refine z_iload_n C dX6_passOn_55 1 rfl ?_
    obtain ⟨q56, hq56, hf⟩ := bd_some hf
    refine iv_X6_122 C [.ref a, .int x1] [] (ct_X6_wins hq56) rfl (by decide) rfl (Nat.le_of_ble_eq_true rfl) z_k0 dX6_passOn_56 ?_
    refine z_goto C 66 dX6_passOn_59 (by decide) ?_
    exact z_sub [0] rfl (w_X6_passOn_b66 C hf)
  · replace hf := iN c26 hf
    refine z_aload_n C dX6_passOn_29 0 rfl ?_
    refine z_iload_n C dX6_passOn_30 2 rfl ?_
    obtain ⟨q31, hq31, hf⟩ := bd_some hf
    refine iv_X6_109 C [.ref a, .int x2] [] (ct_X6_handPips hq31) rfl (by decide) rfl (Nat.le_of_ble_eq_true rfl) z_k0 dX6_passOn_31 ?_
    refine z_aload_n C dX6_passOn_34 0 rfl ?_
    refine z_iload_n C dX6_passOn_35 1 rfl ?_
    obtain ⟨q36, hq36, hf⟩ := bd_some hf
    refine iv_X6_109 C [.ref a, .int x1] [.int q31] (ct_X6_handPips hq36) rfl (by decide) rfl (Nat.le_of_ble_eq_true rfl) z_k0 dX6_passOn_36 ?_
    refine z_icmp_ge C 46 dX6_passOn_39 (by decide) (fun c39 => ?_) (fun c39 => ?_)
    · replace hf := ip c39 hf
      refine z_iload_n C dX6_passOn_46 1 rfl ?_
      exact z_sub [0, 2] rfl (w_X6_passOn_b47 C hK22 hf)
    · replace hf := iN c39 hf
      refine z_iload_n C dX6_passOn_42 2 rfl ?_
      refine z_goto C 47 dX6_passOn_43 (by decide) ?_
      exact z_sub [0, 2] rfl (w_X6_passOn_b47 C hK22 hf)
def f_X6_passOn (n : Nat) (f : Nat → Int32) : Option ((Nat → Int32) × Int32) :=
  chk (inB (8 : Int32) 217) (chk (inB (8 : Int32) 217) (stt (upd (f) (8 : Int32).toNatClampNeg ((f (8 : Int32).toNatClampNeg) + (1 : Int32))) (fun fn1 => chk (inB (8 : Int32) 217) (chk (inB (2 : Int32) 217) (if (fn1 (8 : Int32).toNatClampNeg) = (fn1 (2 : Int32).toNatClampNeg) then (lo3 (f_X6_passOn_h22 n) n fn1 (0 : Int32) (1 : Int32)) else ((f_X6_nextTurn fn1).bind (fun q63 => f_X6_passOn_b66 n q63)))))))
set_option maxRecDepth 100000 in
set_option maxHeartbeats 4000000 in
theorem ct_X6_passOn {E : zE} {l : Launch} {h0 : Hp} {a : Nat} {n : Nat} {f : Nat → Int32} {r : ((Nat → Int32) × Int32)}  (hf : f_X6_passOn n f = some r) : zM E l 7 yX6_passOn cX6_passOn 3 (some .int) [.ref a] (pI E h0 a 217 f) (some (.int r.2)) (pI E h0 a 217 r.1) := by
  refine zM_of (lv := [(0, .ref a)]) (by decide +kernel) (Nat.le_of_ble_eq_true rfl) rfl (fun X hX C => ?_)
  subst hX
  replace C : zC E X RX6 cX6_passOn 3 (some .int) 7 := C
  unfold f_X6_passOn at hf
  refine z_aload_n C dX6_passOn_0 0 rfl ?_
  refine z_bipush C (8 : Int32) dX6_passOn_1 (by decide) ?_
  refine z_dup2 C dX6_passOn_3 rfl rfl ?_
  obtain ⟨c4, hf⟩ := chk_some hf
  refine z_iald C pI_a c4 dX6_passOn_4 ?_
  refine z_iconst C (1 : Int32) dX6_passOn_5 (by decide) ?_
  refine z_iadd C dX6_passOn_6 ?_
  obtain ⟨c7, hf⟩ := chk_some hf
  refine z_iast C pI_a c7 dX6_passOn_7 _ (pI_w _) ?_
  obtain ⟨fn1, efn1, hf⟩ := st_some hf
  refine z_heap (congrArg (fun z => (pI E h0 a 217 z)) efn1.symm) ?_
  refine z_aload_n C dX6_passOn_8 0 rfl ?_
  refine z_bipush C (8 : Int32) dX6_passOn_9 (by decide) ?_
  obtain ⟨c11, hf⟩ := chk_some hf
  refine z_iald C pI_a c11 dX6_passOn_11 ?_
  refine z_aload_n C dX6_passOn_12 0 rfl ?_
  refine z_iconst C (2 : Int32) dX6_passOn_13 (by decide) ?_
  obtain ⟨c14, hf⟩ := chk_some hf
  refine z_iald C pI_a c14 dX6_passOn_14 ?_
  refine z_icmp_ne C 62 dX6_passOn_15 (by decide) (fun c15 => ?_) (fun c15 => ?_)
  · replace hf := iN c15 hf
    refine z_aload_n C dX6_passOn_62 0 rfl ?_
    obtain ⟨q63, hq63, hf⟩ := bd_some hf
    refine iv_X6_126 C [.ref a] [] (ct_X6_nextTurn hq63) rfl (by decide) rfl (Nat.le_of_ble_eq_true rfl) z_k0 dX6_passOn_63 ?_
    exact z_sub [0] rfl (w_X6_passOn_b66 C hf)
  · replace hf := ip c15 hf
    refine z_iconst C (0 : Int32) dX6_passOn_18 (by decide) ?_
    refine z_istore_n (lv' := [(1, .int (0 : Int32)), (0, .ref a)]) C dX6_passOn_19 (by decide) rfl ?_
    refine z_iconst C (1 : Int32) dX6_passOn_20 (by decide) ?_
    refine z_istore_n (lv' := [(2, .int (1 : Int32)), (1, .int (0 : Int32)), (0, .ref a)]) C dX6_passOn_21 (by decide) rfl ?_
    exact z_sub [2, 1, 0] rfl (w_X6_passOn_h22 C n _ _ _ _ hf)
/-! X6_playBest: depth 9 -/
def f_X6_playBest_b16 (n : Nat)   (f : Nat → Int32) (x1 : Int32) : Option ((Nat → Int32) × Int32) :=
  if x1 = (-1 : Int32) then (some (f, (0 : Int32))) else (some (f, (1 : Int32)))
set_option maxRecDepth 100000 in
set_option maxHeartbeats 4000000 in
theorem w_X6_playBest_b16 {E : zE} {X : zX} {h0 : Hp} {a : Nat} {n : Nat}   (C : zC E X RX6 cX6_playBest 2 (some .boolean) 9)   {f : Nat → Int32} {x1 : Int32} {r : ((Nat → Int32) × Int32)} (hf : f_X6_playBest_b16 n f x1 = some r) : zW E X 2 0 0 (MQ (xb X) (zQ E (some (.int r.2)) (pI E h0 a 217 r.1)) (xa X) (xs X) 0 0 (zA E)) 16 (pI E h0 a 217 f) [(1, .int x1)] [] := by
  unfold f_X6_playBest_b16 at hf
  refine z_iload_n C dX6_playBest_16 0 rfl ?_
  refine z_iconst C (-1 : Int32) dX6_playBest_17 (by decide) ?_
  refine z_icmp_eq C 25 dX6_playBest_18 (by decide) (fun c18 => ?_) (fun c18 => ?_)
  · replace hf := ip c18 hf
    refine z_iconst C (0 : Int32) dX6_playBest_25 (by decide) ?_
    obtain rfl := Option.some.inj hf
    exact z_zreturn (v := (0 : Int32)) C (by decide) dX6_playBest_26
  · replace hf := iN c18 hf
    refine z_iconst C (1 : Int32) dX6_playBest_21 (by decide) ?_
    refine z_goto C 26 dX6_playBest_22 (by decide) ?_
    obtain rfl := Option.some.inj hf
    exact z_zreturn (v := (1 : Int32)) C (by decide) dX6_playBest_26
def f_X6_playBest (n : Nat) (f : Nat → Int32) : Option ((Nat → Int32) × Int32) :=
  (f_X6_bestOf n f).bind (fun q1 => if q1 = (-1 : Int32) then (f_X6_playBest_b16 n f q1) else ((f_X6_put n f q1 (0 : Int32)).bind (fun q13 => f_X6_playBest_b16 n q13 q1)))
set_option maxRecDepth 100000 in
set_option maxHeartbeats 4000000 in
theorem ct_X6_playBest {E : zE} {l : Launch} {h0 : Hp} {a : Nat} {n : Nat} {f : Nat → Int32} {r : ((Nat → Int32) × Int32)}  (hf : f_X6_playBest n f = some r) : zM E l 9 yX6_playBest cX6_playBest 2 (some .boolean) [.ref a] (pI E h0 a 217 f) (some (.int r.2)) (pI E h0 a 217 r.1) := by
  refine zM_of (lv := [(0, .ref a)]) (by decide +kernel) (Nat.le_of_ble_eq_true rfl) rfl (fun X hX C => ?_)
  subst hX
  replace C : zC E X RX6 cX6_playBest 2 (some .boolean) 9 := C
  unfold f_X6_playBest at hf
  refine z_aload_n C dX6_playBest_0 0 rfl ?_
  obtain ⟨q1, hq1, hf⟩ := bd_some hf
  refine iv_X6_133 C [.ref a] [] (ct_X6_bestOf hq1) rfl (by decide) rfl (Nat.le_of_ble_eq_true rfl) z_k0 dX6_playBest_1 ?_
  refine z_istore_n (lv' := [(1, .int q1), (0, .ref a)]) C dX6_playBest_4 (by decide) rfl ?_
  refine z_iload_n C dX6_playBest_5 0 rfl ?_
  refine z_iconst C (-1 : Int32) dX6_playBest_6 (by decide) ?_
  refine z_icmp_eq C 16 dX6_playBest_7 (by decide) (fun c7 => ?_) (fun c7 => ?_)
  · replace hf := ip c7 hf
    exact z_sub [0] rfl (w_X6_playBest_b16 C hf)
  · replace hf := iN c7 hf
    refine z_aload_n C dX6_playBest_10 1 rfl ?_
    refine z_iload_n C dX6_playBest_11 0 rfl ?_
    refine z_iconst C (0 : Int32) dX6_playBest_12 (by decide) ?_
    obtain ⟨q13, hq13, hf⟩ := bd_some hf
    refine iv_X6_129 C [.ref a, .int q1, .int (0 : Int32)] [] (ct_X6_put hq13) rfl (by decide) rfl (Nat.le_of_ble_eq_true rfl) z_k0 dX6_playBest_13 ?_
    exact z_sub [0] rfl (w_X6_playBest_b16 C hf)
/-! X6_tablePips: depth 4 -/
def f_X6_tablePips_h4 (n : Nat) (f : Nat → Int32)  (K4 : Int32 → Int32 → Option Int32) (x1 : Int32) (x2 : Int32) : Option Int32 :=
  chk (inB (5 : Int32) 217) (if (f (5 : Int32).toNatClampNeg) ≤ x2 then (some x1) else ((f_X6_onTable f x2 (0 : Int32)).bind (fun q15 => (f_X6_pips n q15).bind (fun q18 => K4 (x1 + q18) (x2 + 1)))))
set_option maxRecDepth 100000 in
set_option maxHeartbeats 4000000 in
theorem w_X6_tablePips_h4 {E : zE} {X : zX} {h0 : Hp} {a : Nat} {n : Nat} {f : Nat → Int32}   (C : zC E X RX6 cX6_tablePips 3 (some .int) 4)   : ∀ (q : Nat) (x1 : Int32) (x2 : Int32) (r : Int32), lo2 (f_X6_tablePips_h4 n f) q x1 x2 = some r → zW E X 3 0 0 (MQ (xb X) (zQ E (some (.int r)) (pI E h0 a 217 f)) (xa X) (xs X) 0 0 (zA E)) 4 (pI E h0 a 217 f) [(0, .ref a), (1, .int x1), (2, .int x2)] [] := by
  refine lo2_ind _ ?_
  intro K4 hK4 x1 x2 r hf
  unfold f_X6_tablePips_h4 at hf
  refine z_iload_n C dX6_tablePips_4 2 rfl ?_
  refine z_aload_n C dX6_tablePips_5 0 rfl ?_
  refine z_iconst C (5 : Int32) dX6_tablePips_6 (by decide) ?_
  obtain ⟨c7, hf⟩ := chk_some hf
  refine z_iald C pI_a c7 dX6_tablePips_7 ?_
  refine z_icmp_ge C 29 dX6_tablePips_8 (by decide) (fun c8 => ?_) (fun c8 => ?_)
  · replace hf := ip c8 hf
    refine z_iload_n C dX6_tablePips_29 1 rfl ?_
    obtain rfl := Option.some.inj hf
    exact z_ireturn C dX6_tablePips_30
  · replace hf := iN c8 hf
    refine z_iload_n C dX6_tablePips_11 1 rfl ?_
    refine z_aload_n C dX6_tablePips_12 0 rfl ?_
    refine z_iload_n C dX6_tablePips_13 2 rfl ?_
    refine z_iconst C (0 : Int32) dX6_tablePips_14 (by decide) ?_
    obtain ⟨q15, hq15, hf⟩ := bd_some hf
    refine iv_X6_62 C [.ref a, .int x2, .int (0 : Int32)] [.int x1] (ct_X6_onTable hq15) rfl (by decide) rfl (Nat.le_of_ble_eq_true rfl) z_k0 dX6_tablePips_15 ?_
    obtain ⟨q18, hq18, hf⟩ := bd_some hf
    refine iv_X6_59 C [.int q15] [.int x1] (ct_X6_pips hq18) rfl (by decide) rfl (Nat.le_of_ble_eq_true rfl) z_k0 dX6_tablePips_18 ?_
    refine z_iadd C dX6_tablePips_21 ?_
    refine z_istore_n (lv' := [(1, .int (x1 + q18)), (0, .ref a), (2, .int x2)]) C dX6_tablePips_22 (by decide) rfl ?_
    refine z_iinc (lv' := [(2, .int (x2 + 1)), (1, .int (x1 + q18)), (0, .ref a)]) C dX6_tablePips_23 2 (x2 + 1) rfl rfl (by decide) rfl ?_
    refine z_goto C 4 dX6_tablePips_26 (by decide) ?_
    exact z_sub [2, 1, 0] rfl (hK4 _ _ _ hf)
def f_X6_tablePips (n : Nat) (f : Nat → Int32) : Option Int32 :=
  lo2 (f_X6_tablePips_h4 n f) n (0 : Int32) (0 : Int32)
set_option maxRecDepth 100000 in
set_option maxHeartbeats 4000000 in
theorem ct_X6_tablePips {E : zE} {l : Launch} {h0 : Hp} {a : Nat} {n : Nat} {f : Nat → Int32} {r : Int32}  (hf : f_X6_tablePips n f = some r) : zM E l 4 yX6_tablePips cX6_tablePips 3 (some .int) [.ref a] (pI E h0 a 217 f) (some (.int r)) (pI E h0 a 217 f) := by
  refine zM_of (lv := [(0, .ref a)]) (by decide +kernel) (Nat.le_of_ble_eq_true rfl) rfl (fun X hX C => ?_)
  subst hX
  replace C : zC E X RX6 cX6_tablePips 3 (some .int) 4 := C
  unfold f_X6_tablePips at hf
  refine z_iconst C (0 : Int32) dX6_tablePips_0 (by decide) ?_
  refine z_istore_n (lv' := [(1, .int (0 : Int32)), (0, .ref a)]) C dX6_tablePips_1 (by decide) rfl ?_
  refine z_iconst C (0 : Int32) dX6_tablePips_2 (by decide) ?_
  refine z_istore_n (lv' := [(2, .int (0 : Int32)), (1, .int (0 : Int32)), (0, .ref a)]) C dX6_tablePips_3 (by decide) rfl ?_
  exact z_sub [2, 1, 0] rfl (w_X6_tablePips_h4 C n _ _ _ hf)
/-! X6_placeOf: depth 2 -/
def f_X6_placeOf_h2 (n : Nat) (f : Nat → Int32) (x1 : Int32)  (K2 : Int32 → Option Int32) (x2 : Int32) : Option Int32 :=
  chk (inB (5 : Int32) 217) (if (f (5 : Int32).toNatClampNeg) ≤ x2 then (some (-1 : Int32)) else ((f_X6_onTable f x2 (0 : Int32)).bind (fun q12 => if q12 = x1 then (some x2) else (K2 (x2 + 1)))))
set_option maxRecDepth 100000 in
set_option maxHeartbeats 4000000 in
theorem w_X6_placeOf_h2 {E : zE} {X : zX} {h0 : Hp} {a : Nat} {n : Nat} {f : Nat → Int32} {x1 : Int32}   (C : zC E X RX6 cX6_placeOf 3 (some .int) 2)   : ∀ (q : Nat) (x2 : Int32) (r : Int32), lo1 (f_X6_placeOf_h2 n f x1) q x2 = some r → zW E X 3 0 0 (MQ (xb X) (zQ E (some (.int r)) (pI E h0 a 217 f)) (xa X) (xs X) 0 0 (zA E)) 2 (pI E h0 a 217 f) [(0, .ref a), (1, .int x1), (2, .int x2)] [] := by
  refine lo1_ind _ ?_
  intro K2 hK2 x2 r hf
  unfold f_X6_placeOf_h2 at hf
  refine z_iload_n C dX6_placeOf_2 2 rfl ?_
  refine z_aload_n C dX6_placeOf_3 0 rfl ?_
  refine z_iconst C (5 : Int32) dX6_placeOf_4 (by decide) ?_
  obtain ⟨c5, hf⟩ := chk_some hf
  refine z_iald C pI_a c5 dX6_placeOf_5 ?_
  refine z_icmp_ge C 27 dX6_placeOf_6 (by decide) (fun c6 => ?_) (fun c6 => ?_)
  · replace hf := ip c6 hf
    refine z_iconst C (-1 : Int32) dX6_placeOf_27 (by decide) ?_
    obtain rfl := Option.some.inj hf
    exact z_ireturn C dX6_placeOf_28
  · replace hf := iN c6 hf
    refine z_aload_n C dX6_placeOf_9 0 rfl ?_
    refine z_iload_n C dX6_placeOf_10 2 rfl ?_
    refine z_iconst C (0 : Int32) dX6_placeOf_11 (by decide) ?_
    obtain ⟨q12, hq12, hf⟩ := bd_some hf
    refine iv_X6_62 C [.ref a, .int x2, .int (0 : Int32)] [] (ct_X6_onTable hq12) rfl (by decide) rfl (Nat.le_of_ble_eq_true rfl) z_k0 dX6_placeOf_12 ?_
    refine z_iload_n C dX6_placeOf_15 1 rfl ?_
    refine z_icmp_ne C 21 dX6_placeOf_16 (by decide) (fun c16 => ?_) (fun c16 => ?_)
    · replace hf := iN c16 hf
      refine z_iinc (lv' := [(2, .int (x2 + 1)), (0, .ref a), (1, .int x1)]) C dX6_placeOf_21 2 (x2 + 1) rfl rfl (by decide) rfl ?_
      refine z_goto C 2 dX6_placeOf_24 (by decide) ?_
      exact z_sub [1, 2, 0] rfl (hK2 _ _ hf)
    · replace hf := ip c16 hf
      refine z_iload_n C dX6_placeOf_19 2 rfl ?_
      obtain rfl := Option.some.inj hf
      exact z_ireturn C dX6_placeOf_20
def f_X6_placeOf (n : Nat) (f : Nat → Int32) (x1 : Int32) : Option Int32 :=
  lo1 (f_X6_placeOf_h2 n f x1) n (0 : Int32)
set_option maxRecDepth 100000 in
set_option maxHeartbeats 4000000 in
theorem ct_X6_placeOf {E : zE} {l : Launch} {h0 : Hp} {a : Nat} {n : Nat} {f : Nat → Int32} {x1 : Int32} {r : Int32}  (hf : f_X6_placeOf n f x1 = some r) : zM E l 2 yX6_placeOf cX6_placeOf 3 (some .int) [.ref a, .int x1] (pI E h0 a 217 f) (some (.int r)) (pI E h0 a 217 f) := by
  refine zM_of (lv := [(0, .ref a), (1, .int x1)]) (by decide +kernel) (Nat.le_of_ble_eq_true rfl) rfl (fun X hX C => ?_)
  subst hX
  replace C : zC E X RX6 cX6_placeOf 3 (some .int) 2 := C
  unfold f_X6_placeOf at hf
  refine z_iconst C (0 : Int32) dX6_placeOf_0 (by decide) ?_
  refine z_istore_n (lv' := [(2, .int (0 : Int32)), (0, .ref a), (1, .int x1)]) C dX6_placeOf_1 (by decide) rfl ?_
  exact z_sub [1, 2, 0] rfl (w_X6_placeOf_h2 C n _ _ hf)
/-! X6_inHeap: depth 1 -/
def f_X6_inHeap_h2 (n : Nat) (f : Nat → Int32) (x1 : Int32)  (K2 : Int32 → Option Int32) (x2 : Int32) : Option Int32 :=
  chk (inB (4 : Int32) 217) (if (f (4 : Int32).toNatClampNeg) ≤ x2 then (some (-1 : Int32)) else (chk (inB ((49 : Int32) + x2) 217) (if (f ((49 : Int32) + x2).toNatClampNeg) = x1 then (some x2) else (K2 (x2 + 1)))))
set_option maxRecDepth 100000 in
set_option maxHeartbeats 4000000 in
theorem w_X6_inHeap_h2 {E : zE} {X : zX} {h0 : Hp} {a : Nat} {n : Nat} {f : Nat → Int32} {x1 : Int32}   (C : zC E X RX6 cX6_inHeap 3 (some .int) 1)   : ∀ (q : Nat) (x2 : Int32) (r : Int32), lo1 (f_X6_inHeap_h2 n f x1) q x2 = some r → zW E X 3 0 0 (MQ (xb X) (zQ E (some (.int r)) (pI E h0 a 217 f)) (xa X) (xs X) 0 0 (zA E)) 2 (pI E h0 a 217 f) [(0, .ref a), (1, .int x1), (2, .int x2)] [] := by
  refine lo1_ind _ ?_
  intro K2 hK2 x2 r hf
  unfold f_X6_inHeap_h2 at hf
  refine z_iload_n C dX6_inHeap_2 2 rfl ?_
  refine z_aload_n C dX6_inHeap_3 0 rfl ?_
  refine z_iconst C (4 : Int32) dX6_inHeap_4 (by decide) ?_
  obtain ⟨c5, hf⟩ := chk_some hf
  refine z_iald C pI_a c5 dX6_inHeap_5 ?_
  refine z_icmp_ge C 27 dX6_inHeap_6 (by decide) (fun c6 => ?_) (fun c6 => ?_)
  · replace hf := ip c6 hf
    refine z_iconst C (-1 : Int32) dX6_inHeap_27 (by decide) ?_
    obtain rfl := Option.some.inj hf
    exact z_ireturn C dX6_inHeap_28
  · replace hf := iN c6 hf
    refine z_aload_n C dX6_inHeap_9 0 rfl ?_
    refine z_bipush C (49 : Int32) dX6_inHeap_10 (by decide) ?_
    refine z_iload_n C dX6_inHeap_12 2 rfl ?_
    refine z_iadd C dX6_inHeap_13 ?_
    obtain ⟨c14, hf⟩ := chk_some hf
    refine z_iald C pI_a c14 dX6_inHeap_14 ?_
    refine z_iload_n C dX6_inHeap_15 1 rfl ?_
    refine z_icmp_ne C 21 dX6_inHeap_16 (by decide) (fun c16 => ?_) (fun c16 => ?_)
    · replace hf := iN c16 hf
      refine z_iinc (lv' := [(2, .int (x2 + 1)), (0, .ref a), (1, .int x1)]) C dX6_inHeap_21 2 (x2 + 1) rfl rfl (by decide) rfl ?_
      refine z_goto C 2 dX6_inHeap_24 (by decide) ?_
      exact z_sub [1, 2, 0] rfl (hK2 _ _ hf)
    · replace hf := ip c16 hf
      refine z_iload_n C dX6_inHeap_19 2 rfl ?_
      obtain rfl := Option.some.inj hf
      exact z_ireturn C dX6_inHeap_20
def f_X6_inHeap (n : Nat) (f : Nat → Int32) (x1 : Int32) : Option Int32 :=
  lo1 (f_X6_inHeap_h2 n f x1) n (0 : Int32)
set_option maxRecDepth 100000 in
set_option maxHeartbeats 4000000 in
theorem ct_X6_inHeap {E : zE} {l : Launch} {h0 : Hp} {a : Nat} {n : Nat} {f : Nat → Int32} {x1 : Int32} {r : Int32}  (hf : f_X6_inHeap n f x1 = some r) : zM E l 1 yX6_inHeap cX6_inHeap 3 (some .int) [.ref a, .int x1] (pI E h0 a 217 f) (some (.int r)) (pI E h0 a 217 f) := by
  refine zM_of (lv := [(0, .ref a), (1, .int x1)]) (by decide +kernel) (Nat.le_of_ble_eq_true rfl) rfl (fun X hX C => ?_)
  subst hX
  replace C : zC E X RX6 cX6_inHeap 3 (some .int) 1 := C
  unfold f_X6_inHeap at hf
  refine z_iconst C (0 : Int32) dX6_inHeap_0 (by decide) ?_
  refine z_istore_n (lv' := [(2, .int (0 : Int32)), (0, .ref a), (1, .int x1)]) C dX6_inHeap_1 (by decide) rfl ?_
  exact z_sub [1, 2, 0] rfl (w_X6_inHeap_h2 C n _ _ hf)
/-! X6_reached: depth 3 -/
def f_X6_reached_b95 (n : Nat) (f : Nat → Int32) (x1 : Int32) (K23 : Int32 → Int32 → Option Int32)  (x3 : Int32) (s0 : Int32) : Option Int32 :=
  K23 s0 (x3 + 1)
set_option maxRecDepth 100000 in
set_option maxHeartbeats 4000000 in
theorem w_X6_reached_b95 {E : zE} {X : zX} {h0 : Hp} {a : Nat} {n : Nat} {f : Nat → Int32} {x1 : Int32} {K23 : Int32 → Int32 → Option Int32}  (C : zC E X RX6 cX6_reached 5 (some .int) 3)  (hK23 : ∀ (x2 : Int32) (x3 : Int32) (r : Int32), K23 x2 x3 = some r → zW E X 5 0 0 (MQ (xb X) (zQ E (some (.int r)) (pI E h0 a 217 f)) (xa X) (xs X) 0 0 (zA E)) 23 (pI E h0 a 217 f) [(0, .ref a), (1, .int x1), (2, .int x2), (3, .int x3)] []) {x3 : Int32} {s0 : Int32} {r : Int32} (hf : f_X6_reached_b95 n f x1 K23 x3 s0 = some r) : zW E X 5 0 0 (MQ (xb X) (zQ E (some (.int r)) (pI E h0 a 217 f)) (xa X) (xs X) 0 0 (zA E)) 95 (pI E h0 a 217 f) [(0, .ref a), (1, .int x1), (3, .int x3)] [.int s0] := by
  unfold f_X6_reached_b95 at hf
  refine z_istore_n (lv' := [(2, .int s0), (0, .ref a), (1, .int x1), (3, .int x3)]) C dX6_reached_95 (by decide) rfl ?_
  refine z_iinc (lv' := [(3, .int (x3 + 1)), (2, .int s0), (0, .ref a), (1, .int x1)]) C dX6_reached_96 3 (x3 + 1) rfl rfl (by decide) rfl ?_
  refine z_goto C 23 dX6_reached_99 (by decide) ?_
  exact z_sub [2, 3, 1, 0] rfl (hK23 _ _ _ hf)
def f_X6_reached_b60 (n : Nat) (f : Nat → Int32) (x1 : Int32) (K23 : Int32 → Int32 → Option Int32)  (x2 : Int32) (x3 : Int32) (s0 : Int32) : Option Int32 :=
  chk (¬ (2 : Int32) = 0) (if (jrem x1 (2 : Int32)) = 0 then (if x2 ≤ s0 then (f_X6_reached_b95 n f x1 K23 x3 x2) else (f_X6_reached_b95 n f x1 K23 x3 s0)) else (if s0 ≤ x2 then (f_X6_reached_b95 n f x1 K23 x3 x2) else (f_X6_reached_b95 n f x1 K23 x3 s0)))
set_option maxRecDepth 100000 in
set_option maxHeartbeats 4000000 in
theorem w_X6_reached_b60 {E : zE} {X : zX} {h0 : Hp} {a : Nat} {n : Nat} {f : Nat → Int32} {x1 : Int32} {K23 : Int32 → Int32 → Option Int32}  (C : zC E X RX6 cX6_reached 5 (some .int) 3)  (hK23 : ∀ (x2 : Int32) (x3 : Int32) (r : Int32), K23 x2 x3 = some r → zW E X 5 0 0 (MQ (xb X) (zQ E (some (.int r)) (pI E h0 a 217 f)) (xa X) (xs X) 0 0 (zA E)) 23 (pI E h0 a 217 f) [(0, .ref a), (1, .int x1), (2, .int x2), (3, .int x3)] []) {x2 : Int32} {x3 : Int32} {s0 : Int32} {r : Int32} (hf : f_X6_reached_b60 n f x1 K23 x2 x3 s0 = some r) : zW E X 5 0 0 (MQ (xb X) (zQ E (some (.int r)) (pI E h0 a 217 f)) (xa X) (xs X) 0 0 (zA E)) 60 (pI E h0 a 217 f) [(0, .ref a), (1, .int x1), (2, .int x2), (3, .int x3)] [.int s0] := by
  unfold f_X6_reached_b60 at hf
  refine z_istore (lv' := [(4, .int s0), (0, .ref a), (1, .int x1), (2, .int x2), (3, .int x3)]) C dX6_reached_60 (by decide) rfl ?_
  refine z_iload_n C dX6_reached_62 2 rfl ?_
  refine z_iconst C (2 : Int32) dX6_reached_63 (by decide) ?_
  obtain ⟨c64, hf⟩ := chk_some hf
  refine z_irem C dX6_reached_64 c64 ?_
  refine z_if_ne C 83 dX6_reached_65 (by decide) (fun c65 => ?_) (fun c65 => ?_)
  · replace hf := iN c65 hf
    refine z_iload C dX6_reached_83 0 rfl ?_
    refine z_iload_n C dX6_reached_85 3 rfl ?_
    refine z_icmp_le C 94 dX6_reached_86 (by decide) (fun c86 => ?_) (fun c86 => ?_)
    · replace hf := ip c86 hf
      refine z_iload_n C dX6_reached_94 3 rfl ?_
      exact z_sub [1, 2, 4] rfl (w_X6_reached_b95 C hK23 hf)
    · replace hf := iN c86 hf
      refine z_iload C dX6_reached_89 0 rfl ?_
      refine z_goto C 95 dX6_reached_91 (by decide) ?_
      exact z_sub [1, 2, 4] rfl (w_X6_reached_b95 C hK23 hf)
  · replace hf := ip c65 hf
    refine z_iload C dX6_reached_68 0 rfl ?_
    refine z_iload_n C dX6_reached_70 3 rfl ?_
    refine z_icmp_ge C 79 dX6_reached_71 (by decide) (fun c71 => ?_) (fun c71 => ?_)
    · replace hf := ip c71 hf
      refine z_iload_n C dX6_reached_79 3 rfl ?_
      refine z_goto C 95 dX6_reached_80 (by decide) ?_
      exact z_sub [1, 2, 4] rfl (w_X6_reached_b95 C hK23 hf)
    · replace hf := iN c71 hf
      refine z_iload C dX6_reached_74 0 rfl ?_
      refine z_goto C 95 dX6_reached_76 (by decide) ?_
      exact z_sub [1, 2, 4] rfl (w_X6_reached_b95 C hK23 hf)
def f_X6_reached_h23 (n : Nat) (f : Nat → Int32) (x1 : Int32)  (K23 : Int32 → Int32 → Option Int32) (x2 : Int32) (x3 : Int32) : Option Int32 :=
  chk (inB (5 : Int32) 217) (if ((2 : Int32) * (f (5 : Int32).toNatClampNeg)) ≤ x3 then (some x2) else (if (2 : Int32) ≤ x1 then (chk (¬ (2 : Int32) = 0) (chk (¬ (2 : Int32) = 0) ((f_X6_yOf f (x3 / (2 : Int32)) (jrem x3 (2 : Int32))).bind (fun q57 => f_X6_reached_b60 n f x1 K23 x2 x3 q57)))) else (chk (¬ (2 : Int32) = 0) (chk (¬ (2 : Int32) = 0) ((f_X6_xOf f (x3 / (2 : Int32)) (jrem x3 (2 : Int32))).bind (fun q44 => f_X6_reached_b60 n f x1 K23 x2 x3 q44))))))
set_option maxRecDepth 100000 in
set_option maxHeartbeats 4000000 in
theorem w_X6_reached_h23 {E : zE} {X : zX} {h0 : Hp} {a : Nat} {n : Nat} {f : Nat → Int32} {x1 : Int32}   (C : zC E X RX6 cX6_reached 5 (some .int) 3)   : ∀ (q : Nat) (x2 : Int32) (x3 : Int32) (r : Int32), lo2 (f_X6_reached_h23 n f x1) q x2 x3 = some r → zW E X 5 0 0 (MQ (xb X) (zQ E (some (.int r)) (pI E h0 a 217 f)) (xa X) (xs X) 0 0 (zA E)) 23 (pI E h0 a 217 f) [(0, .ref a), (1, .int x1), (2, .int x2), (3, .int x3)] [] := by
  refine lo2_ind _ ?_
  intro K23 hK23 x2 x3 r hf
  unfold f_X6_reached_h23 at hf
  refine z_iload_n C dX6_reached_23 3 rfl ?_
  refine z_iconst C (2 : Int32) dX6_reached_24 (by decide) ?_
  refine z_aload_n C dX6_reached_25 0 rfl ?_
  refine z_iconst C (5 : Int32) dX6_reached_26 (by decide) ?_
  obtain ⟨c27, hf⟩ := chk_some hf
  refine z_iald C pI_a c27 dX6_reached_27 ?_
  refine z_imul C dX6_reached_28 ?_
  refine z_icmp_ge C 102 dX6_reached_29 (by decide) (fun c29 => ?_) (fun c29 => ?_)
  · replace hf := ip c29 hf
    refine z_iload_n C dX6_reached_102 2 rfl ?_
    obtain rfl := Option.some.inj hf
    exact z_ireturn C dX6_reached_103
  · replace hf := iN c29 hf
    refine z_iload_n C dX6_reached_32 1 rfl ?_
    refine z_iconst C (2 : Int32) dX6_reached_33 (by decide) ?_
    refine z_icmp_ge C 50 dX6_reached_34 (by decide) (fun c34 => ?_) (fun c34 => ?_)
    · replace hf := ip c34 hf
      refine z_aload_n C dX6_reached_50 0 rfl ?_
      refine z_iload_n C dX6_reached_51 3 rfl ?_
      refine z_iconst C (2 : Int32) dX6_reached_52 (by decide) ?_
      obtain ⟨c53, hf⟩ := chk_some hf
      refine z_idiv C dX6_reached_53 c53 ?_
      refine z_iload_n C dX6_reached_54 3 rfl ?_
      refine z_iconst C (2 : Int32) dX6_reached_55 (by decide) ?_
      obtain ⟨c56, hf⟩ := chk_some hf
      refine z_irem C dX6_reached_56 c56 ?_
      obtain ⟨q57, hq57, hf⟩ := bd_some hf
      refine iv_X6_75 C [.ref a, .int (x3 / (2 : Int32)), .int (jrem x3 (2 : Int32))] [] (ct_X6_yOf hq57) rfl (by decide) rfl (Nat.le_of_ble_eq_true rfl) z_k0 dX6_reached_57 ?_
      exact z_sub [0, 1, 2, 3] rfl (w_X6_reached_b60 C hK23 hf)
    · replace hf := iN c34 hf
      refine z_aload_n C dX6_reached_37 0 rfl ?_
      refine z_iload_n C dX6_reached_38 3 rfl ?_
      refine z_iconst C (2 : Int32) dX6_reached_39 (by decide) ?_
      obtain ⟨c40, hf⟩ := chk_some hf
      refine z_idiv C dX6_reached_40 c40 ?_
      refine z_iload_n C dX6_reached_41 3 rfl ?_
      refine z_iconst C (2 : Int32) dX6_reached_42 (by decide) ?_
      obtain ⟨c43, hf⟩ := chk_some hf
      refine z_irem C dX6_reached_43 c43 ?_
      obtain ⟨q44, hq44, hf⟩ := bd_some hf
      refine iv_X6_72 C [.ref a, .int (x3 / (2 : Int32)), .int (jrem x3 (2 : Int32))] [] (ct_X6_xOf hq44) rfl (by decide) rfl (Nat.le_of_ble_eq_true rfl) z_k0 dX6_reached_44 ?_
      refine z_goto C 60 dX6_reached_47 (by decide) ?_
      exact z_sub [0, 1, 2, 3] rfl (w_X6_reached_b60 C hK23 hf)
def f_X6_reached_b20 (n : Nat) (f : Nat → Int32) (x1 : Int32)   (s0 : Int32) : Option Int32 :=
  lo2 (f_X6_reached_h23 n f x1) n s0 (0 : Int32)
set_option maxRecDepth 100000 in
set_option maxHeartbeats 4000000 in
theorem w_X6_reached_b20 {E : zE} {X : zX} {h0 : Hp} {a : Nat} {n : Nat} {f : Nat → Int32} {x1 : Int32}   (C : zC E X RX6 cX6_reached 5 (some .int) 3)   {s0 : Int32} {r : Int32} (hf : f_X6_reached_b20 n f x1 s0 = some r) : zW E X 5 0 0 (MQ (xb X) (zQ E (some (.int r)) (pI E h0 a 217 f)) (xa X) (xs X) 0 0 (zA E)) 20 (pI E h0 a 217 f) [(0, .ref a), (1, .int x1)] [.int s0] := by
  unfold f_X6_reached_b20 at hf
  refine z_istore_n (lv' := [(2, .int s0), (0, .ref a), (1, .int x1)]) C dX6_reached_20 (by decide) rfl ?_
  refine z_iconst C (0 : Int32) dX6_reached_21 (by decide) ?_
  refine z_istore_n (lv' := [(3, .int (0 : Int32)), (2, .int s0), (0, .ref a), (1, .int x1)]) C dX6_reached_22 (by decide) rfl ?_
  exact z_sub [2, 3, 1, 0] rfl (w_X6_reached_h23 C n _ _ _ hf)
def f_X6_reached (n : Nat) (f : Nat → Int32) (x1 : Int32) : Option Int32 :=
  if (2 : Int32) ≤ x1 then ((f_X6_yOf f (0 : Int32) (0 : Int32)).bind (fun q17 => f_X6_reached_b20 n f x1 q17)) else ((f_X6_xOf f (0 : Int32) (0 : Int32)).bind (fun q8 => f_X6_reached_b20 n f x1 q8))
set_option maxRecDepth 100000 in
set_option maxHeartbeats 4000000 in
theorem ct_X6_reached {E : zE} {l : Launch} {h0 : Hp} {a : Nat} {n : Nat} {f : Nat → Int32} {x1 : Int32} {r : Int32}  (hf : f_X6_reached n f x1 = some r) : zM E l 3 yX6_reached cX6_reached 5 (some .int) [.ref a, .int x1] (pI E h0 a 217 f) (some (.int r)) (pI E h0 a 217 f) := by
  refine zM_of (lv := [(0, .ref a), (1, .int x1)]) (by decide +kernel) (Nat.le_of_ble_eq_true rfl) rfl (fun X hX C => ?_)
  subst hX
  replace C : zC E X RX6 cX6_reached 5 (some .int) 3 := C
  unfold f_X6_reached at hf
  refine z_iload_n C dX6_reached_0 1 rfl ?_
  refine z_iconst C (2 : Int32) dX6_reached_1 (by decide) ?_
  refine z_icmp_ge C 14 dX6_reached_2 (by decide) (fun c2 => ?_) (fun c2 => ?_)
  · replace hf := ip c2 hf
    refine z_aload_n C dX6_reached_14 0 rfl ?_
    refine z_iconst C (0 : Int32) dX6_reached_15 (by decide) ?_
    refine z_iconst C (0 : Int32) dX6_reached_16 (by decide) ?_
    obtain ⟨q17, hq17, hf⟩ := bd_some hf
    refine iv_X6_75 C [.ref a, .int (0 : Int32), .int (0 : Int32)] [] (ct_X6_yOf hq17) rfl (by decide) rfl (Nat.le_of_ble_eq_true rfl) z_k0 dX6_reached_17 ?_
    exact z_sub [0, 1] rfl (w_X6_reached_b20 C hf)
  · replace hf := iN c2 hf
    refine z_aload_n C dX6_reached_5 0 rfl ?_
    refine z_iconst C (0 : Int32) dX6_reached_6 (by decide) ?_
    refine z_iconst C (0 : Int32) dX6_reached_7 (by decide) ?_
    obtain ⟨q8, hq8, hf⟩ := bd_some hf
    refine iv_X6_72 C [.ref a, .int (0 : Int32), .int (0 : Int32)] [] (ct_X6_xOf hq8) rfl (by decide) rfl (Nat.le_of_ble_eq_true rfl) z_k0 dX6_reached_8 ?_
    refine z_goto C 20 dX6_reached_11 (by decide) ?_
    exact z_sub [0, 1] rfl (w_X6_reached_b20 C hf)
