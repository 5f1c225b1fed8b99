/-! J7_fill_53178: depth 1 -/
def f_J7_fill_53178_h5 (n : Nat) (N : Nat) (x1 : Int32)  (K5 : (Nat → Int32) → Int32 → Int32 → Option (Nat → Int32)) (f : Nat → Int32) (x2 : Int32) (x3 : Int32) : Option (Nat → Int32) :=
  if x3 ≤ x2 then (some f) else (chk (inB x2 N) (K5 (upd (f) x2.toNatClampNeg x1) (x2 + 1) x3))
set_option maxRecDepth 100000 in
set_option maxHeartbeats 4000000 in
theorem w_J7_fill_53178_h5 {E : zE} {X : zX} {h0 : Hp} {a : Nat} {n : Nat} {N : Nat} {x1 : Int32}  (hN : N < 2 ^ 31) (C : zC E X RJ7 cJ7_fill_53178 4 none 1)   : ∀ (q : Nat) (f : Nat → Int32) (x2 : Int32) (x3 : Int32) (r : (Nat → Int32)), lo3 (f_J7_fill_53178_h5 n N x1) q f x2 x3 = some r → zW E X 4 0 0 (MQ (xb X) (zQ E none (pI E h0 a N r)) (xa X) (xs X) 0 0 (zA E)) 5 (pI E h0 a N f) [(0, .ref a), (1, .int x1), (2, .int x2), (3, .int x3)] [] := by
  refine lo3_ind _ ?_
  intro K5 hK5 f x2 x3 r hf
  unfold f_J7_fill_53178_h5 at hf
  refine z_iload_n C dJ7_fill_53178_5 2 rfl ?_
  refine z_iload_n C dJ7_fill_53178_6 3 rfl ?_
  refine z_icmp_ge C 20 dJ7_fill_53178_7 (by decide) (fun c7 => ?_) (fun c7 => ?_)
  · replace hf := ip c7 hf
    obtain rfl := Option.some.inj hf
    exact z_return C dJ7_fill_53178_20
  · replace hf := iN c7 hf
    refine z_aload_n C dJ7_fill_53178_10 0 rfl ?_
    refine z_iload_n C dJ7_fill_53178_11 2 rfl ?_
    refine z_iload_n C dJ7_fill_53178_12 1 rfl ?_
    obtain ⟨c13, hf⟩ := chk_some hf
    refine z_iast C pI_a c13 dJ7_fill_53178_13 _ (pI_w _) ?_
    refine z_iinc (lv' := [(2, .int (x2 + 1)), (0, .ref a), (1, .int x1), (3, .int x3)]) C dJ7_fill_53178_14 2 (x2 + 1) rfl rfl (by decide) rfl ?_
    refine z_goto C 5 dJ7_fill_53178_17 (by decide) ?_
    exact z_sub [1, 2, 0, 3] rfl (hK5 _ _ _ _ hf)
def f_J7_fill_53178 (n : Nat) (N : Nat) (f : Nat → Int32) (x1 : Int32) : Option (Nat → Int32) :=
  lo3 (f_J7_fill_53178_h5 n N x1) n f (0 : Int32) (Int32.ofNat N)
set_option maxRecDepth 100000 in
set_option maxHeartbeats 4000000 in
theorem ct_J7_fill_53178 {E : zE} {l : Launch} {h0 : Hp} {a : Nat} {n : Nat} {N : Nat} {f : Nat → Int32} {x1 : Int32} {r : (Nat → Int32)} (hN : N < 2 ^ 31) (hf : f_J7_fill_53178 n N f x1 = some r) : zM E l 1 yJ7_fill_53178 cJ7_fill_53178 4 none [.ref a, .int x1] (pI E h0 a N f) none (pI E h0 a N r) := by
  refine zM_of (lv := [(0, .ref a), (1, .int x1)]) (by decide +kernel) (Nat.le_of_ble_eq_true rfl) rfl (fun X hX C => ?_)
  subst hX
  replace C : zC E X RJ7 cJ7_fill_53178 4 none 1 := C
  unfold f_J7_fill_53178 at hf
  refine z_iconst C (0 : Int32) dJ7_fill_53178_0 (by decide) ?_
  refine z_istore_n (lv' := [(2, .int (0 : Int32)), (0, .ref a), (1, .int x1)]) C dJ7_fill_53178_1 (by decide) rfl ?_
  refine z_aload_n C dJ7_fill_53178_2 1 rfl ?_
  refine z_alenI C pI_a rfl dJ7_fill_53178_3 ?_
  refine z_istore_n (lv' := [(3, .int (Int32.ofNat N)), (2, .int (0 : Int32)), (0, .ref a), (1, .int x1)]) C dJ7_fill_53178_4 (by decide) rfl ?_
  exact z_sub [2, 3, 1, 0] rfl (w_J7_fill_53178_h5 hN C n _ _ _ _ hf)
/-! X2_size: depth 1 -/
def f_X2_size (G : GS) : Option Int32 :=
  some (G.2.1 0)
set_option maxRecDepth 100000 in
set_option maxHeartbeats 4000000 in
theorem ct_X2_size {E : zE} {l : Launch} {h0 : Hp} {g : Nat} {G : GS} {r : Int32}  (hf : f_X2_size G = some r) : zM E l 1 yX2_size cX2_size 1 (some .int) [.ref (g + 5)] (pG E h0 g G) (some (.int r)) (pG E h0 g G) := by
  refine zM_of (lv := [(0, .ref (g + 5))]) (by decide +kernel) (Nat.le_of_ble_eq_true rfl) rfl (fun X hX C => ?_)
  subst hX
  replace C : zC E X RX2 cX2_size 1 (some .int) 1 := C
  unfold f_X2_size at hf
  refine z_aload_n C dX2_size_0 0 rfl ?_
  refine gf_X2_40 C dX2_size_1 ?_
  obtain rfl := Option.some.inj hf
  exact z_ireturn C dX2_size_4
/-! X2_endOfNow: depth 1 -/
def f_X2_endOfNow (G : GS) : Option Int32 :=
  some (G.2.1 1)
set_option maxRecDepth 100000 in
set_option maxHeartbeats 4000000 in
theorem ct_X2_endOfNow {E : zE} {l : Launch} {h0 : Hp} {g : Nat} {G : GS} {r : Int32}  (hf : f_X2_endOfNow G = some r) : zM E l 1 yX2_endOfNow cX2_endOfNow 1 (some .int) [.ref (g + 5)] (pG E h0 g G) (some (.int r)) (pG E h0 g G) := by
  refine zM_of (lv := [(0, .ref (g + 5))]) (by decide +kernel) (Nat.le_of_ble_eq_true rfl) rfl (fun X hX C => ?_)
  subst hX
  replace C : zC E X RX2 cX2_endOfNow 1 (some .int) 1 := C
  unfold f_X2_endOfNow at hf
  refine z_aload_n C dX2_endOfNow_0 0 rfl ?_
  refine gf_X2_9 C dX2_endOfNow_1 ?_
  obtain rfl := Option.some.inj hf
  exact z_ireturn C dX2_endOfNow_4
/-! X2_directionOfNow: depth 1 -/
def f_X2_directionOfNow (G : GS) : Option Int32 :=
  some (G.2.1 2)
set_option maxRecDepth 100000 in
set_option maxHeartbeats 4000000 in
theorem ct_X2_directionOfNow {E : zE} {l : Launch} {h0 : Hp} {g : Nat} {G : GS} {r : Int32}  (hf : f_X2_directionOfNow G = some r) : zM E l 1 yX2_directionOfNow cX2_directionOfNow 1 (some .int) [.ref (g + 5)] (pG E h0 g G) (some (.int r)) (pG E h0 g G) := by
  refine zM_of (lv := [(0, .ref (g + 5))]) (by decide +kernel) (Nat.le_of_ble_eq_true rfl) rfl (fun X hX C => ?_)
  subst hX
  replace C : zC E X RX2 cX2_directionOfNow 1 (some .int) 1 := C
  unfold f_X2_directionOfNow at hf
  refine z_aload_n C dX2_directionOfNow_0 0 rfl ?_
  refine gf_X2_43 C dX2_directionOfNow_1 ?_
  obtain rfl := Option.some.inj hf
  exact z_ireturn C dX2_directionOfNow_4
/-! X2_becomeEmpty: depth 2 -/
def f_X2_becomeEmpty (n : Nat) (G : GS) : Option GS :=
  stt (gL (gL (gL (gL G 0 (0 : Int32)) 1 (-1 : Int32)) 2 (0 : Int32)) 3 (12 : Int32)) (fun Gn1 => (f_J7_fill_53178 n 25 ((gL Gn1 4 (12 : Int32)).2.2 9) (0 : Int32)).bind (fun q32 => some (gA (gL Gn1 4 (12 : Int32)) 9 q32)))
set_option maxRecDepth 100000 in
set_option maxHeartbeats 4000000 in
theorem ct_X2_becomeEmpty {E : zE} {l : Launch} {h0 : Hp} {g : Nat} {n : Nat} {G : GS} {r : GS}  (hf : f_X2_becomeEmpty n G = some r) : zM E l 2 yX2_becomeEmpty cX2_becomeEmpty 1 none [.ref (g + 5)] (pG E h0 g G) none (pG E h0 g r) := by
  refine zM_of (lv := [(0, .ref (g + 5))]) (by decide +kernel) (Nat.le_of_ble_eq_true rfl) rfl (fun X hX C => ?_)
  subst hX
  replace C : zC E X RX2 cX2_becomeEmpty 1 none 2 := C
  unfold f_X2_becomeEmpty at hf
  refine z_aload_n C dX2_becomeEmpty_0 0 rfl ?_
  refine z_iconst C (0 : Int32) dX2_becomeEmpty_1 (by decide) ?_
  refine pf_X2_40 C dX2_becomeEmpty_2 ?_
  refine z_aload_n C dX2_becomeEmpty_5 0 rfl ?_
  refine z_iconst C (-1 : Int32) dX2_becomeEmpty_6 (by decide) ?_
  refine pf_X2_9 C dX2_becomeEmpty_7 ?_
  refine z_aload_n C dX2_becomeEmpty_10 0 rfl ?_
  refine z_iconst C (0 : Int32) dX2_becomeEmpty_11 (by decide) ?_
  refine pf_X2_43 C dX2_becomeEmpty_12 ?_
  refine z_aload_n C dX2_becomeEmpty_15 0 rfl ?_
  refine z_bipush C (12 : Int32) dX2_becomeEmpty_16 (by decide) ?_
  refine pf_X2_15 C dX2_becomeEmpty_18 ?_
  obtain ⟨Gn1, eGn1, hf⟩ := st_some hf
  refine z_heap (congrArg (fun z => (pG E h0 g z)) eGn1.symm) ?_
  refine z_aload_n C dX2_becomeEmpty_21 0 rfl ?_
  refine z_bipush C (12 : Int32) dX2_becomeEmpty_22 (by decide) ?_
  refine pf_X2_18 C dX2_becomeEmpty_24 ?_
  refine z_aload_n C dX2_becomeEmpty_27 0 rfl ?_
  refine gf_X2_37 C dX2_becomeEmpty_28 ?_
  refine z_iconst C (0 : Int32) dX2_becomeEmpty_31 (by decide) ?_
  obtain ⟨q32, hq32, hf⟩ := bd_some hf
  refine z_heap (pI_of pG_a9) ?_
  refine iv_X2_46 C [.ref (g + 11), .int (0 : Int32)] [] (ct_J7_fill_53178 (by decide) hq32) rfl (by decide) rfl (Nat.le_of_ble_eq_true rfl) z_k0 dX2_becomeEmpty_32 ?_
  refine z_heap (pG_w9 _) ?_
  obtain rfl := Option.some.inj hf
  exact z_return C dX2_becomeEmpty_35
/-! X2_fits: depth 2 -/
def f_X2_fits_b29 (G : GS) (x1 : Int32)    : Option Int32 :=
  some (1 : Int32)
set_option maxRecDepth 100000 in
set_option maxHeartbeats 4000000 in
theorem w_X2_fits_b29 {E : zE} {X : zX} {h0 : Hp} {g : Nat} {G : GS} {x1 : Int32}   (C : zC E X RX2 cX2_fits 2 (some .boolean) 2)    {r : Int32} (hf : f_X2_fits_b29 G x1  = some r) : zW E X 2 0 0 (MQ (xb X) (zQ E (some (.int r)) (pG E h0 g G)) (xa X) (xs X) 0 0 (zA E)) 29 (pG E h0 g G) [] [] := by
  unfold f_X2_fits_b29 at hf
  refine z_iconst C (1 : Int32) dX2_fits_29 (by decide) ?_
  refine z_goto C 34 dX2_fits_30 (by decide) ?_
  obtain rfl := Option.some.inj hf
  exact z_zreturn (v := (1 : Int32)) C (by decide) dX2_fits_34
def f_X2_fits (G : GS) (x1 : Int32) : Option Int32 :=
  if (G.2.1 0) = 0 then (f_X2_fits_b29 G x1 ) else ((f_X5_lowOf x1).bind (fun q8 => if q8 = (G.2.1 1) then (f_X2_fits_b29 G x1 ) else ((f_X5_highOf x1).bind (fun q19 => if q19 = (G.2.1 1) then (f_X2_fits_b29 G x1 ) else (some (0 : Int32))))))
set_option maxRecDepth 100000 in
set_option maxHeartbeats 4000000 in
theorem ct_X2_fits {E : zE} {l : Launch} {h0 : Hp} {g : Nat} {G : GS} {x1 : Int32} {r : Int32}  (hf : f_X2_fits G x1 = some r) : zM E l 2 yX2_fits cX2_fits 2 (some .boolean) [.ref (g + 5), .int x1] (pG E h0 g G) (some (.int r)) (pG E h0 g G) := by
  refine zM_of (lv := [(0, .ref (g + 5)), (1, .int x1)]) (by decide +kernel) (Nat.le_of_ble_eq_true rfl) rfl (fun X hX C => ?_)
  subst hX
  replace C : zC E X RX2 cX2_fits 2 (some .boolean) 2 := C
  unfold f_X2_fits at hf
  refine z_aload_n C dX2_fits_0 0 rfl ?_
  refine gf_X2_40 C dX2_fits_1 ?_
  refine z_if_eq C 29 dX2_fits_4 (by decide) (fun c4 => ?_) (fun c4 => ?_)
  · replace hf := ip c4 hf
    exact z_sub [] rfl (w_X2_fits_b29 C hf)
  · replace hf := iN c4 hf
    refine z_iload_n C dX2_fits_7 1 rfl ?_
    obtain ⟨q8, hq8, hf⟩ := bd_some hf
    refine iv_X2_58 C [.int x1] [] (ct_X5_lowOf hq8) rfl (by decide) rfl (Nat.le_of_ble_eq_true rfl) z_k0 dX2_fits_8 ?_
    refine z_aload_n C dX2_fits_11 0 rfl ?_
    refine gf_X2_9 C dX2_fits_12 ?_
    refine z_icmp_eq C 29 dX2_fits_15 (by decide) (fun c15 => ?_) (fun c15 => ?_)
    · replace hf := ip c15 hf
      exact z_sub [] rfl (w_X2_fits_b29 C hf)
    · replace hf := iN c15 hf
      refine z_iload_n C dX2_fits_18 1 rfl ?_
      obtain ⟨q19, hq19, hf⟩ := bd_some hf
      refine iv_X2_62 C [.int x1] [] (ct_X5_highOf hq19) rfl (by decide) rfl (Nat.le_of_ble_eq_true rfl) z_k0 dX2_fits_19 ?_
      refine z_aload_n C dX2_fits_22 0 rfl ?_
      refine gf_X2_9 C dX2_fits_23 ?_
      refine z_icmp_ne C 33 dX2_fits_26 (by decide) (fun c26 => ?_) (fun c26 => ?_)
      · replace hf := iN c26 hf
        refine z_iconst C (0 : Int32) dX2_fits_33 (by decide) ?_
        obtain rfl := Option.some.inj hf
        exact z_zreturn (v := (0 : Int32)) C (by decide) dX2_fits_34
      · replace hf := ip c26 hf
        exact z_sub [] rfl (w_X2_fits_b29 C hf)
/-! X2_isFree: depth 1 -/
def f_X2_isFree (G : GS) (x1 : Int32) (x2 : Int32) : Option Int32 :=
  if x1 < 0 then (some (0 : Int32)) else (if (25 : Int32) ≤ x1 then (some (0 : Int32)) else (if x2 < 0 then (some (0 : Int32)) else (if (25 : Int32) ≤ x2 then (some (0 : Int32)) else (chk (inB x2 25) (if ((jushr (G.2.2 9 x2.toNatClampNeg) x1) &&& (1 : Int32)) = 0 then (some (1 : Int32)) else (some (0 : Int32)))))))
set_option maxRecDepth 100000 in
set_option maxHeartbeats 4000000 in
theorem ct_X2_isFree {E : zE} {l : Launch} {h0 : Hp} {g : Nat} {G : GS} {x1 : Int32} {x2 : Int32} {r : Int32}  (hf : f_X2_isFree G x1 x2 = some r) : zM E l 1 yX2_isFree cX2_isFree 3 (some .boolean) [.ref (g + 5), .int x1, .int x2] (pG E h0 g G) (some (.int r)) (pG E h0 g G) := by
  refine zM_of (lv := [(0, .ref (g + 5)), (1, .int x1), (2, .int x2)]) (by decide +kernel) (Nat.le_of_ble_eq_true rfl) rfl (fun X hX C => ?_)
  subst hX
  replace C : zC E X RX2 cX2_isFree 3 (some .boolean) 1 := C
  unfold f_X2_isFree at hf
  refine z_iload_n C dX2_isFree_0 1 rfl ?_
  refine z_if_lt C 37 dX2_isFree_1 (by decide) (fun c1 => ?_) (fun c1 => ?_)
  · replace hf := ip c1 hf
    refine z_iconst C (0 : Int32) dX2_isFree_37 (by decide) ?_
    obtain rfl := Option.some.inj hf
    exact z_zreturn (v := (0 : Int32)) C (by decide) dX2_isFree_38
  · replace hf := iN c1 hf
    refine z_iload_n C dX2_isFree_4 1 rfl ?_
    refine z_bipush C (25 : Int32) dX2_isFree_5 (by decide) ?_
    refine z_icmp_ge C 37 dX2_isFree_7 (by decide) (fun c7 => ?_) (fun c7 => ?_)
    · replace hf := ip c7 hf
      refine z_iconst C (0 : Int32) dX2_isFree_37 (by decide) ?_
      obtain rfl := Option.some.inj hf
      exact z_zreturn (v := (0 : Int32)) C (by decide) dX2_isFree_38
    · replace hf := iN c7 hf
      refine z_iload_n C dX2_isFree_10 2 rfl ?_
      refine z_if_lt C 37 dX2_isFree_11 (by decide) (fun c11 => ?_) (fun c11 => ?_)
      · replace hf := ip c11 hf
        refine z_iconst C (0 : Int32) dX2_isFree_37 (by decide) ?_
        obtain rfl := Option.some.inj hf
        exact z_zreturn (v := (0 : Int32)) C (by decide) dX2_isFree_38
      · replace hf := iN c11 hf
        refine z_iload_n C dX2_isFree_14 2 rfl ?_
        refine z_bipush C (25 : Int32) dX2_isFree_15 (by decide) ?_
        refine z_icmp_ge C 37 dX2_isFree_17 (by decide) (fun c17 => ?_) (fun c17 => ?_)
        · replace hf := ip c17 hf
          refine z_iconst C (0 : Int32) dX2_isFree_37 (by decide) ?_
          obtain rfl := Option.some.inj hf
          exact z_zreturn (v := (0 : Int32)) C (by decide) dX2_isFree_38
        · replace hf := iN c17 hf
          refine z_aload_n C dX2_isFree_20 0 rfl ?_
          refine gf_X2_37 C dX2_isFree_21 ?_
          refine z_iload_n C dX2_isFree_24 2 rfl ?_
          obtain ⟨c25, hf⟩ := chk_some hf
          refine z_iald C pG_a9 c25 dX2_isFree_25 ?_
          refine z_iload_n C dX2_isFree_26 1 rfl ?_
          refine z_iushr C dX2_isFree_27 ?_
          refine z_iconst C (1 : Int32) dX2_isFree_28 (by decide) ?_
          refine z_iand C dX2_isFree_29 ?_
          refine z_if_ne C 37 dX2_isFree_30 (by decide) (fun c30 => ?_) (fun c30 => ?_)
          · replace hf := iN c30 hf
            refine z_iconst C (0 : Int32) dX2_isFree_37 (by decide) ?_
            obtain rfl := Option.some.inj hf
            exact z_zreturn (v := (0 : Int32)) C (by decide) dX2_isFree_38
          · replace hf := ip c30 hf
            refine z_iconst C (1 : Int32) dX2_isFree_33 (by decide) ?_
            refine z_goto C 38 dX2_isFree_34 (by decide) ?_
            obtain rfl := Option.some.inj hf
            exact z_zreturn (v := (1 : Int32)) C (by decide) dX2_isFree_38
/-! X2_hasRoom: depth 2 -/
def f_X2_hasRoom (G : GS) : Option Int32 :=
  (f_X2_isFree G (G.2.1 3) (G.2.1 4)).bind (fun q9 => if q9 = 0 then (some (0 : Int32)) else ((f_X5_stepX (G.2.1 2)).bind (fun q24 => (f_X5_stepY (G.2.1 2)).bind (fun q36 => (f_X2_isFree G ((G.2.1 3) + q24) ((G.2.1 4) + q36)).bind (fun q40 => if q40 = 0 then (some (0 : Int32)) else (some (1 : Int32)))))))
set_option maxRecDepth 100000 in
set_option maxHeartbeats 4000000 in
theorem ct_X2_hasRoom {E : zE} {l : Launch} {h0 : Hp} {g : Nat} {G : GS} {r : Int32}  (hf : f_X2_hasRoom G = some r) : zM E l 2 yX2_hasRoom cX2_hasRoom 1 (some .boolean) [.ref (g + 5)] (pG E h0 g G) (some (.int r)) (pG E h0 g G) := by
  refine zM_of (lv := [(0, .ref (g + 5))]) (by decide +kernel) (Nat.le_of_ble_eq_true rfl) rfl (fun X hX C => ?_)
  subst hX
  replace C : zC E X RX2 cX2_hasRoom 1 (some .boolean) 2 := C
  unfold f_X2_hasRoom at hf
  refine z_aload_n C dX2_hasRoom_0 0 rfl ?_
  refine z_aload_n C dX2_hasRoom_1 0 rfl ?_
  refine gf_X2_15 C dX2_hasRoom_2 ?_
  refine z_aload_n C dX2_hasRoom_5 0 rfl ?_
  refine gf_X2_18 C dX2_hasRoom_6 ?_
  obtain ⟨q9, hq9, hf⟩ := bd_some hf
  refine iv_X2_65 C [.int (G.2.1 3), .int (G.2.1 4)] [] (ct_X2_isFree hq9) pG_l rfl (by decide) rfl (Nat.le_of_ble_eq_true rfl) z_k0 dX2_hasRoom_9 ?_
  refine z_if_eq C 50 dX2_hasRoom_12 (by decide) (fun c12 => ?_) (fun c12 => ?_)
  · replace hf := ip c12 hf
    refine z_iconst C (0 : Int32) dX2_hasRoom_50 (by decide) ?_
    obtain rfl := Option.some.inj hf
    exact z_zreturn (v := (0 : Int32)) C (by decide) dX2_hasRoom_51
  · replace hf := iN c12 hf
    refine z_aload_n C dX2_hasRoom_15 0 rfl ?_
    refine z_aload_n C dX2_hasRoom_16 0 rfl ?_
    refine gf_X2_15 C dX2_hasRoom_17 ?_
    refine z_aload_n C dX2_hasRoom_20 0 rfl ?_
    refine gf_X2_43 C dX2_hasRoom_21 ?_
    obtain ⟨q24, hq24, hf⟩ := bd_some hf
    refine iv_X2_69 C [.int (G.2.1 2)] [.int (G.2.1 3), .ref (g + 5)] (ct_X5_stepX hq24) rfl (by decide) rfl (Nat.le_of_ble_eq_true rfl) z_k0 dX2_hasRoom_24 ?_
    refine z_iadd C dX2_hasRoom_27 ?_
    refine z_aload_n C dX2_hasRoom_28 0 rfl ?_
    refine gf_X2_18 C dX2_hasRoom_29 ?_
    refine z_aload_n C dX2_hasRoom_32 0 rfl ?_
    refine gf_X2_43 C dX2_hasRoom_33 ?_
    obtain ⟨q36, hq36, hf⟩ := bd_some hf
    refine iv_X2_72 C [.int (G.2.1 2)] [.int (G.2.1 4), .int ((G.2.1 3) + q24), .ref (g + 5)] (ct_X5_stepY hq36) rfl (by decide) rfl (Nat.le_of_ble_eq_true rfl) z_k0 dX2_hasRoom_36 ?_
    refine z_iadd C dX2_hasRoom_39 ?_
    obtain ⟨q40, hq40, hf⟩ := bd_some hf
    refine iv_X2_65 C [.int ((G.2.1 3) + q24), .int ((G.2.1 4) + q36)] [] (ct_X2_isFree hq40) pG_l rfl (by decide) rfl (Nat.le_of_ble_eq_true rfl) z_k0 dX2_hasRoom_40 ?_
    refine z_if_eq C 50 dX2_hasRoom_43 (by decide) (fun c43 => ?_) (fun c43 => ?_)
    · replace hf := ip c43 hf
      refine z_iconst C (0 : Int32) dX2_hasRoom_50 (by decide) ?_
      obtain rfl := Option.some.inj hf
      exact z_zreturn (v := (0 : Int32)) C (by decide) dX2_hasRoom_51
    · replace hf := iN c43 hf
      refine z_iconst C (1 : Int32) dX2_hasRoom_46 (by decide) ?_
      refine z_goto C 51 dX2_hasRoom_47 (by decide) ?_
      obtain rfl := Option.some.inj hf
      exact z_zreturn (v := (1 : Int32)) C (by decide) dX2_hasRoom_51
/-! X2_cover: depth 2 -/
def f_X2_cover (G : GS) (x1 : Int32) (x2 : Int32) : Option GS :=
  (f_X5_isCell x1 x2).bind (fun q2 => if q2 = 0 then (some G) else (chk (inB x2 25) (chk (inB x2 25) (stt (gA G 9 (upd (G.2.2 9) x2.toNatClampNeg ((G.2.2 9 x2.toNatClampNeg) ||| (jshl (1 : Int32) x1)))) (fun Gn1 => some Gn1)))))
set_option maxRecDepth 100000 in
set_option maxHeartbeats 4000000 in
theorem ct_X2_cover {E : zE} {l : Launch} {h0 : Hp} {g : Nat} {G : GS} {x1 : Int32} {x2 : Int32} {r : GS}  (hf : f_X2_cover G x1 x2 = some r) : zM E l 2 yX2_cover cX2_cover 3 none [.ref (g + 5), .int x1, .int x2] (pG E h0 g G) none (pG E h0 g r) := by
  refine zM_of (lv := [(0, .ref (g + 5)), (1, .int x1), (2, .int x2)]) (by decide +kernel) (Nat.le_of_ble_eq_true rfl) rfl (fun X hX C => ?_)
  subst hX
  replace C : zC E X RX2 cX2_cover 3 none 2 := C
  unfold f_X2_cover at hf
  refine z_iload_n C dX2_cover_0 1 rfl ?_
  refine z_iload_n C dX2_cover_1 2 rfl ?_
  obtain ⟨q2, hq2, hf⟩ := bd_some hf
  refine iv_X2_105 C [.int x1, .int x2] [] (ct_X5_isCell hq2) rfl (by decide) rfl (Nat.le_of_ble_eq_true rfl) z_k0 dX2_cover_2 ?_
  refine z_if_eq C 20 dX2_cover_5 (by decide) (fun c5 => ?_) (fun c5 => ?_)
  · replace hf := ip c5 hf
    obtain rfl := Option.some.inj hf
    exact z_return C dX2_cover_20
  · replace hf := iN c5 hf
    refine z_aload_n C dX2_cover_8 0 rfl ?_
    refine gf_X2_37 C dX2_cover_9 ?_
    refine z_iload_n C dX2_cover_12 2 rfl ?_
    refine z_dup2 C dX2_cover_13 rfl rfl ?_
    obtain ⟨c14, hf⟩ := chk_some hf
    refine z_iald C pG_a9 c14 dX2_cover_14 ?_
    refine z_iconst C (1 : Int32) dX2_cover_15 (by decide) ?_
    refine z_iload_n C dX2_cover_16 1 rfl ?_
    refine z_ishl C dX2_cover_17 ?_
    refine z_ior C dX2_cover_18 ?_
    obtain ⟨c19, hf⟩ := chk_some hf
    refine z_iast C pG_a9 c19 dX2_cover_19 _ (pG_w9 _) ?_
    obtain ⟨Gn1, eGn1, hf⟩ := st_some hf
    refine z_heap (congrArg (fun z => (pG E h0 g z)) eGn1.symm) ?_
    obtain rfl := Option.some.inj hf
    exact z_return C dX2_cover_20
/-! X2_add: depth 3 -/
def f_X2_add_b194 (x1 : Int32) (x2 : Int32)   (G : GS) (x4 : Int32) (x5 : Int32) : Option GS :=
  (f_X5_stepX (G.2.1 2)).bind (fun q201 => (f_X5_stepY ((gL G 3 (x4 + q201)).2.1 2)).bind (fun q215 => some (gL (gL G 3 (x4 + q201)) 4 (x5 + q215))))
set_option maxRecDepth 100000 in
set_option maxHeartbeats 4000000 in
theorem w_X2_add_b194 {E : zE} {X : zX} {h0 : Hp} {g : Nat} {x1 : Int32} {x2 : Int32}   (C : zC E X RX2 cX2_add 6 none 3)   {G : GS} {x4 : Int32} {x5 : Int32} {r : GS} (hf : f_X2_add_b194 x1 x2 G x4 x5 = some r) : zW E X 6 0 0 (MQ (xb X) (zQ E none (pG E h0 g r)) (xa X) (xs X) 0 0 (zA E)) 194 (pG E h0 g G) [(0, .ref (g + 5)), (4, .int x4), (5, .int x5)] [] := by
  unfold f_X2_add_b194 at hf
  refine z_aload_n C dX2_add_194 0 rfl ?_
  refine z_iload C dX2_add_195 1 rfl ?_
  refine z_aload_n C dX2_add_197 0 rfl ?_
  refine gf_X2_43 C dX2_add_198 ?_
  obtain ⟨q201, hq201, hf⟩ := bd_some hf
  refine iv_X2_69 C [.int (G.2.1 2)] [.int x4, .ref (g + 5)] (ct_X5_stepX hq201) rfl (by decide) rfl (Nat.le_of_ble_eq_true rfl) z_k0 dX2_add_201 ?_
  refine z_iadd C dX2_add_204 ?_
  refine pf_X2_15 C dX2_add_205 ?_
  refine z_aload_n C dX2_add_208 0 rfl ?_
  refine z_iload C dX2_add_209 2 rfl ?_
  refine z_aload_n C dX2_add_211 0 rfl ?_
  refine gf_X2_43 C dX2_add_212 ?_
  obtain ⟨q215, hq215, hf⟩ := bd_some hf
  refine iv_X2_72 C [.int ((gL G 3 (x4 + q201)).2.1 2)] [.int x5, .ref (g + 5)] (ct_X5_stepY hq215) rfl (by decide) rfl (Nat.le_of_ble_eq_true rfl) z_k0 dX2_add_215 ?_
  refine z_iadd C dX2_add_218 ?_
  refine pf_X2_18 C dX2_add_219 ?_
  obtain rfl := Option.some.inj hf
  exact z_return C dX2_add_222
def f_X2_add_b188 (x1 : Int32) (x2 : Int32)   (G : GS) (x4 : Int32) (x5 : Int32) (s0 : Int32) (s1 : Int32) : Option GS :=
  f_X2_add_b194 x1 x2 (gL G 2 ((s1 + s0) &&& (3 : Int32))) x4 x5
set_option maxRecDepth 100000 in
set_option maxHeartbeats 4000000 in
theorem w_X2_add_b188 {E : zE} {X : zX} {h0 : Hp} {g : Nat} {x1 : Int32} {x2 : Int32}   (C : zC E X RX2 cX2_add 6 none 3)   {G : GS} {x4 : Int32} {x5 : Int32} {s0 : Int32} {s1 : Int32} {r : GS} (hf : f_X2_add_b188 x1 x2 G x4 x5 s0 s1 = some r) : zW E X 6 0 0 (MQ (xb X) (zQ E none (pG E h0 g r)) (xa X) (xs X) 0 0 (zA E)) 188 (pG E h0 g G) [(0, .ref (g + 5)), (4, .int x4), (5, .int x5)] [.int s0, .int s1, .ref (g + 5)] := by
  unfold f_X2_add_b188 at hf
  refine z_iadd C dX2_add_188 ?_
  refine z_iconst C (3 : Int32) dX2_add_189 (by decide) ?_
  refine z_iand C dX2_add_190 ?_
  refine pf_X2_43 C dX2_add_191 ?_
  exact z_sub [0, 1, 2] rfl (w_X2_add_b194 C hf)
def f_X2_add_b35 (x1 : Int32) (x2 : Int32)   (G : GS) (s0 : Int32) : Option GS :=
  (f_X5_stepX (G.2.1 2)).bind (fun q44 => (f_X5_stepY (G.2.1 2)).bind (fun q58 => chk (inB (G.2.1 0) 28) (chk (inB ((gA G 4 (upd (G.2.2 4) (G.2.1 0).toNatClampNeg x1)).2.1 0) 28) (stt (gA (gA G 4 (upd (G.2.2 4) (G.2.1 0).toNatClampNeg x1)) 5 (upd ((gA G 4 (upd (G.2.2 4) (G.2.1 0).toNatClampNeg x1)).2.2 5) ((gA G 4 (upd (G.2.2 4) (G.2.1 0).toNatClampNeg x1)).2.1 0).toNatClampNeg ((gA G 4 (upd (G.2.2 4) (G.2.1 0).toNatClampNeg x1)).2.1 3))) (fun Gn1 => chk (inB (Gn1.2.1 0) 28) (chk (inB ((gA Gn1 6 (upd (Gn1.2.2 6) (Gn1.2.1 0).toNatClampNeg (Gn1.2.1 4))).2.1 0) 28) (stt (gA (gA Gn1 6 (upd (Gn1.2.2 6) (Gn1.2.1 0).toNatClampNeg (Gn1.2.1 4))) 7 (upd ((gA Gn1 6 (upd (Gn1.2.2 6) (Gn1.2.1 0).toNatClampNeg (Gn1.2.1 4))).2.2 7) ((gA Gn1 6 (upd (Gn1.2.2 6) (Gn1.2.1 0).toNatClampNeg (Gn1.2.1 4))).2.1 0).toNatClampNeg ((gA Gn1 6 (upd (Gn1.2.2 6) (Gn1.2.1 0).toNatClampNeg (Gn1.2.1 4))).2.1 2))) (fun Gn2 => chk (inB (Gn2.2.1 0) 28) (stt (gL (gA Gn2 8 (upd (Gn2.2.2 8) (Gn2.2.1 0).toNatClampNeg s0)) 0 (((gA Gn2 8 (upd (Gn2.2.2 8) (Gn2.2.1 0).toNatClampNeg s0)).2.1 0) + (1 : Int32))) (fun Gn3 => (f_X2_cover Gn3 (Gn3.2.1 3) (Gn3.2.1 4)).bind (fun q142 => (f_X2_cover q142 ((G.2.1 3) + q44) ((G.2.1 4) + q58)).bind (fun q150 => (f_X5_pipsOn x1).bind (fun q155 => (f_X5_lowOf x1).bind (fun q164 => (f_X5_highOf x1).bind (fun q168 => if q164 = q168 then (if x2 = 0 then (f_X2_add_b188 x1 x2 (gL q150 1 (q155 - s0)) ((G.2.1 3) + q44) ((G.2.1 4) + q58) (1 : Int32) ((gL q150 1 (q155 - s0)).2.1 2)) else (f_X2_add_b188 x1 x2 (gL q150 1 (q155 - s0)) ((G.2.1 3) + q44) ((G.2.1 4) + q58) (3 : Int32) ((gL q150 1 (q155 - s0)).2.1 2))) else (f_X2_add_b194 x1 x2 (gL q150 1 (q155 - s0)) ((G.2.1 3) + q44) ((G.2.1 4) + q58)))))))))))))))))
set_option maxRecDepth 100000 in
set_option maxHeartbeats 4000000 in
theorem w_X2_add_b35 {E : zE} {X : zX} {h0 : Hp} {g : Nat} {x1 : Int32} {x2 : Int32}   (C : zC E X RX2 cX2_add 6 none 3)   {G : GS} {s0 : Int32} {r : GS} (hf : f_X2_add_b35 x1 x2 G s0 = some r) : zW E X 6 0 0 (MQ (xb X) (zQ E none (pG E h0 g r)) (xa X) (xs X) 0 0 (zA E)) 35 (pG E h0 g G) [(0, .ref (g + 5)), (1, .int x1), (2, .int x2)] [.int s0] := by
  unfold f_X2_add_b35 at hf
  refine z_istore_n (lv' := [(3, .int s0), (0, .ref (g + 5)), (1, .int x1), (2, .int x2)]) C dX2_add_35 (by decide) rfl ?_
  refine z_aload_n C dX2_add_36 1 rfl ?_
  refine gf_X2_15 C dX2_add_37 ?_
  refine z_aload_n C dX2_add_40 1 rfl ?_
  refine gf_X2_43 C dX2_add_41 ?_
  obtain ⟨q44, hq44, hf⟩ := bd_some hf
  refine iv_X2_69 C [.int (G.2.1 2)] [.int (G.2.1 3)] (ct_X5_stepX hq44) rfl (by decide) rfl (Nat.le_of_ble_eq_true rfl) z_k0 dX2_add_44 ?_
  refine z_iadd C dX2_add_47 ?_
  refine z_istore (lv' := [(4, .int ((G.2.1 3) + q44)), (3, .int s0), (0, .ref (g + 5)), (1, .int x1), (2, .int x2)]) C dX2_add_48 (by decide) rfl ?_
  refine z_aload_n C dX2_add_50 2 rfl ?_
  refine gf_X2_18 C dX2_add_51 ?_
  refine z_aload_n C dX2_add_54 2 rfl ?_
  refine gf_X2_43 C dX2_add_55 ?_
  obtain ⟨q58, hq58, hf⟩ := bd_some hf
  refine iv_X2_72 C [.int (G.2.1 2)] [.int (G.2.1 4)] (ct_X5_stepY hq58) rfl (by decide) rfl (Nat.le_of_ble_eq_true rfl) z_k0 dX2_add_58 ?_
  refine z_iadd C dX2_add_61 ?_
  refine z_istore (lv' := [(5, .int ((G.2.1 4) + q58)), (4, .int ((G.2.1 3) + q44)), (3, .int s0), (0, .ref (g + 5)), (1, .int x1), (2, .int x2)]) C dX2_add_62 (by decide) rfl ?_
  refine z_aload_n C dX2_add_64 3 rfl ?_
  refine gf_X2_21 C dX2_add_65 ?_
  refine z_aload_n C dX2_add_68 3 rfl ?_
  refine gf_X2_40 C dX2_add_69 ?_
  refine z_iload_n C dX2_add_72 4 rfl ?_
  obtain ⟨c73, hf⟩ := chk_some hf
  refine z_iast C pG_a4 c73 dX2_add_73 _ (pG_w4 _) ?_
  refine z_aload_n C dX2_add_74 3 rfl ?_
  refine gf_X2_25 C dX2_add_75 ?_
  refine z_aload_n C dX2_add_78 3 rfl ?_
  refine gf_X2_40 C dX2_add_79 ?_
  refine z_aload_n C dX2_add_82 3 rfl ?_
  refine gf_X2_15 C dX2_add_83 ?_
  obtain ⟨c86, hf⟩ := chk_some hf
  refine z_iast C pG_a5 c86 dX2_add_86 _ (pG_w5 _) ?_
  obtain ⟨Gn1, eGn1, hf⟩ := st_some hf
  refine z_heap (congrArg (fun z => (pG E h0 g z)) eGn1.symm) ?_
  refine z_aload_n C dX2_add_87 3 rfl ?_
  refine gf_X2_28 C dX2_add_88 ?_
  refine z_aload_n C dX2_add_91 3 rfl ?_
  refine gf_X2_40 C dX2_add_92 ?_
  refine z_aload_n C dX2_add_95 3 rfl ?_
  refine gf_X2_18 C dX2_add_96 ?_
  obtain ⟨c99, hf⟩ := chk_some hf
  refine z_iast C pG_a6 c99 dX2_add_99 _ (pG_w6 _) ?_
  refine z_aload_n C dX2_add_100 3 rfl ?_
  refine gf_X2_31 C dX2_add_101 ?_
  refine z_aload_n C dX2_add_104 3 rfl ?_
  refine gf_X2_40 C dX2_add_105 ?_
  refine z_aload_n C dX2_add_108 3 rfl ?_
  refine gf_X2_43 C dX2_add_109 ?_
  obtain ⟨c112, hf⟩ := chk_some hf
  refine z_iast C pG_a7 c112 dX2_add_112 _ (pG_w7 _) ?_
  obtain ⟨Gn2, eGn2, hf⟩ := st_some hf
  refine z_heap (congrArg (fun z => (pG E h0 g z)) eGn2.symm) ?_
  refine z_aload_n C dX2_add_113 3 rfl ?_
  refine gf_X2_34 C dX2_add_114 ?_
  refine z_aload_n C dX2_add_117 3 rfl ?_
  refine gf_X2_40 C dX2_add_118 ?_
  refine z_iload_n C dX2_add_121 2 rfl ?_
  obtain ⟨c122, hf⟩ := chk_some hf
  refine z_iast C pG_a8 c122 dX2_add_122 _ (pG_w8 _) ?_
  refine z_aload_n C dX2_add_123 3 rfl ?_
  refine z_dup C dX2_add_124 rfl ?_
  refine gf_X2_40 C dX2_add_125 ?_
  refine z_iconst C (1 : Int32) dX2_add_128 (by decide) ?_
  refine z_iadd C dX2_add_129 ?_
  refine pf_X2_40 C dX2_add_130 ?_
  obtain ⟨Gn3, eGn3, hf⟩ := st_some hf
  refine z_heap (congrArg (fun z => (pG E h0 g z)) eGn3.symm) ?_
  refine z_aload_n C dX2_add_133 3 rfl ?_
  refine z_aload_n C dX2_add_134 3 rfl ?_
  refine gf_X2_15 C dX2_add_135 ?_
  refine z_aload_n C dX2_add_138 3 rfl ?_
  refine gf_X2_18 C dX2_add_139 ?_
  obtain ⟨q142, hq142, hf⟩ := bd_some hf
  refine iv_X2_75 C [.int (Gn3.2.1 3), .int (Gn3.2.1 4)] [] (ct_X2_cover hq142) pG_l rfl (by decide) rfl (Nat.le_of_ble_eq_true rfl) z_k0 dX2_add_142 ?_
  refine z_aload_n C dX2_add_145 3 rfl ?_
  refine z_iload C dX2_add_146 1 rfl ?_
  refine z_iload C dX2_add_148 0 rfl ?_
  obtain ⟨q150, hq150, hf⟩ := bd_some hf
  refine iv_X2_75 C [.int ((G.2.1 3) + q44), .int ((G.2.1 4) + q58)] [] (ct_X2_cover hq150) pG_l rfl (by decide) rfl (Nat.le_of_ble_eq_true rfl) z_k0 dX2_add_150 ?_
  refine z_aload_n C dX2_add_153 3 rfl ?_
  refine z_iload_n C dX2_add_154 4 rfl ?_
  obtain ⟨q155, hq155, hf⟩ := bd_some hf
  refine iv_X2_79 C [.int x1] [.ref (g + 5)] (ct_X5_pipsOn hq155) rfl (by decide) rfl (Nat.le_of_ble_eq_true rfl) z_k0 dX2_add_155 ?_
  refine z_iload_n C dX2_add_158 2 rfl ?_
  refine z_isub C dX2_add_159 ?_
  refine pf_X2_9 C dX2_add_160 ?_
  refine z_iload_n C dX2_add_163 4 rfl ?_
  obtain ⟨q164, hq164, hf⟩ := bd_some hf
  refine iv_X2_58 C [.int x1] [] (ct_X5_lowOf hq164) rfl (by decide) rfl (Nat.le_of_ble_eq_true rfl) z_k0 dX2_add_164 ?_
  refine z_iload_n C dX2_add_167 4 rfl ?_
  obtain ⟨q168, hq168, hf⟩ := bd_some hf
  refine iv_X2_62 C [.int x1] [.int q164] (ct_X5_highOf hq168) rfl (by decide) rfl (Nat.le_of_ble_eq_true rfl) z_k0 dX2_add_168 ?_
  refine z_icmp_ne C 194 dX2_add_171 (by decide) (fun c171 => ?_) (fun c171 => ?_)
  · replace hf := iN c171 hf
    exact z_sub [3, 1, 0] rfl (w_X2_add_b194 C hf)
  · replace hf := ip c171 hf
    refine z_aload_n C dX2_add_174 3 rfl ?_
    refine z_aload_n C dX2_add_175 3 rfl ?_
    refine gf_X2_43 C dX2_add_176 ?_
    refine z_iload_n C dX2_add_179 5 rfl ?_
    refine z_if_eq C 187 dX2_add_180 (by decide) (fun c180 => ?_) (fun c180 => ?_)
    · replace hf := ip c180 hf
      refine z_iconst C (1 : Int32) dX2_add_187 (by decide) ?_
      exact z_sub [3, 1, 0] rfl (w_X2_add_b188 C hf)
    · replace hf := iN c180 hf
      refine z_iconst C (3 : Int32) dX2_add_183 (by decide) ?_
      refine z_goto C 188 dX2_add_184 (by decide) ?_
      exact z_sub [3, 1, 0] rfl (w_X2_add_b188 C hf)
def f_X2_add (G : GS) (x1 : Int32) (x2 : Int32) : Option GS :=
  if (G.2.1 0) < 0 then (some G) else (if (G.2.1 0) < (28 : Int32) then (if (G.2.1 0) = 0 then ((f_X5_lowOf x1).bind (fun q25 => f_X2_add_b35 x1 x2 G q25)) else (f_X2_add_b35 x1 x2 G (G.2.1 1))) else (some G))
set_option maxRecDepth 100000 in
set_option maxHeartbeats 4000000 in
theorem ct_X2_add {E : zE} {l : Launch} {h0 : Hp} {g : Nat} {G : GS} {x1 : Int32} {x2 : Int32} {r : GS}  (hf : f_X2_add G x1 x2 = some r) : zM E l 3 yX2_add cX2_add 6 none [.ref (g + 5), .int x1, .int x2] (pG E h0 g G) none (pG E h0 g r) := by
  refine zM_of (lv := [(0, .ref (g + 5)), (1, .int x1), (2, .int x2)]) (by decide +kernel) (Nat.le_of_ble_eq_true rfl) rfl (fun X hX C => ?_)
  subst hX
  replace C : zC E X RX2 cX2_add 6 none 3 := C
  unfold f_X2_add at hf
  refine z_aload_n C dX2_add_0 0 rfl ?_
  refine gf_X2_40 C dX2_add_1 ?_
  refine z_if_lt C 16 dX2_add_4 (by decide) (fun c4 => ?_) (fun c4 => ?_)
  · replace hf := ip c4 hf
    obtain rfl := Option.some.inj hf
    exact z_return C dX2_add_16
  · replace hf := iN c4 hf
    refine z_aload_n C dX2_add_7 0 rfl ?_
    refine gf_X2_40 C dX2_add_8 ?_
    refine z_bipush C (28 : Int32) dX2_add_11 (by decide) ?_
    refine z_icmp_lt C 17 dX2_add_13 (by decide) (fun c13 => ?_) (fun c13 => ?_)
    · replace hf := ip c13 hf
      refine z_aload_n C dX2_add_17 0 rfl ?_
      refine gf_X2_40 C dX2_add_18 ?_
      refine z_if_ne C 31 dX2_add_21 (by decide) (fun c21 => ?_) (fun c21 => ?_)
      · replace hf := iN c21 hf
        refine z_aload_n C dX2_add_31 0 rfl ?_
        refine gf_X2_9 C dX2_add_32 ?_
        exact z_sub [0, 1, 2] rfl (w_X2_add_b35 C hf)
      · replace hf := ip c21 hf
        refine z_iload_n C dX2_add_24 1 rfl ?_
        obtain ⟨q25, hq25, hf⟩ := bd_some hf
        refine iv_X2_58 C [.int x1] [] (ct_X5_lowOf hq25) rfl (by decide) rfl (Nat.le_of_ble_eq_true rfl) z_k0 dX2_add_25 ?_
        refine z_goto C 35 dX2_add_28 (by decide) ?_
        exact z_sub [0, 1, 2] rfl (w_X2_add_b35 C hf)
    · replace hf := iN c13 hf
      obtain rfl := Option.some.inj hf
      exact z_return C dX2_add_16
/-! X2_placeOf: depth 1 -/
def f_X2_placeOf_h2 (n : Nat) (G : GS) (x1 : Int32)  (K2 : Int32 → Option Int32) (x2 : Int32) : Option Int32 :=
  if (G.2.1 0) ≤ x2 then (some (-1 : Int32)) else (if (28 : Int32) ≤ x2 then (some (-1 : Int32)) else (chk (inB x2 28) (if (G.2.2 4 x2.toNatClampNeg) = x1 then (some x2) else (K2 (x2 + 1)))))
set_option maxRecDepth 100000 in
set_option maxHeartbeats 4000000 in
theorem w_X2_placeOf_h2 {E : zE} {X : zX} {h0 : Hp} {g : Nat} {n : Nat} {G : GS} {x1 : Int32}   (C : zC E X RX2 cX2_placeOf 3 (some .int) 1)   : ∀ (q : Nat) (x2 : Int32) (r : Int32), lo1 (f_X2_placeOf_h2 n G x1) q x2 = some r → zW E X 3 0 0 (MQ (xb X) (zQ E (some (.int r)) (pG E h0 g G)) (xa X) (xs X) 0 0 (zA E)) 2 (pG E h0 g G) [(0, .ref (g + 5)), (1, .int x1), (2, .int x2)] [] := by
  refine lo1_ind _ ?_
  intro K2 hK2 x2 r hf
  unfold f_X2_placeOf_h2 at hf
  refine z_iload_n C dX2_placeOf_2 2 rfl ?_
  refine z_aload_n C dX2_placeOf_3 0 rfl ?_
  refine gf_X2_40 C dX2_placeOf_4 ?_
  refine z_icmp_ge C 34 dX2_placeOf_7 (by decide) (fun c7 => ?_) (fun c7 => ?_)
  · replace hf := ip c7 hf
    refine z_iconst C (-1 : Int32) dX2_placeOf_34 (by decide) ?_
    obtain rfl := Option.some.inj hf
    exact z_ireturn C dX2_placeOf_35
  · replace hf := iN c7 hf
    refine z_iload_n C dX2_placeOf_10 2 rfl ?_
    refine z_bipush C (28 : Int32) dX2_placeOf_11 (by decide) ?_
    refine z_icmp_ge C 34 dX2_placeOf_13 (by decide) (fun c13 => ?_) (fun c13 => ?_)
    · replace hf := ip c13 hf
      refine z_iconst C (-1 : Int32) dX2_placeOf_34 (by decide) ?_
      obtain rfl := Option.some.inj hf
      exact z_ireturn C dX2_placeOf_35
    · replace hf := iN c13 hf
      refine z_aload_n C dX2_placeOf_16 0 rfl ?_
      refine gf_X2_21 C dX2_placeOf_17 ?_
      refine z_iload_n C dX2_placeOf_20 2 rfl ?_
      obtain ⟨c21, hf⟩ := chk_some hf
      refine z_iald C pG_a4 c21 dX2_placeOf_21 ?_
      refine z_iload_n C dX2_placeOf_22 1 rfl ?_
      refine z_icmp_ne C 28 dX2_placeOf_23 (by decide) (fun c23 => ?_) (fun c23 => ?_)
      · replace hf := iN c23 hf
        refine z_iinc (lv' := [(2, .int (x2 + 1)), (0, .ref (g + 5)), (1, .int x1)]) C dX2_placeOf_28 2 (x2 + 1) rfl rfl (by decide) rfl ?_
        refine z_goto C 2 dX2_placeOf_31 (by decide) ?_
        exact z_sub [1, 2, 0] rfl (hK2 _ _ hf)
      · replace hf := ip c23 hf
        refine z_iload_n C dX2_placeOf_26 2 rfl ?_
        obtain rfl := Option.some.inj hf
        exact z_ireturn C dX2_placeOf_27
def f_X2_placeOf (n : Nat) (G : GS) (x1 : Int32) : Option Int32 :=
  lo1 (f_X2_placeOf_h2 n G x1) n (0 : Int32)
set_option maxRecDepth 100000 in
set_option maxHeartbeats 4000000 in
theorem ct_X2_placeOf {E : zE} {l : Launch} {h0 : Hp} {g : Nat} {n : Nat} {G : GS} {x1 : Int32} {r : Int32}  (hf : f_X2_placeOf n G x1 = some r) : zM E l 1 yX2_placeOf cX2_placeOf 3 (some .int) [.ref (g + 5), .int x1] (pG E h0 g G) (some (.int r)) (pG E h0 g G) := by
  refine zM_of (lv := [(0, .ref (g + 5)), (1, .int x1)]) (by decide +kernel) (Nat.le_of_ble_eq_true rfl) rfl (fun X hX C => ?_)
  subst hX
  replace C : zC E X RX2 cX2_placeOf 3 (some .int) 1 := C
  unfold f_X2_placeOf at hf
  refine z_iconst C (0 : Int32) dX2_placeOf_0 (by decide) ?_
  refine z_istore_n (lv' := [(2, .int (0 : Int32)), (0, .ref (g + 5)), (1, .int x1)]) C dX2_placeOf_1 (by decide) rfl ?_
  exact z_sub [1, 2, 0] rfl (w_X2_placeOf_h2 C n _ _ hf)
/-! X2_numberOfPlace: depth 2 -/
def f_X2_numberOfPlace (G : GS) (x1 : Int32) (x2 : Int32) : Option Int32 :=
  if x1 < 0 then (some (-1 : Int32)) else (if (G.2.1 0) ≤ x1 then (some (-1 : Int32)) else (if x1 < (28 : Int32) then (if x2 = (0 : Int32) then (chk (inB x1 28) (some (G.2.2 4 x1.toNatClampNeg))) else (if x2 = (1 : Int32) then (chk (inB x1 28) (some (G.2.2 5 x1.toNatClampNeg))) else (if x2 = (2 : Int32) then (chk (inB x1 28) (some (G.2.2 6 x1.toNatClampNeg))) else (if x2 = (3 : Int32) then (chk (inB x1 28) (some (G.2.2 7 x1.toNatClampNeg))) else (if x2 = (4 : Int32) then (chk (inB x1 28) (some (G.2.2 8 x1.toNatClampNeg))) else (chk (inB x1 28) ((f_X5_pipsOn (G.2.2 4 x1.toNatClampNeg)).bind (fun q97 => chk (inB x1 28) (some (q97 - (G.2.2 8 x1.toNatClampNeg))))))))))) else (some (-1 : Int32))))
set_option maxRecDepth 100000 in
set_option maxHeartbeats 4000000 in
theorem ct_X2_numberOfPlace {E : zE} {l : Launch} {h0 : Hp} {g : Nat} {G : GS} {x1 : Int32} {x2 : Int32} {r : Int32}  (hf : f_X2_numberOfPlace G x1 x2 = some r) : zM E l 2 yX2_numberOfPlace cX2_numberOfPlace 3 (some .int) [.ref (g + 5), .int x1, .int x2] (pG E h0 g G) (some (.int r)) (pG E h0 g G) := by
  refine zM_of (lv := [(0, .ref (g + 5)), (1, .int x1), (2, .int x2)]) (by decide +kernel) (Nat.le_of_ble_eq_true rfl) rfl (fun X hX C => ?_)
  subst hX
  replace C : zC E X RX2 cX2_numberOfPlace 3 (some .int) 2 := C
  unfold f_X2_numberOfPlace at hf
  refine z_iload_n C dX2_numberOfPlace_0 1 rfl ?_
  refine z_if_lt C 18 dX2_numberOfPlace_1 (by decide) (fun c1 => ?_) (fun c1 => ?_)
  · replace hf := ip c1 hf
    refine z_iconst C (-1 : Int32) dX2_numberOfPlace_18 (by decide) ?_
    obtain rfl := Option.some.inj hf
    exact z_ireturn C dX2_numberOfPlace_19
  · replace hf := iN c1 hf
    refine z_iload_n C dX2_numberOfPlace_4 1 rfl ?_
    refine z_aload_n C dX2_numberOfPlace_5 0 rfl ?_
    refine gf_X2_40 C dX2_numberOfPlace_6 ?_
    refine z_icmp_ge C 18 dX2_numberOfPlace_9 (by decide) (fun c9 => ?_) (fun c9 => ?_)
    · replace hf := ip c9 hf
      refine z_iconst C (-1 : Int32) dX2_numberOfPlace_18 (by decide) ?_
      obtain rfl := Option.some.inj hf
      exact z_ireturn C dX2_numberOfPlace_19
    · replace hf := iN c9 hf
      refine z_iload_n C dX2_numberOfPlace_12 1 rfl ?_
      refine z_bipush C (28 : Int32) dX2_numberOfPlace_13 (by decide) ?_
      refine z_icmp_lt C 20 dX2_numberOfPlace_15 (by decide) (fun c15 => ?_) (fun c15 => ?_)
      · replace hf := ip c15 hf
        refine z_iload_n C dX2_numberOfPlace_20 2 rfl ?_
        by_cases e21_0 : x2 = (0 : Int32)
        · replace hf := ip e21_0 hf
          refine z_stk (congrArg (fun z => Value.int z :: []) e21_0) ?_
          refine z_tableIn C 35 56 dX2_numberOfPlace_21 (by decide) (by decide) (by decide) (by decide) ?_
          refine z_aload_n C dX2_numberOfPlace_56 0 rfl ?_
          refine gf_X2_21 C dX2_numberOfPlace_57 ?_
          refine z_iload_n C dX2_numberOfPlace_60 1 rfl ?_
          obtain ⟨c61, hf⟩ := chk_some hf
          refine z_iald C pG_a4 c61 dX2_numberOfPlace_61 ?_
          obtain rfl := Option.some.inj hf
          exact z_ireturn C dX2_numberOfPlace_62
        replace hf := iN e21_0 hf
        by_cases e21_1 : x2 = (1 : Int32)
        · replace hf := ip e21_1 hf
          refine z_stk (congrArg (fun z => Value.int z :: []) e21_1) ?_
          refine z_tableIn C 42 63 dX2_numberOfPlace_21 (by decide) (by decide) (by decide) (by decide) ?_
          refine z_aload_n C dX2_numberOfPlace_63 0 rfl ?_
          refine gf_X2_25 C dX2_numberOfPlace_64 ?_
          refine z_iload_n C dX2_numberOfPlace_67 1 rfl ?_
          obtain ⟨c68, hf⟩ := chk_some hf
          refine z_iald C pG_a5 c68 dX2_numberOfPlace_68 ?_
          obtain rfl := Option.some.inj hf
          exact z_ireturn C dX2_numberOfPlace_69
        replace hf := iN e21_1 hf
        by_cases e21_2 : x2 = (2 : Int32)
        · replace hf := ip e21_2 hf
          refine z_stk (congrArg (fun z => Value.int z :: []) e21_2) ?_
          refine z_tableIn C 49 70 dX2_numberOfPlace_21 (by decide) (by decide) (by decide) (by decide) ?_
          refine z_aload_n C dX2_numberOfPlace_70 0 rfl ?_
          refine gf_X2_28 C dX2_numberOfPlace_71 ?_
          refine z_iload_n C dX2_numberOfPlace_74 1 rfl ?_
          obtain ⟨c75, hf⟩ := chk_some hf
          refine z_iald C pG_a6 c75 dX2_numberOfPlace_75 ?_
          obtain rfl := Option.some.inj hf
          exact z_ireturn C dX2_numberOfPlace_76
        replace hf := iN e21_2 hf
        by_cases e21_3 : x2 = (3 : Int32)
        · replace hf := ip e21_3 hf
          refine z_stk (congrArg (fun z => Value.int z :: []) e21_3) ?_
          refine z_tableIn C 56 77 dX2_numberOfPlace_21 (by decide) (by decide) (by decide) (by decide) ?_
          refine z_aload_n C dX2_numberOfPlace_77 0 rfl ?_
          refine gf_X2_31 C dX2_numberOfPlace_78 ?_
          refine z_iload_n C dX2_numberOfPlace_81 1 rfl ?_
          obtain ⟨c82, hf⟩ := chk_some hf
          refine z_iald C pG_a7 c82 dX2_numberOfPlace_82 ?_
          obtain rfl := Option.some.inj hf
          exact z_ireturn C dX2_numberOfPlace_83
        replace hf := iN e21_3 hf
        by_cases e21_4 : x2 = (4 : Int32)
        · replace hf := ip e21_4 hf
          refine z_stk (congrArg (fun z => Value.int z :: []) e21_4) ?_
          refine z_tableIn C 63 84 dX2_numberOfPlace_21 (by decide) (by decide) (by decide) (by decide) ?_
          refine z_aload_n C dX2_numberOfPlace_84 0 rfl ?_
          refine gf_X2_34 C dX2_numberOfPlace_85 ?_
          refine z_iload_n C dX2_numberOfPlace_88 1 rfl ?_
          obtain ⟨c89, hf⟩ := chk_some hf
          refine z_iald C pG_a8 c89 dX2_numberOfPlace_89 ?_
          obtain rfl := Option.some.inj hf
          exact z_ireturn C dX2_numberOfPlace_90
        replace hf := iN e21_4 hf
        refine z_tableOut C 91 dX2_numberOfPlace_21 (by have n0 := ne_toInt (v := (0 : Int32)) (z := 0) (by decide) e21_0; have n1 := ne_toInt (v := (1 : Int32)) (z := 1) (by decide) e21_1; have n2 := ne_toInt (v := (2 : Int32)) (z := 2) (by decide) e21_2; have n3 := ne_toInt (v := (3 : Int32)) (z := 3) (by decide) e21_3; have n4 := ne_toInt (v := (4 : Int32)) (z := 4) (by decide) e21_4; omega) (by decide) ?_
        refine z_aload_n C dX2_numberOfPlace_91 0 rfl ?_
        refine gf_X2_21 C dX2_numberOfPlace_92 ?_
        refine z_iload_n C dX2_numberOfPlace_95 1 rfl ?_
        obtain ⟨c96, hf⟩ := chk_some hf
        refine z_iald C pG_a4 c96 dX2_numberOfPlace_96 ?_
        obtain ⟨q97, hq97, hf⟩ := bd_some hf
        refine iv_X2_79 C [.int (G.2.2 4 x1.toNatClampNeg)] [] (ct_X5_pipsOn hq97) rfl (by decide) rfl (Nat.le_of_ble_eq_true rfl) z_k0 dX2_numberOfPlace_97 ?_
        refine z_aload_n C dX2_numberOfPlace_100 0 rfl ?_
        refine gf_X2_34 C dX2_numberOfPlace_101 ?_
        refine z_iload_n C dX2_numberOfPlace_104 1 rfl ?_
        obtain ⟨c105, hf⟩ := chk_some hf
        refine z_iald C pG_a8 c105 dX2_numberOfPlace_105 ?_
        refine z_isub C dX2_numberOfPlace_106 ?_
        obtain rfl := Option.some.inj hf
        exact z_ireturn C dX2_numberOfPlace_107
      · replace hf := iN c15 hf
        refine z_iconst C (-1 : Int32) dX2_numberOfPlace_18 (by decide) ?_
        obtain rfl := Option.some.inj hf
        exact z_ireturn C dX2_numberOfPlace_19
/-! X2_pips: depth 2 -/
def f_X2_pips_h4 (n : Nat) (G : GS)  (K4 : Int32 → Int32 → Option Int32) (x1 : Int32) (x2 : Int32) : Option Int32 :=
  if (G.2.1 0) ≤ x2 then (some x1) else (if (28 : Int32) ≤ x2 then (some x1) else (chk (inB x2 28) ((f_X5_pipsOn (G.2.2 4 x2.toNatClampNeg)).bind (fun q25 => K4 (x1 + q25) (x2 + 1)))))
set_option maxRecDepth 100000 in
set_option maxHeartbeats 4000000 in
theorem w_X2_pips_h4 {E : zE} {X : zX} {h0 : Hp} {g : Nat} {n : Nat} {G : GS}   (C : zC E X RX2 cX2_pips 3 (some .int) 2)   : ∀ (q : Nat) (x1 : Int32) (x2 : Int32) (r : Int32), lo2 (f_X2_pips_h4 n G) q x1 x2 = some r → zW E X 3 0 0 (MQ (xb X) (zQ E (some (.int r)) (pG E h0 g G)) (xa X) (xs X) 0 0 (zA E)) 4 (pG E h0 g G) [(0, .ref (g + 5)), (1, .int x1), (2, .int x2)] [] := by
  refine lo2_ind _ ?_
  intro K4 hK4 x1 x2 r hf
  unfold f_X2_pips_h4 at hf
  refine z_iload_n C dX2_pips_4 2 rfl ?_
  refine z_aload_n C dX2_pips_5 0 rfl ?_
  refine gf_X2_40 C dX2_pips_6 ?_
  refine z_icmp_ge C 36 dX2_pips_9 (by decide) (fun c9 => ?_) (fun c9 => ?_)
  · replace hf := ip c9 hf
    refine z_iload_n C dX2_pips_36 1 rfl ?_
    obtain rfl := Option.some.inj hf
    exact z_ireturn C dX2_pips_37
  · replace hf := iN c9 hf
    refine z_iload_n C dX2_pips_12 2 rfl ?_
    refine z_bipush C (28 : Int32) dX2_pips_13 (by decide) ?_
    refine z_icmp_ge C 36 dX2_pips_15 (by decide) (fun c15 => ?_) (fun c15 => ?_)
    · replace hf := ip c15 hf
      refine z_iload_n C dX2_pips_36 1 rfl ?_
      obtain rfl := Option.some.inj hf
      exact z_ireturn C dX2_pips_37
    · replace hf := iN c15 hf
      refine z_iload_n C dX2_pips_18 1 rfl ?_
      refine z_aload_n C dX2_pips_19 0 rfl ?_
      refine gf_X2_21 C dX2_pips_20 ?_
      refine z_iload_n C dX2_pips_23 2 rfl ?_
      obtain ⟨c24, hf⟩ := chk_some hf
      refine z_iald C pG_a4 c24 dX2_pips_24 ?_
      obtain ⟨q25, hq25, hf⟩ := bd_some hf
      refine iv_X2_79 C [.int (G.2.2 4 x2.toNatClampNeg)] [.int x1] (ct_X5_pipsOn hq25) rfl (by decide) rfl (Nat.le_of_ble_eq_true rfl) z_k0 dX2_pips_25 ?_
      refine z_iadd C dX2_pips_28 ?_
      refine z_istore_n (lv' := [(1, .int (x1 + q25)), (0, .ref (g + 5)), (2, .int x2)]) C dX2_pips_29 (by decide) rfl ?_
      refine z_iinc (lv' := [(2, .int (x2 + 1)), (1, .int (x1 + q25)), (0, .ref (g + 5))]) C dX2_pips_30 2 (x2 + 1) rfl rfl (by decide) rfl ?_
      refine z_goto C 4 dX2_pips_33 (by decide) ?_
      exact z_sub [2, 1, 0] rfl (hK4 _ _ _ hf)
def f_X2_pips (n : Nat) (G : GS) : Option Int32 :=
  lo2 (f_X2_pips_h4 n G) n (0 : Int32) (0 : Int32)
set_option maxRecDepth 100000 in
set_option maxHeartbeats 4000000 in
theorem ct_X2_pips {E : zE} {l : Launch} {h0 : Hp} {g : Nat} {n : Nat} {G : GS} {r : Int32}  (hf : f_X2_pips n G = some r) : zM E l 2 yX2_pips cX2_pips 3 (some .int) [.ref (g + 5)] (pG E h0 g G) (some (.int r)) (pG E h0 g G) := by
  refine zM_of (lv := [(0, .ref (g + 5))]) (by decide +kernel) (Nat.le_of_ble_eq_true rfl) rfl (fun X hX C => ?_)
  subst hX
  replace C : zC E X RX2 cX2_pips 3 (some .int) 2 := C
  unfold f_X2_pips at hf
  refine z_iconst C (0 : Int32) dX2_pips_0 (by decide) ?_
  refine z_istore_n (lv' := [(1, .int (0 : Int32)), (0, .ref (g + 5))]) C dX2_pips_1 (by decide) rfl ?_
  refine z_iconst C (0 : Int32) dX2_pips_2 (by decide) ?_
  refine z_istore_n (lv' := [(2, .int (0 : Int32)), (1, .int (0 : Int32)), (0, .ref (g + 5))]) C dX2_pips_3 (by decide) rfl ?_
  exact z_sub [2, 1, 0] rfl (w_X2_pips_h4 C n _ _ _ hf)
/-! X2_pipsAt: depth 2 -/
def f_X2_pipsAt_b100 (n : Nat) (G : GS) (x1 : Int32) (x2 : Int32) (K2 : Int32 → Option Int32)  (x3 : Int32) : Option Int32 :=
  K2 (x3 + 1)
set_option maxRecDepth 100000 in
set_option maxHeartbeats 4000000 in
theorem w_X2_pipsAt_b100 {E : zE} {X : zX} {h0 : Hp} {g : Nat} {n : Nat} {G : GS} {x1 : Int32} {x2 : Int32} {K2 : Int32 → Option Int32}  (C : zC E X RX2 cX2_pipsAt 4 (some .int) 2)  (hK2 : ∀ (x3 : Int32) (r : Int32), K2 x3 = some r → zW E X 4 0 0 (MQ (xb X) (zQ E (some (.int r)) (pG E h0 g G)) (xa X) (xs X) 0 0 (zA E)) 2 (pG E h0 g G) [(0, .ref (g + 5)), (1, .int x1), (2, .int x2), (3, .int x3)] []) {x3 : Int32} {r : Int32} (hf : f_X2_pipsAt_b100 n G x1 x2 K2 x3 = some r) : zW E X 4 0 0 (MQ (xb X) (zQ E (some (.int r)) (pG E h0 g G)) (xa X) (xs X) 0 0 (zA E)) 100 (pG E h0 g G) [(0, .ref (g + 5)), (1, .int x1), (2, .int x2), (3, .int x3)] [] := by
  unfold f_X2_pipsAt_b100 at hf
  refine z_iinc (lv' := [(3, .int (x3 + 1)), (0, .ref (g + 5)), (1, .int x1), (2, .int x2)]) C dX2_pipsAt_100 3 (x3 + 1) rfl rfl (by decide) rfl ?_
  refine z_goto C 2 dX2_pipsAt_103 (by decide) ?_
  exact z_sub [1, 2, 3, 0] rfl (hK2 _ _ hf)
def f_X2_pipsAt_b43 (n : Nat) (G : GS) (x1 : Int32) (x2 : Int32) (K2 : Int32 → Option Int32)  (x3 : Int32) : Option Int32 :=
  chk (inB x3 28) (chk (inB x3 28) ((f_X5_stepX (G.2.2 7 x3.toNatClampNeg)).bind (fun q55 => if ((G.2.2 5 x3.toNatClampNeg) + q55) = x1 then (chk (inB x3 28) (chk (inB x3 28) ((f_X5_stepY (G.2.2 7 x3.toNatClampNeg)).bind (fun q75 => if ((G.2.2 6 x3.toNatClampNeg) + q75) = x2 then (chk (inB x3 28) ((f_X5_pipsOn (G.2.2 4 x3.toNatClampNeg)).bind (fun q89 => chk (inB x3 28) (some (q89 - (G.2.2 8 x3.toNatClampNeg)))))) else (f_X2_pipsAt_b100 n G x1 x2 K2 x3))))) else (f_X2_pipsAt_b100 n G x1 x2 K2 x3))))
set_option maxRecDepth 100000 in
set_option maxHeartbeats 4000000 in
theorem w_X2_pipsAt_b43 {E : zE} {X : zX} {h0 : Hp} {g : Nat} {n : Nat} {G : GS} {x1 : Int32} {x2 : Int32} {K2 : Int32 → Option Int32}  (C : zC E X RX2 cX2_pipsAt 4 (some .int) 2)  (hK2 : ∀ (x3 : Int32) (r : Int32), K2 x3 = some r → zW E X 4 0 0 (MQ (xb X) (zQ E (some (.int r)) (pG E h0 g G)) (xa X) (xs X) 0 0 (zA E)) 2 (pG E h0 g G) [(0, .ref (g + 5)), (1, .int x1), (2, .int x2), (3, .int x3)] []) {x3 : Int32} {r : Int32} (hf : f_X2_pipsAt_b43 n G x1 x2 K2 x3 = some r) : zW E X 4 0 0 (MQ (xb X) (zQ E (some (.int r)) (pG E h0 g G)) (xa X) (xs X) 0 0 (zA E)) 43 (pG E h0 g G) [(0, .ref (g + 5)), (1, .int x1), (2, .int x2), (3, .int x3)] [] := by
  unfold f_X2_pipsAt_b43 at hf
  refine z_aload_n C dX2_pipsAt_43 0 rfl ?_
  refine gf_X2_25 C dX2_pipsAt_44 ?_
  refine z_iload_n C dX2_pipsAt_47 3 rfl ?_
  obtain ⟨c48, hf⟩ := chk_some hf
  refine z_iald C pG_a5 c48 dX2_pipsAt_48 ?_
  refine z_aload_n C dX2_pipsAt_49 0 rfl ?_
  refine gf_X2_31 C dX2_pipsAt_50 ?_
  refine z_iload_n C dX2_pipsAt_53 3 rfl ?_
  obtain ⟨c54, hf⟩ := chk_some hf
  refine z_iald C pG_a7 c54 dX2_pipsAt_54 ?_
  obtain ⟨q55, hq55, hf⟩ := bd_some hf
  refine iv_X2_69 C [.int (G.2.2 7 x3.toNatClampNeg)] [.int (G.2.2 5 x3.toNatClampNeg)] (ct_X5_stepX hq55) rfl (by decide) rfl (Nat.le_of_ble_eq_true rfl) z_k0 dX2_pipsAt_55 ?_
  refine z_iadd C dX2_pipsAt_58 ?_
  refine z_iload_n C dX2_pipsAt_59 1 rfl ?_
  refine z_icmp_ne C 100 dX2_pipsAt_60 (by decide) (fun c60 => ?_) (fun c60 => ?_)
  · replace hf := iN c60 hf
    exact z_sub [0, 1, 2, 3] rfl (w_X2_pipsAt_b100 C hK2 hf)
  · replace hf := ip c60 hf
    refine z_aload_n C dX2_pipsAt_63 0 rfl ?_
    refine gf_X2_28 C dX2_pipsAt_64 ?_
    refine z_iload_n C dX2_pipsAt_67 3 rfl ?_
    obtain ⟨c68, hf⟩ := chk_some hf
    refine z_iald C pG_a6 c68 dX2_pipsAt_68 ?_
    refine z_aload_n C dX2_pipsAt_69 0 rfl ?_
    refine gf_X2_31 C dX2_pipsAt_70 ?_
    refine z_iload_n C dX2_pipsAt_73 3 rfl ?_
    obtain ⟨c74, hf⟩ := chk_some hf
    refine z_iald C pG_a7 c74 dX2_pipsAt_74 ?_
    obtain ⟨q75, hq75, hf⟩ := bd_some hf
    refine iv_X2_72 C [.int (G.2.2 7 x3.toNatClampNeg)] [.int (G.2.2 6 x3.toNatClampNeg)] (ct_X5_stepY hq75) rfl (by decide) rfl (Nat.le_of_ble_eq_true rfl) z_k0 dX2_pipsAt_75 ?_
    refine z_iadd C dX2_pipsAt_78 ?_
    refine z_iload_n C dX2_pipsAt_79 2 rfl ?_
    refine z_icmp_ne C 100 dX2_pipsAt_80 (by decide) (fun c80 => ?_) (fun c80 => ?_)
    · replace hf := iN c80 hf
      exact z_sub [0, 1, 2, 3] rfl (w_X2_pipsAt_b100 C hK2 hf)
    · replace hf := ip c80 hf
      refine z_aload_n C dX2_pipsAt_83 0 rfl ?_
      refine gf_X2_21 C dX2_pipsAt_84 ?_
      refine z_iload_n C dX2_pipsAt_87 3 rfl ?_
      obtain ⟨c88, hf⟩ := chk_some hf
      refine z_iald C pG_a4 c88 dX2_pipsAt_88 ?_
      obtain ⟨q89, hq89, hf⟩ := bd_some hf
      refine iv_X2_79 C [.int (G.2.2 4 x3.toNatClampNeg)] [] (ct_X5_pipsOn hq89) rfl (by decide) rfl (Nat.le_of_ble_eq_true rfl) z_k0 dX2_pipsAt_89 ?_
      refine z_aload_n C dX2_pipsAt_92 0 rfl ?_
      refine gf_X2_34 C dX2_pipsAt_93 ?_
      refine z_iload_n C dX2_pipsAt_96 3 rfl ?_
      obtain ⟨c97, hf⟩ := chk_some hf
      refine z_iald C pG_a8 c97 dX2_pipsAt_97 ?_
      refine z_isub C dX2_pipsAt_98 ?_
      obtain rfl := Option.some.inj hf
      exact z_ireturn C dX2_pipsAt_99
def f_X2_pipsAt_h2 (n : Nat) (G : GS) (x1 : Int32) (x2 : Int32)  (K2 : Int32 → Option Int32) (x3 : Int32) : Option Int32 :=
  if (G.2.1 0) ≤ x3 then (some (-1 : Int32)) else (if (28 : Int32) ≤ x3 then (some (-1 : Int32)) else (chk (inB x3 28) (if (G.2.2 5 x3.toNatClampNeg) = x1 then (chk (inB x3 28) (if (G.2.2 6 x3.toNatClampNeg) = x2 then (chk (inB x3 28) (some (G.2.2 8 x3.toNatClampNeg))) else (f_X2_pipsAt_b43 n G x1 x2 K2 x3))) else (f_X2_pipsAt_b43 n G x1 x2 K2 x3))))
set_option maxRecDepth 100000 in
set_option maxHeartbeats 4000000 in
theorem w_X2_pipsAt_h2 {E : zE} {X : zX} {h0 : Hp} {g : Nat} {n : Nat} {G : GS} {x1 : Int32} {x2 : Int32}   (C : zC E X RX2 cX2_pipsAt 4 (some .int) 2)   : ∀ (q : Nat) (x3 : Int32) (r : Int32), lo1 (f_X2_pipsAt_h2 n G x1 x2) q x3 = some r → zW E X 4 0 0 (MQ (xb X) (zQ E (some (.int r)) (pG E h0 g G)) (xa X) (xs X) 0 0 (zA E)) 2 (pG E h0 g G) [(0, .ref (g + 5)), (1, .int x1), (2, .int x2), (3, .int x3)] [] := by
  refine lo1_ind _ ?_
  intro K2 hK2 x3 r hf
  unfold f_X2_pipsAt_h2 at hf
  refine z_iload_n C dX2_pipsAt_2 3 rfl ?_
  refine z_aload_n C dX2_pipsAt_3 0 rfl ?_
  refine gf_X2_40 C dX2_pipsAt_4 ?_
  refine z_icmp_ge C 106 dX2_pipsAt_7 (by decide) (fun c7 => ?_) (fun c7 => ?_)
  · replace hf := ip c7 hf
    refine z_iconst C (-1 : Int32) dX2_pipsAt_106 (by decide) ?_
    obtain rfl := Option.some.inj hf
    exact z_ireturn C dX2_pipsAt_107
  · replace hf := iN c7 hf
    refine z_iload_n C dX2_pipsAt_10 3 rfl ?_
    refine z_bipush C (28 : Int32) dX2_pipsAt_11 (by decide) ?_
    refine z_icmp_ge C 106 dX2_pipsAt_13 (by decide) (fun c13 => ?_) (fun c13 => ?_)
    · replace hf := ip c13 hf
      refine z_iconst C (-1 : Int32) dX2_pipsAt_106 (by decide) ?_
      obtain rfl := Option.some.inj hf
      exact z_ireturn C dX2_pipsAt_107
    · replace hf := iN c13 hf
      refine z_aload_n C dX2_pipsAt_16 0 rfl ?_
      refine gf_X2_25 C dX2_pipsAt_17 ?_
      refine z_iload_n C dX2_pipsAt_20 3 rfl ?_
      obtain ⟨c21, hf⟩ := chk_some hf
      refine z_iald C pG_a5 c21 dX2_pipsAt_21 ?_
      refine z_iload_n C dX2_pipsAt_22 1 rfl ?_
      refine z_icmp_ne C 43 dX2_pipsAt_23 (by decide) (fun c23 => ?_) (fun c23 => ?_)
      · replace hf := iN c23 hf
        exact z_sub [0, 1, 2, 3] rfl (w_X2_pipsAt_b43 C hK2 hf)
      · replace hf := ip c23 hf
        refine z_aload_n C dX2_pipsAt_26 0 rfl ?_
        refine gf_X2_28 C dX2_pipsAt_27 ?_
        refine z_iload_n C dX2_pipsAt_30 3 rfl ?_
        obtain ⟨c31, hf⟩ := chk_some hf
        refine z_iald C pG_a6 c31 dX2_pipsAt_31 ?_
        refine z_iload_n C dX2_pipsAt_32 2 rfl ?_
        refine z_icmp_ne C 43 dX2_pipsAt_33 (by decide) (fun c33 => ?_) (fun c33 => ?_)
        · replace hf := iN c33 hf
          exact z_sub [0, 1, 2, 3] rfl (w_X2_pipsAt_b43 C hK2 hf)
        · replace hf := ip c33 hf
          refine z_aload_n C dX2_pipsAt_36 0 rfl ?_
          refine gf_X2_34 C dX2_pipsAt_37 ?_
          refine z_iload_n C dX2_pipsAt_40 3 rfl ?_
          obtain ⟨c41, hf⟩ := chk_some hf
          refine z_iald C pG_a8 c41 dX2_pipsAt_41 ?_
          obtain rfl := Option.some.inj hf
          exact z_ireturn C dX2_pipsAt_42
def f_X2_pipsAt (n : Nat) (G : GS) (x1 : Int32) (x2 : Int32) : Option Int32 :=
  lo1 (f_X2_pipsAt_h2 n G x1 x2) n (0 : Int32)
set_option maxRecDepth 100000 in
set_option maxHeartbeats 4000000 in
theorem ct_X2_pipsAt {E : zE} {l : Launch} {h0 : Hp} {g : Nat} {n : Nat} {G : GS} {x1 : Int32} {x2 : Int32} {r : Int32}  (hf : f_X2_pipsAt n G x1 x2 = some r) : zM E l 2 yX2_pipsAt cX2_pipsAt 4 (some .int) [.ref (g + 5), .int x1, .int x2] (pG E h0 g G) (some (.int r)) (pG E h0 g G) := by
  refine zM_of (lv := [(0, .ref (g + 5)), (1, .int x1), (2, .int x2)]) (by decide +kernel) (Nat.le_of_ble_eq_true rfl) rfl (fun X hX C => ?_)
  subst hX
  replace C : zC E X RX2 cX2_pipsAt 4 (some .int) 2 := C
  unfold f_X2_pipsAt at hf
  refine z_iconst C (0 : Int32) dX2_pipsAt_0 (by decide) ?_
  refine z_istore_n (lv' := [(3, .int (0 : Int32)), (0, .ref (g + 5)), (1, .int x1), (2, .int x2)]) C dX2_pipsAt_1 (by decide) rfl ?_
  exact z_sub [1, 2, 3, 0] rfl (w_X2_pipsAt_h2 C n _ _ hf)
/-! X2_freeByCells: depth 2 -/
def f_X2_freeByCells_b30 (n : Nat) (G : GS) (K4 : Int32 → Int32 → Option Int32) (K12 : Int32 → Int32 → Int32 → Option Int32)  (x1 : Int32) (x2 : Int32) (x3 : Int32) : Option Int32 :=
  K12 x1 x2 (x3 + 1)
set_option maxRecDepth 100000 in
set_option maxHeartbeats 4000000 in
theorem w_X2_freeByCells_b30 {E : zE} {X : zX} {h0 : Hp} {g : Nat} {n : Nat} {G : GS} {K4 : Int32 → Int32 → Option Int32} {K12 : Int32 → Int32 → Int32 → Option Int32}  (C : zC E X RX2 cX2_freeByCells 4 (some .int) 2)  (hK4 : ∀ (x1 : Int32) (x2 : Int32) (r : Int32), K4 x1 x2 = some r → zW E X 4 0 0 (MQ (xb X) (zQ E (some (.int r)) (pG E h0 g G)) (xa X) (xs X) 0 0 (zA E)) 4 (pG E h0 g G) [(0, .ref (g + 5)), (1, .int x1), (2, .int x2)] []) (hK12 : ∀ (x1 : Int32) (x2 : Int32) (x3 : Int32) (r : Int32), K12 x1 x2 x3 = some r → zW E X 4 0 0 (MQ (xb X) (zQ E (some (.int r)) (pG E h0 g G)) (xa X) (xs X) 0 0 (zA E)) 12 (pG E h0 g G) [(0, .ref (g + 5)), (1, .int x1), (2, .int x2), (3, .int x3)] []) {x1 : Int32} {x2 : Int32} {x3 : Int32} {r : Int32} (hf : f_X2_freeByCells_b30 n G K4 K12 x1 x2 x3 = some r) : zW E X 4 0 0 (MQ (xb X) (zQ E (some (.int r)) (pG E h0 g G)) (xa X) (xs X) 0 0 (zA E)) 30 (pG E h0 g G) [(0, .ref (g + 5)), (1, .int x1), (2, .int x2), (3, .int x3)] [] := by
  unfold f_X2_freeByCells_b30 at hf
  refine z_iinc (lv' := [(3, .int (x3 + 1)), (0, .ref (g + 5)), (1, .int x1), (2, .int x2)]) C dX2_freeByCells_30 3 (x3 + 1) rfl rfl (by decide) rfl ?_
  refine z_goto C 12 dX2_freeByCells_33 (by decide) ?_
  exact z_sub [1, 2, 3, 0] rfl (hK12 _ _ _ _ hf)
def f_X2_freeByCells_h12 (n : Nat) (G : GS) (K4 : Int32 → Int32 → Option Int32) (K12 : Int32 → Int32 → Int32 → Option Int32) (x1 : Int32) (x2 : Int32) (x3 : Int32) : Option Int32 :=
  if (25 : Int32) ≤ x3 then (K4 x1 (x2 + 1)) else ((f_X2_isFree G x3 x2).bind (fun q21 => if q21 = 0 then (f_X2_freeByCells_b30 n G K4 K12 x1 x2 x3) else (f_X2_freeByCells_b30 n G K4 K12 (x1 + 1) x2 x3)))
set_option maxRecDepth 100000 in
set_option maxHeartbeats 4000000 in
theorem w_X2_freeByCells_h12 {E : zE} {X : zX} {h0 : Hp} {g : Nat} {n : Nat} {G : GS} {K4 : Int32 → Int32 → Option Int32}  (C : zC E X RX2 cX2_freeByCells 4 (some .int) 2)  (hK4 : ∀ (x1 : Int32) (x2 : Int32) (r : Int32), K4 x1 x2 = some r → zW E X 4 0 0 (MQ (xb X) (zQ E (some (.int r)) (pG E h0 g G)) (xa X) (xs X) 0 0 (zA E)) 4 (pG E h0 g G) [(0, .ref (g + 5)), (1, .int x1), (2, .int x2)] []) : ∀ (q : Nat) (x1 : Int32) (x2 : Int32) (x3 : Int32) (r : Int32), lo3 (f_X2_freeByCells_h12 n G K4) q x1 x2 x3 = some r → zW E X 4 0 0 (MQ (xb X) (zQ E (some (.int r)) (pG E h0 g G)) (xa X) (xs X) 0 0 (zA E)) 12 (pG E h0 g G) [(0, .ref (g + 5)), (1, .int x1), (2, .int x2), (3, .int x3)] [] := by
  refine lo3_ind _ ?_
  intro K12 hK12 x1 x2 x3 r hf
  unfold f_X2_freeByCells_h12 at hf
  refine z_iload_n C dX2_freeByCells_12 3 rfl ?_
  refine z_bipush C (25 : Int32) dX2_freeByCells_13 (by decide) ?_
  refine z_icmp_ge C 36 dX2_freeByCells_15 (by decide) (fun c15 => ?_) (fun c15 => ?_)
  · replace hf := ip c15 hf
    refine z_iinc (lv' := [(2, .int (x2 + 1)), (0, .ref (g + 5)), (1, .int x1), (3, .int x3)]) C dX2_freeByCells_36 2 (x2 + 1) rfl rfl (by decide) rfl ?_
    refine z_goto C 4 dX2_freeByCells_39 (by decide) ?_
    exact z_sub [1, 2, 0] rfl (hK4 _ _ _ hf)
  · replace hf := iN c15 hf
    refine z_aload_n C dX2_freeByCells_18 0 rfl ?_
    refine z_iload_n C dX2_freeByCells_19 3 rfl ?_
    refine z_iload_n C dX2_freeByCells_20 2 rfl ?_
    obtain ⟨q21, hq21, hf⟩ := bd_some hf
    refine iv_X2_65 C [.int x3, .int x2] [] (ct_X2_isFree hq21) pG_l rfl (by decide) rfl (Nat.le_of_ble_eq_true rfl) z_k0 dX2_freeByCells_21 ?_
    refine z_if_eq C 30 dX2_freeByCells_24 (by decide) (fun c24 => ?_) (fun c24 => ?_)
    · replace hf := ip c24 hf
      exact z_sub [0, 1, 2, 3] rfl (w_X2_freeByCells_b30 C hK4 hK12 hf)
    · replace hf := iN c24 hf
      refine z_iinc (lv' := [(1, .int (x1 + 1)), (0, .ref (g + 5)), (2, .int x2), (3, .int x3)]) C dX2_freeByCells_27 1 (x1 + 1) rfl rfl (by decide) rfl ?_
      exact z_sub [1, 0, 2, 3] rfl (w_X2_freeByCells_b30 C hK4 hK12 hf)
def f_X2_freeByCells_h4 (n : Nat) (G : GS)  (K4 : Int32 → Int32 → Option Int32) (x1 : Int32) (x2 : Int32) : Option Int32 :=
  if (25 : Int32) ≤ x2 then (some x1) else (lo3 (f_X2_freeByCells_h12 n G K4) n x1 x2 (0 : Int32))
set_option maxRecDepth 100000 in
set_option maxHeartbeats 4000000 in
theorem w_X2_freeByCells_h4 {E : zE} {X : zX} {h0 : Hp} {g : Nat} {n : Nat} {G : GS}   (C : zC E X RX2 cX2_freeByCells 4 (some .int) 2)   : ∀ (q : Nat) (x1 : Int32) (x2 : Int32) (r : Int32), lo2 (f_X2_freeByCells_h4 n G) q x1 x2 = some r → zW E X 4 0 0 (MQ (xb X) (zQ E (some (.int r)) (pG E h0 g G)) (xa X) (xs X) 0 0 (zA E)) 4 (pG E h0 g G) [(0, .ref (g + 5)), (1, .int x1), (2, .int x2)] [] := by
  refine lo2_ind _ ?_
  intro K4 hK4 x1 x2 r hf
  unfold f_X2_freeByCells_h4 at hf
  refine z_iload_n C dX2_freeByCells_4 2 rfl ?_
  refine z_bipush C (25 : Int32) dX2_freeByCells_5 (by decide) ?_
  refine z_icmp_ge C 42 dX2_freeByCells_7 (by decide) (fun c7 => ?_) (fun c7 => ?_)
  · replace hf := ip c7 hf
    refine z_iload_n C dX2_freeByCells_42 1 rfl ?_
    obtain rfl := Option.some.inj hf
    exact z_ireturn C dX2_freeByCells_43
  · replace hf := iN c7 hf
    refine z_iconst C (0 : Int32) dX2_freeByCells_10 (by decide) ?_
    refine z_istore_n (lv' := [(3, .int (0 : Int32)), (0, .ref (g + 5)), (1, .int x1), (2, .int x2)]) C dX2_freeByCells_11 (by decide) rfl ?_
    exact z_sub [1, 2, 3, 0] rfl (w_X2_freeByCells_h12 C hK4 n _ _ _ _ hf)
def f_X2_freeByCells (n : Nat) (G : GS) : Option Int32 :=
  lo2 (f_X2_freeByCells_h4 n G) n (0 : Int32) (0 : Int32)
set_option maxRecDepth 100000 in
set_option maxHeartbeats 4000000 in
theorem ct_X2_freeByCells {E : zE} {l : Launch} {h0 : Hp} {g : Nat} {n : Nat} {G : GS} {r : Int32}  (hf : f_X2_freeByCells n G = some r) : zM E l 2 yX2_freeByCells cX2_freeByCells 4 (some .int) [.ref (g + 5)] (pG E h0 g G) (some (.int r)) (pG E h0 g G) := by
  refine zM_of (lv := [(0, .ref (g + 5))]) (by decide +kernel) (Nat.le_of_ble_eq_true rfl) rfl (fun X hX C => ?_)
  subst hX
  replace C : zC E X RX2 cX2_freeByCells 4 (some .int) 2 := C
  unfold f_X2_freeByCells at hf
  refine z_iconst C (0 : Int32) dX2_freeByCells_0 (by decide) ?_
  refine z_istore_n (lv' := [(1, .int (0 : Int32)), (0, .ref (g + 5))]) C dX2_freeByCells_1 (by decide) rfl ?_
  refine z_iconst C (0 : Int32) dX2_freeByCells_2 (by decide) ?_
  refine z_istore_n (lv' := [(2, .int (0 : Int32)), (1, .int (0 : Int32)), (0, .ref (g + 5))]) C dX2_freeByCells_3 (by decide) rfl ?_
  exact z_sub [2, 1, 0] rfl (w_X2_freeByCells_h4 C n _ _ _ hf)
/-! X2_freeByTiles: depth 1 -/
def f_X2_freeByTiles (G : GS) : Option Int32 :=
  some ((625 : Int32) - ((2 : Int32) * (G.2.1 0)))
set_option maxRecDepth 100000 in
set_option maxHeartbeats 4000000 in
theorem ct_X2_freeByTiles {E : zE} {l : Launch} {h0 : Hp} {g : Nat} {G : GS} {r : Int32}  (hf : f_X2_freeByTiles G = some r) : zM E l 1 yX2_freeByTiles cX2_freeByTiles 1 (some .int) [.ref (g + 5)] (pG E h0 g G) (some (.int r)) (pG E h0 g G) := by
  refine zM_of (lv := [(0, .ref (g + 5))]) (by decide +kernel) (Nat.le_of_ble_eq_true rfl) rfl (fun X hX C => ?_)
  subst hX
  replace C : zC E X RX2 cX2_freeByTiles 1 (some .int) 1 := C
  unfold f_X2_freeByTiles at hf
  refine z_sipush C (625 : Int32) dX2_freeByTiles_0 (by decide) ?_
  refine z_iconst C (2 : Int32) dX2_freeByTiles_3 (by decide) ?_
  refine z_aload_n C dX2_freeByTiles_4 0 rfl ?_
  refine gf_X2_40 C dX2_freeByTiles_5 ?_
  refine z_imul C dX2_freeByTiles_8 ?_
  refine z_isub C dX2_freeByTiles_9 ?_
  obtain rfl := Option.some.inj hf
  exact z_ireturn C dX2_freeByTiles_10
/-! X2_step: depth 2 -/
def f_X2_step (G : GS) (x1 : Int32) (x2 : Int32) : Option Int32 :=
  if x1 < 0 then (some (0 : Int32)) else (if x1 < (28 : Int32) then (if x2 = 0 then (chk (inB x1 28) ((f_X5_stepY (G.2.2 7 x1.toNatClampNeg)).bind (fun q34 => some q34))) else (chk (inB x1 28) ((f_X5_stepX (G.2.2 7 x1.toNatClampNeg)).bind (fun q22 => some q22)))) else (some (0 : Int32)))
set_option maxRecDepth 100000 in
set_option maxHeartbeats 4000000 in
theorem ct_X2_step {E : zE} {l : Launch} {h0 : Hp} {g : Nat} {G : GS} {x1 : Int32} {x2 : Int32} {r : Int32}  (hf : f_X2_step G x1 x2 = some r) : zM E l 2 yX2_step cX2_step 3 (some .int) [.ref (g + 5), .int x1, .int x2] (pG E h0 g G) (some (.int r)) (pG E h0 g G) := by
  refine zM_of (lv := [(0, .ref (g + 5)), (1, .int x1), (2, .int x2)]) (by decide +kernel) (Nat.le_of_ble_eq_true rfl) rfl (fun X hX C => ?_)
  subst hX
  replace C : zC E X RX2 cX2_step 3 (some .int) 2 := C
  unfold f_X2_step at hf
  refine z_iload_n C dX2_step_0 1 rfl ?_
  refine z_if_lt C 10 dX2_step_1 (by decide) (fun c1 => ?_) (fun c1 => ?_)
  · replace hf := ip c1 hf
    refine z_iconst C (0 : Int32) dX2_step_10 (by decide) ?_
    obtain rfl := Option.some.inj hf
    exact z_ireturn C dX2_step_11
  · replace hf := iN c1 hf
    refine z_iload_n C dX2_step_4 1 rfl ?_
    refine z_bipush C (28 : Int32) dX2_step_5 (by decide) ?_
    refine z_icmp_lt C 12 dX2_step_7 (by decide) (fun c7 => ?_) (fun c7 => ?_)
    · replace hf := ip c7 hf
      refine z_iload_n C dX2_step_12 2 rfl ?_
      refine z_if_eq C 28 dX2_step_13 (by decide) (fun c13 => ?_) (fun c13 => ?_)
      · replace hf := ip c13 hf
        refine z_aload_n C dX2_step_28 0 rfl ?_
        refine gf_X2_31 C dX2_step_29 ?_
        refine z_iload_n C dX2_step_32 1 rfl ?_
        obtain ⟨c33, hf⟩ := chk_some hf
        refine z_iald C pG_a7 c33 dX2_step_33 ?_
        obtain ⟨q34, hq34, hf⟩ := bd_some hf
        refine iv_X2_72 C [.int (G.2.2 7 x1.toNatClampNeg)] [] (ct_X5_stepY hq34) rfl (by decide) rfl (Nat.le_of_ble_eq_true rfl) z_k0 dX2_step_34 ?_
        obtain rfl := Option.some.inj hf
        exact z_ireturn C dX2_step_37
      · replace hf := iN c13 hf
        refine z_aload_n C dX2_step_16 0 rfl ?_
        refine gf_X2_31 C dX2_step_17 ?_
        refine z_iload_n C dX2_step_20 1 rfl ?_
        obtain ⟨c21, hf⟩ := chk_some hf
        refine z_iald C pG_a7 c21 dX2_step_21 ?_
        obtain ⟨q22, hq22, hf⟩ := bd_some hf
        refine iv_X2_69 C [.int (G.2.2 7 x1.toNatClampNeg)] [] (ct_X5_stepX hq22) rfl (by decide) rfl (Nat.le_of_ble_eq_true rfl) z_k0 dX2_step_22 ?_
        refine z_goto C 37 dX2_step_25 (by decide) ?_
        obtain rfl := Option.some.inj hf
        exact z_ireturn C dX2_step_37
    · replace hf := iN c7 hf
      refine z_iconst C (0 : Int32) dX2_step_10 (by decide) ?_
      obtain rfl := Option.some.inj hf
      exact z_ireturn C dX2_step_11
/-! X2_greatest: depth 3 -/
def f_X2_greatest_b65 (n : Nat) (G : GS) (x1 : Int32) (K4 : Int32 → Int32 → Option Int32)  (x3 : Int32) (s0 : Int32) : Option Int32 :=
  K4 s0 (x3 + 1)
set_option maxRecDepth 100000 in
set_option maxHeartbeats 4000000 in
theorem w_X2_greatest_b65 {E : zE} {X : zX} {h0 : Hp} {g : Nat} {n : Nat} {G : GS} {x1 : Int32} {K4 : Int32 → Int32 → Option Int32}  (C : zC E X RX2 cX2_greatest 5 (some .int) 3)  (hK4 : ∀ (x2 : Int32) (x3 : Int32) (r : Int32), K4 x2 x3 = some r → zW E X 5 0 0 (MQ (xb X) (zQ E (some (.int r)) (pG E h0 g G)) (xa X) (xs X) 0 0 (zA E)) 4 (pG E h0 g G) [(0, .ref (g + 5)), (1, .int x1), (2, .int x2), (3, .int x3)] []) {x3 : Int32} {s0 : Int32} {r : Int32} (hf : f_X2_greatest_b65 n G x1 K4 x3 s0 = some r) : zW E X 5 0 0 (MQ (xb X) (zQ E (some (.int r)) (pG E h0 g G)) (xa X) (xs X) 0 0 (zA E)) 65 (pG E h0 g G) [(0, .ref (g + 5)), (1, .int x1), (3, .int x3)] [.int s0] := by
  unfold f_X2_greatest_b65 at hf
  refine z_istore_n (lv' := [(2, .int s0), (0, .ref (g + 5)), (1, .int x1), (3, .int x3)]) C dX2_greatest_65 (by decide) rfl ?_
  refine z_iinc (lv' := [(3, .int (x3 + 1)), (2, .int s0), (0, .ref (g + 5)), (1, .int x1)]) C dX2_greatest_66 3 (x3 + 1) rfl rfl (by decide) rfl ?_
  refine z_goto C 4 dX2_greatest_69 (by decide) ?_
  exact z_sub [2, 3, 1, 0] rfl (hK4 _ _ _ hf)
def f_X2_greatest_b47 (n : Nat) (G : GS) (x1 : Int32) (K4 : Int32 → Int32 → Option Int32)  (x2 : Int32) (x3 : Int32) (s0 : Int32) (s1 : Int32) : Option Int32 :=
  if x3 = 0 then (f_X2_greatest_b65 n G x1 K4 x3 (s1 + s0)) else (f_X2_greatest_b65 n G x1 K4 x3 (jmax x2 (s1 + s0)))
set_option maxRecDepth 100000 in
set_option maxHeartbeats 4000000 in
theorem w_X2_greatest_b47 {E : zE} {X : zX} {h0 : Hp} {g : Nat} {n : Nat} {G : GS} {x1 : Int32} {K4 : Int32 → Int32 → Option Int32}  (C : zC E X RX2 cX2_greatest 5 (some .int) 3)  (hK4 : ∀ (x2 : Int32) (x3 : Int32) (r : Int32), K4 x2 x3 = some r → zW E X 5 0 0 (MQ (xb X) (zQ E (some (.int r)) (pG E h0 g G)) (xa X) (xs X) 0 0 (zA E)) 4 (pG E h0 g G) [(0, .ref (g + 5)), (1, .int x1), (2, .int x2), (3, .int x3)] []) {x2 : Int32} {x3 : Int32} {s0 : Int32} {s1 : Int32} {r : Int32} (hf : f_X2_greatest_b47 n G x1 K4 x2 x3 s0 s1 = some r) : zW E X 5 0 0 (MQ (xb X) (zQ E (some (.int r)) (pG E h0 g G)) (xa X) (xs X) 0 0 (zA E)) 47 (pG E h0 g G) [(0, .ref (g + 5)), (1, .int x1), (2, .int x2), (3, .int x3)] [.int s0, .int s1] := by
  unfold f_X2_greatest_b47 at hf
  refine z_iadd C dX2_greatest_47 ?_
  refine z_istore (lv' := [(4, .int (s1 + s0)), (0, .ref (g + 5)), (1, .int x1), (2, .int x2), (3, .int x3)]) C dX2_greatest_48 (by decide) rfl ?_
  refine z_iload_n C dX2_greatest_50 4 rfl ?_
  refine z_if_ne C 59 dX2_greatest_51 (by decide) (fun c51 => ?_) (fun c51 => ?_)
  · replace hf := iN c51 hf
    refine z_iload_n C dX2_greatest_59 3 rfl ?_
    refine z_iload C dX2_greatest_60 0 rfl ?_
    refine mx_X2_102 C (by decide) (Nat.le_of_ble_eq_true rfl) z_k0 dX2_greatest_62 ?_
    exact z_sub [1, 2, 4] rfl (w_X2_greatest_b65 C hK4 hf)
  · replace hf := ip c51 hf
    refine z_iload C dX2_greatest_54 0 rfl ?_
    refine z_goto C 65 dX2_greatest_56 (by decide) ?_
    exact z_sub [1, 2, 4] rfl (w_X2_greatest_b65 C hK4 hf)
def f_X2_greatest_h4 (n : Nat) (G : GS) (x1 : Int32)  (K4 : Int32 → Int32 → Option Int32) (x2 : Int32) (x3 : Int32) : Option Int32 :=
  if (G.2.1 0) ≤ x3 then (some x2) else (if (28 : Int32) ≤ x3 then (some x2) else ((f_X2_step G x3 x1).bind (fun q22 => if x1 = 0 then (chk (inB x3 28) (f_X2_greatest_b47 n G x1 K4 x2 x3 (G.2.2 6 x3.toNatClampNeg) (jmax (0 : Int32) q22))) else (chk (inB x3 28) (f_X2_greatest_b47 n G x1 K4 x2 x3 (G.2.2 5 x3.toNatClampNeg) (jmax (0 : Int32) q22))))))
set_option maxRecDepth 100000 in
set_option maxHeartbeats 4000000 in
theorem w_X2_greatest_h4 {E : zE} {X : zX} {h0 : Hp} {g : Nat} {n : Nat} {G : GS} {x1 : Int32}   (C : zC E X RX2 cX2_greatest 5 (some .int) 3)   : ∀ (q : Nat) (x2 : Int32) (x3 : Int32) (r : Int32), lo2 (f_X2_greatest_h4 n G x1) q x2 x3 = some r → zW E X 5 0 0 (MQ (xb X) (zQ E (some (.int r)) (pG E h0 g G)) (xa X) (xs X) 0 0 (zA E)) 4 (pG E h0 g G) [(0, .ref (g + 5)), (1, .int x1), (2, .int x2), (3, .int x3)] [] := by
  refine lo2_ind _ ?_
  intro K4 hK4 x2 x3 r hf
  unfold f_X2_greatest_h4 at hf
  refine z_iload_n C dX2_greatest_4 3 rfl ?_
  refine z_aload_n C dX2_greatest_5 0 rfl ?_
  refine gf_X2_40 C dX2_greatest_6 ?_
  refine z_icmp_ge C 72 dX2_greatest_9 (by decide) (fun c9 => ?_) (fun c9 => ?_)
  · replace hf := ip c9 hf
    refine z_iload_n C dX2_greatest_72 2 rfl ?_
    obtain rfl := Option.some.inj hf
    exact z_ireturn C dX2_greatest_73
  · replace hf := iN c9 hf
    refine z_iload_n C dX2_greatest_12 3 rfl ?_
    refine z_bipush C (28 : Int32) dX2_greatest_13 (by decide) ?_
    refine z_icmp_ge C 72 dX2_greatest_15 (by decide) (fun c15 => ?_) (fun c15 => ?_)
    · replace hf := ip c15 hf
      refine z_iload_n C dX2_greatest_72 2 rfl ?_
      obtain rfl := Option.some.inj hf
      exact z_ireturn C dX2_greatest_73
    · replace hf := iN c15 hf
      refine z_iconst C (0 : Int32) dX2_greatest_18 (by decide) ?_
      refine z_aload_n C dX2_greatest_19 0 rfl ?_
      refine z_iload_n C dX2_greatest_20 3 rfl ?_
      refine z_iload_n C dX2_greatest_21 1 rfl ?_
      obtain ⟨q22, hq22, hf⟩ := bd_some hf
      refine iv_X2_92 C [.int x3, .int x1] [.int (0 : Int32)] (ct_X2_step hq22) pG_l rfl (by decide) rfl (Nat.le_of_ble_eq_true rfl) z_k0 dX2_greatest_22 ?_
      refine mx_X2_102 C (by decide) (Nat.le_of_ble_eq_true rfl) z_k0 dX2_greatest_25 ?_
      refine z_iload_n C dX2_greatest_28 1 rfl ?_
      refine z_if_eq C 41 dX2_greatest_29 (by decide) (fun c29 => ?_) (fun c29 => ?_)
      · replace hf := ip c29 hf
        refine z_aload_n C dX2_greatest_41 0 rfl ?_
        refine gf_X2_28 C dX2_greatest_42 ?_
        refine z_iload_n C dX2_greatest_45 3 rfl ?_
        obtain ⟨c46, hf⟩ := chk_some hf
        refine z_iald C pG_a6 c46 dX2_greatest_46 ?_
        exact z_sub [0, 1, 2, 3] rfl (w_X2_greatest_b47 C hK4 hf)
      · replace hf := iN c29 hf
        refine z_aload_n C dX2_greatest_32 0 rfl ?_
        refine gf_X2_25 C dX2_greatest_33 ?_
        refine z_iload_n C dX2_greatest_36 3 rfl ?_
        obtain ⟨c37, hf⟩ := chk_some hf
        refine z_iald C pG_a5 c37 dX2_greatest_37 ?_
        refine z_goto C 47 dX2_greatest_38 (by decide) ?_
        exact z_sub [0, 1, 2, 3] rfl (w_X2_greatest_b47 C hK4 hf)
def f_X2_greatest (n : Nat) (G : GS) (x1 : Int32) : Option Int32 :=
  lo2 (f_X2_greatest_h4 n G x1) n (-1 : Int32) (0 : Int32)
set_option maxRecDepth 100000 in
set_option maxHeartbeats 4000000 in
theorem ct_X2_greatest {E : zE} {l : Launch} {h0 : Hp} {g : Nat} {n : Nat} {G : GS} {x1 : Int32} {r : Int32}  (hf : f_X2_greatest n G x1 = some r) : zM E l 3 yX2_greatest cX2_greatest 5 (some .int) [.ref (g + 5), .int x1] (pG E h0 g G) (some (.int r)) (pG E h0 g G) := by
  refine zM_of (lv := [(0, .ref (g + 5)), (1, .int x1)]) (by decide +kernel) (Nat.le_of_ble_eq_true rfl) rfl (fun X hX C => ?_)
  subst hX
  replace C : zC E X RX2 cX2_greatest 5 (some .int) 3 := C
  unfold f_X2_greatest at hf
  refine z_iconst C (-1 : Int32) dX2_greatest_0 (by decide) ?_
  refine z_istore_n (lv' := [(2, .int (-1 : Int32)), (0, .ref (g + 5)), (1, .int x1)]) C dX2_greatest_1 (by decide) rfl ?_
  refine z_iconst C (0 : Int32) dX2_greatest_2 (by decide) ?_
  refine z_istore_n (lv' := [(3, .int (0 : Int32)), (2, .int (-1 : Int32)), (0, .ref (g + 5)), (1, .int x1)]) C dX2_greatest_3 (by decide) rfl ?_
  exact z_sub [2, 3, 1, 0] rfl (w_X2_greatest_h4 C n _ _ _ hf)
/-! X2_least: depth 3 -/
def f_X2_least_b65 (n : Nat) (G : GS) (x1 : Int32) (K4 : Int32 → Int32 → Option Int32)  (x3 : Int32) (s0 : Int32) : Option Int32 :=
  K4 s0 (x3 + 1)
set_option maxRecDepth 100000 in
set_option maxHeartbeats 4000000 in
theorem w_X2_least_b65 {E : zE} {X : zX} {h0 : Hp} {g : Nat} {n : Nat} {G : GS} {x1 : Int32} {K4 : Int32 → Int32 → Option Int32}  (C : zC E X RX2 cX2_least 5 (some .int) 3)  (hK4 : ∀ (x2 : Int32) (x3 : Int32) (r : Int32), K4 x2 x3 = some r → zW E X 5 0 0 (MQ (xb X) (zQ E (some (.int r)) (pG E h0 g G)) (xa X) (xs X) 0 0 (zA E)) 4 (pG E h0 g G) [(0, .ref (g + 5)), (1, .int x1), (2, .int x2), (3, .int x3)] []) {x3 : Int32} {s0 : Int32} {r : Int32} (hf : f_X2_least_b65 n G x1 K4 x3 s0 = some r) : zW E X 5 0 0 (MQ (xb X) (zQ E (some (.int r)) (pG E h0 g G)) (xa X) (xs X) 0 0 (zA E)) 65 (pG E h0 g G) [(0, .ref (g + 5)), (1, .int x1), (3, .int x3)] [.int s0] := by
  unfold f_X2_least_b65 at hf
  refine z_istore_n (lv' := [(2, .int s0), (0, .ref (g + 5)), (1, .int x1), (3, .int x3)]) C dX2_least_65 (by decide) rfl ?_
  refine z_iinc (lv' := [(3, .int (x3 + 1)), (2, .int s0), (0, .ref (g + 5)), (1, .int x1)]) C dX2_least_66 3 (x3 + 1) rfl rfl (by decide) rfl ?_
  refine z_goto C 4 dX2_least_69 (by decide) ?_
  exact z_sub [2, 3, 1, 0] rfl (hK4 _ _ _ hf)
def f_X2_least_b47 (n : Nat) (G : GS) (x1 : Int32) (K4 : Int32 → Int32 → Option Int32)  (x2 : Int32) (x3 : Int32) (s0 : Int32) (s1 : Int32) : Option Int32 :=
  if x3 = 0 then (f_X2_least_b65 n G x1 K4 x3 (s1 + s0)) else (f_X2_least_b65 n G x1 K4 x3 (jmin x2 (s1 + s0)))
set_option maxRecDepth 100000 in
set_option maxHeartbeats 4000000 in
theorem w_X2_least_b47 {E : zE} {X : zX} {h0 : Hp} {g : Nat} {n : Nat} {G : GS} {x1 : Int32} {K4 : Int32 → Int32 → Option Int32}  (C : zC E X RX2 cX2_least 5 (some .int) 3)  (hK4 : ∀ (x2 : Int32) (x3 : Int32) (r : Int32), K4 x2 x3 = some r → zW E X 5 0 0 (MQ (xb X) (zQ E (some (.int r)) (pG E h0 g G)) (xa X) (xs X) 0 0 (zA E)) 4 (pG E h0 g G) [(0, .ref (g + 5)), (1, .int x1), (2, .int x2), (3, .int x3)] []) {x2 : Int32} {x3 : Int32} {s0 : Int32} {s1 : Int32} {r : Int32} (hf : f_X2_least_b47 n G x1 K4 x2 x3 s0 s1 = some r) : zW E X 5 0 0 (MQ (xb X) (zQ E (some (.int r)) (pG E h0 g G)) (xa X) (xs X) 0 0 (zA E)) 47 (pG E h0 g G) [(0, .ref (g + 5)), (1, .int x1), (2, .int x2), (3, .int x3)] [.int s0, .int s1] := by
  unfold f_X2_least_b47 at hf
  refine z_iadd C dX2_least_47 ?_
  refine z_istore (lv' := [(4, .int (s1 + s0)), (0, .ref (g + 5)), (1, .int x1), (2, .int x2), (3, .int x3)]) C dX2_least_48 (by decide) rfl ?_
  refine z_iload_n C dX2_least_50 4 rfl ?_
  refine z_if_ne C 59 dX2_least_51 (by decide) (fun c51 => ?_) (fun c51 => ?_)
  · replace hf := iN c51 hf
    refine z_iload_n C dX2_least_59 3 rfl ?_
    refine z_iload C dX2_least_60 0 rfl ?_
    refine mx_X2_96 C (by decide) (Nat.le_of_ble_eq_true rfl) z_k0 dX2_least_62 ?_
    exact z_sub [1, 2, 4] rfl (w_X2_least_b65 C hK4 hf)
  · replace hf := ip c51 hf
    refine z_iload C dX2_least_54 0 rfl ?_
    refine z_goto C 65 dX2_least_56 (by decide) ?_
    exact z_sub [1, 2, 4] rfl (w_X2_least_b65 C hK4 hf)
def f_X2_least_h4 (n : Nat) (G : GS) (x1 : Int32)  (K4 : Int32 → Int32 → Option Int32) (x2 : Int32) (x3 : Int32) : Option Int32 :=
  if (G.2.1 0) ≤ x3 then (some x2) else (if (28 : Int32) ≤ x3 then (some x2) else ((f_X2_step G x3 x1).bind (fun q22 => if x1 = 0 then (chk (inB x3 28) (f_X2_least_b47 n G x1 K4 x2 x3 (G.2.2 6 x3.toNatClampNeg) (jmin (0 : Int32) q22))) else (chk (inB x3 28) (f_X2_least_b47 n G x1 K4 x2 x3 (G.2.2 5 x3.toNatClampNeg) (jmin (0 : Int32) q22))))))
set_option maxRecDepth 100000 in
set_option maxHeartbeats 4000000 in
theorem w_X2_least_h4 {E : zE} {X : zX} {h0 : Hp} {g : Nat} {n : Nat} {G : GS} {x1 : Int32}   (C : zC E X RX2 cX2_least 5 (some .int) 3)   : ∀ (q : Nat) (x2 : Int32) (x3 : Int32) (r : Int32), lo2 (f_X2_least_h4 n G x1) q x2 x3 = some r → zW E X 5 0 0 (MQ (xb X) (zQ E (some (.int r)) (pG E h0 g G)) (xa X) (xs X) 0 0 (zA E)) 4 (pG E h0 g G) [(0, .ref (g + 5)), (1, .int x1), (2, .int x2), (3, .int x3)] [] := by
  refine lo2_ind _ ?_
  intro K4 hK4 x2 x3 r hf
  unfold f_X2_least_h4 at hf
  refine z_iload_n C dX2_least_4 3 rfl ?_
  refine z_aload_n C dX2_least_5 0 rfl ?_
  refine gf_X2_40 C dX2_least_6 ?_
  refine z_icmp_ge C 72 dX2_least_9 (by decide) (fun c9 => ?_) (fun c9 => ?_)
  · replace hf := ip c9 hf
    refine z_iload_n C dX2_least_72 2 rfl ?_
    obtain rfl := Option.some.inj hf
    exact z_ireturn C dX2_least_73
  · replace hf := iN c9 hf
    refine z_iload_n C dX2_least_12 3 rfl ?_
    refine z_bipush C (28 : Int32) dX2_least_13 (by decide) ?_
    refine z_icmp_ge C 72 dX2_least_15 (by decide) (fun c15 => ?_) (fun c15 => ?_)
    · replace hf := ip c15 hf
      refine z_iload_n C dX2_least_72 2 rfl ?_
      obtain rfl := Option.some.inj hf
      exact z_ireturn C dX2_least_73
    · replace hf := iN c15 hf
      refine z_iconst C (0 : Int32) dX2_least_18 (by decide) ?_
      refine z_aload_n C dX2_least_19 0 rfl ?_
      refine z_iload_n C dX2_least_20 3 rfl ?_
      refine z_iload_n C dX2_least_21 1 rfl ?_
      obtain ⟨q22, hq22, hf⟩ := bd_some hf
      refine iv_X2_92 C [.int x3, .int x1] [.int (0 : Int32)] (ct_X2_step hq22) pG_l rfl (by decide) rfl (Nat.le_of_ble_eq_true rfl) z_k0 dX2_least_22 ?_
      refine mx_X2_96 C (by decide) (Nat.le_of_ble_eq_true rfl) z_k0 dX2_least_25 ?_
      refine z_iload_n C dX2_least_28 1 rfl ?_
      refine z_if_eq C 41 dX2_least_29 (by decide) (fun c29 => ?_) (fun c29 => ?_)
      · replace hf := ip c29 hf
        refine z_aload_n C dX2_least_41 0 rfl ?_
        refine gf_X2_28 C dX2_least_42 ?_
        refine z_iload_n C dX2_least_45 3 rfl ?_
        obtain ⟨c46, hf⟩ := chk_some hf
        refine z_iald C pG_a6 c46 dX2_least_46 ?_
        exact z_sub [0, 1, 2, 3] rfl (w_X2_least_b47 C hK4 hf)
      · replace hf := iN c29 hf
        refine z_aload_n C dX2_least_32 0 rfl ?_
        refine gf_X2_25 C dX2_least_33 ?_
        refine z_iload_n C dX2_least_36 3 rfl ?_
        obtain ⟨c37, hf⟩ := chk_some hf
        refine z_iald C pG_a5 c37 dX2_least_37 ?_
        refine z_goto C 47 dX2_least_38 (by decide) ?_
        exact z_sub [0, 1, 2, 3] rfl (w_X2_least_b47 C hK4 hf)
def f_X2_least (n : Nat) (G : GS) (x1 : Int32) : Option Int32 :=
  lo2 (f_X2_least_h4 n G x1) n (-1 : Int32) (0 : Int32)
set_option maxRecDepth 100000 in
set_option maxHeartbeats 4000000 in
theorem ct_X2_least {E : zE} {l : Launch} {h0 : Hp} {g : Nat} {n : Nat} {G : GS} {x1 : Int32} {r : Int32}  (hf : f_X2_least n G x1 = some r) : zM E l 3 yX2_least cX2_least 5 (some .int) [.ref (g + 5), .int x1] (pG E h0 g G) (some (.int r)) (pG E h0 g G) := by
  refine zM_of (lv := [(0, .ref (g + 5)), (1, .int x1)]) (by decide +kernel) (Nat.le_of_ble_eq_true rfl) rfl (fun X hX C => ?_)
  subst hX
  replace C : zC E X RX2 cX2_least 5 (some .int) 3 := C
  unfold f_X2_least at hf
  refine z_iconst C (-1 : Int32) dX2_least_0 (by decide) ?_
  refine z_istore_n (lv' := [(2, .int (-1 : Int32)), (0, .ref (g + 5)), (1, .int x1)]) C dX2_least_1 (by decide) rfl ?_
  refine z_iconst C (0 : Int32) dX2_least_2 (by decide) ?_
  refine z_istore_n (lv' := [(3, .int (0 : Int32)), (2, .int (-1 : Int32)), (0, .ref (g + 5)), (1, .int x1)]) C dX2_least_3 (by decide) rfl ?_
  exact z_sub [2, 3, 1, 0] rfl (w_X2_least_h4 C n _ _ _ hf)
/-! X2_turnsTo: depth 1 -/
def f_X2_turnsTo_b71 (n : Nat) (G : GS) (x1 : Int32) (K4 : Int32 → Int32 → Option Int32)  (x2 : Int32) (x3 : Int32) : Option Int32 :=
  K4 x2 (x3 + 1)
set_option maxRecDepth 100000 in
set_option maxHeartbeats 4000000 in
theorem w_X2_turnsTo_b71 {E : zE} {X : zX} {h0 : Hp} {g : Nat} {n : Nat} {G : GS} {x1 : Int32} {K4 : Int32 → Int32 → Option Int32}  (C : zC E X RX2 cX2_turnsTo 5 (some .int) 1)  (hK4 : ∀ (x2 : Int32) (x3 : Int32) (r : Int32), K4 x2 x3 = some r → zW E X 5 0 0 (MQ (xb X) (zQ E (some (.int r)) (pG E h0 g G)) (xa X) (xs X) 0 0 (zA E)) 4 (pG E h0 g G) [(0, .ref (g + 5)), (1, .int x1), (2, .int x2), (3, .int x3)] []) {x2 : Int32} {x3 : Int32} {r : Int32} (hf : f_X2_turnsTo_b71 n G x1 K4 x2 x3 = some r) : zW E X 5 0 0 (MQ (xb X) (zQ E (some (.int r)) (pG E h0 g G)) (xa X) (xs X) 0 0 (zA E)) 71 (pG E h0 g G) [(0, .ref (g + 5)), (1, .int x1), (2, .int x2), (3, .int x3)] [] := by
  unfold f_X2_turnsTo_b71 at hf
  refine z_iinc (lv' := [(3, .int (x3 + 1)), (0, .ref (g + 5)), (1, .int x1), (2, .int x2)]) C dX2_turnsTo_71 3 (x3 + 1) rfl rfl (by decide) rfl ?_
  refine z_goto C 4 dX2_turnsTo_74 (by decide) ?_
  exact z_sub [1, 2, 3, 0] rfl (hK4 _ _ _ hf)
def f_X2_turnsTo_b51 (n : Nat) (G : GS) (x1 : Int32) (K4 : Int32 → Int32 → Option Int32)  (x2 : Int32) (x3 : Int32) (s0 : Int32) : Option Int32 :=
  chk (inB x3 28) (if ((s0 - (G.2.2 7 x3.toNatClampNeg)) &&& (3 : Int32)) = x1 then (f_X2_turnsTo_b71 n G x1 K4 (x2 + 1) x3) else (f_X2_turnsTo_b71 n G x1 K4 x2 x3))
set_option maxRecDepth 100000 in
set_option maxHeartbeats 4000000 in
theorem w_X2_turnsTo_b51 {E : zE} {X : zX} {h0 : Hp} {g : Nat} {n : Nat} {G : GS} {x1 : Int32} {K4 : Int32 → Int32 → Option Int32}  (C : zC E X RX2 cX2_turnsTo 5 (some .int) 1)  (hK4 : ∀ (x2 : Int32) (x3 : Int32) (r : Int32), K4 x2 x3 = some r → zW E X 5 0 0 (MQ (xb X) (zQ E (some (.int r)) (pG E h0 g G)) (xa X) (xs X) 0 0 (zA E)) 4 (pG E h0 g G) [(0, .ref (g + 5)), (1, .int x1), (2, .int x2), (3, .int x3)] []) {x2 : Int32} {x3 : Int32} {s0 : Int32} {r : Int32} (hf : f_X2_turnsTo_b51 n G x1 K4 x2 x3 s0 = some r) : zW E X 5 0 0 (MQ (xb X) (zQ E (some (.int r)) (pG E h0 g G)) (xa X) (xs X) 0 0 (zA E)) 51 (pG E h0 g G) [(0, .ref (g + 5)), (1, .int x1), (2, .int x2), (3, .int x3)] [.int s0] := by
  unfold f_X2_turnsTo_b51 at hf
  refine z_istore (lv' := [(4, .int s0), (0, .ref (g + 5)), (1, .int x1), (2, .int x2), (3, .int x3)]) C dX2_turnsTo_51 (by decide) rfl ?_
  refine z_iload C dX2_turnsTo_53 0 rfl ?_
  refine z_aload_n C dX2_turnsTo_55 1 rfl ?_
  refine gf_X2_31 C dX2_turnsTo_56 ?_
  refine z_iload_n C dX2_turnsTo_59 4 rfl ?_
  obtain ⟨c60, hf⟩ := chk_some hf
  refine z_iald C pG_a7 c60 dX2_turnsTo_60 ?_
  refine z_isub C dX2_turnsTo_61 ?_
  refine z_iconst C (3 : Int32) dX2_turnsTo_62 (by decide) ?_
  refine z_iand C dX2_turnsTo_63 ?_
  refine z_iload_n C dX2_turnsTo_64 2 rfl ?_
  refine z_icmp_ne C 71 dX2_turnsTo_65 (by decide) (fun c65 => ?_) (fun c65 => ?_)
  · replace hf := iN c65 hf
    exact z_sub [1, 2, 3, 4] rfl (w_X2_turnsTo_b71 C hK4 hf)
  · replace hf := ip c65 hf
    refine z_iinc (lv' := [(2, .int (x2 + 1)), (4, .int s0), (0, .ref (g + 5)), (1, .int x1), (3, .int x3)]) C dX2_turnsTo_68 3 (x2 + 1) rfl rfl (by decide) rfl ?_
    exact z_sub [2, 3, 0, 4] rfl (w_X2_turnsTo_b71 C hK4 hf)
def f_X2_turnsTo_b47 (n : Nat) (G : GS) (x1 : Int32) (K4 : Int32 → Int32 → Option Int32)  (x2 : Int32) (x3 : Int32) : Option Int32 :=
  f_X2_turnsTo_b51 n G x1 K4 x2 x3 (G.2.1 2)
set_option maxRecDepth 100000 in
set_option maxHeartbeats 4000000 in
theorem w_X2_turnsTo_b47 {E : zE} {X : zX} {h0 : Hp} {g : Nat} {n : Nat} {G : GS} {x1 : Int32} {K4 : Int32 → Int32 → Option Int32}  (C : zC E X RX2 cX2_turnsTo 5 (some .int) 1)  (hK4 : ∀ (x2 : Int32) (x3 : Int32) (r : Int32), K4 x2 x3 = some r → zW E X 5 0 0 (MQ (xb X) (zQ E (some (.int r)) (pG E h0 g G)) (xa X) (xs X) 0 0 (zA E)) 4 (pG E h0 g G) [(0, .ref (g + 5)), (1, .int x1), (2, .int x2), (3, .int x3)] []) {x2 : Int32} {x3 : Int32} {r : Int32} (hf : f_X2_turnsTo_b47 n G x1 K4 x2 x3 = some r) : zW E X 5 0 0 (MQ (xb X) (zQ E (some (.int r)) (pG E h0 g G)) (xa X) (xs X) 0 0 (zA E)) 47 (pG E h0 g G) [(0, .ref (g + 5)), (1, .int x1), (2, .int x2), (3, .int x3)] [] := by
  unfold f_X2_turnsTo_b47 at hf
  refine z_aload_n C dX2_turnsTo_47 0 rfl ?_
  refine gf_X2_43 C dX2_turnsTo_48 ?_
  exact z_sub [0, 1, 2, 3] rfl (w_X2_turnsTo_b51 C hK4 hf)
def f_X2_turnsTo_h4 (n : Nat) (G : GS) (x1 : Int32)  (K4 : Int32 → Int32 → Option Int32) (x2 : Int32) (x3 : Int32) : Option Int32 :=
  if (G.2.1 0) ≤ x3 then (some x2) else (if (28 : Int32) ≤ x3 then (some x2) else (if (G.2.1 0) ≤ (x3 + (1 : Int32)) then (f_X2_turnsTo_b47 n G x1 K4 x2 x3) else (if (28 : Int32) ≤ (x3 + (1 : Int32)) then (f_X2_turnsTo_b47 n G x1 K4 x2 x3) else (chk (inB (x3 + (1 : Int32)) 28) (f_X2_turnsTo_b51 n G x1 K4 x2 x3 (G.2.2 7 (x3 + (1 : Int32)).toNatClampNeg))))))
set_option maxRecDepth 100000 in
set_option maxHeartbeats 4000000 in
theorem w_X2_turnsTo_h4 {E : zE} {X : zX} {h0 : Hp} {g : Nat} {n : Nat} {G : GS} {x1 : Int32}   (C : zC E X RX2 cX2_turnsTo 5 (some .int) 1)   : ∀ (q : Nat) (x2 : Int32) (x3 : Int32) (r : Int32), lo2 (f_X2_turnsTo_h4 n G x1) q x2 x3 = some r → zW E X 5 0 0 (MQ (xb X) (zQ E (some (.int r)) (pG E h0 g G)) (xa X) (xs X) 0 0 (zA E)) 4 (pG E h0 g G) [(0, .ref (g + 5)), (1, .int x1), (2, .int x2), (3, .int x3)] [] := by
  refine lo2_ind _ ?_
  intro K4 hK4 x2 x3 r hf
  unfold f_X2_turnsTo_h4 at hf
  refine z_iload_n C dX2_turnsTo_4 3 rfl ?_
  refine z_aload_n C dX2_turnsTo_5 0 rfl ?_
  refine gf_X2_40 C dX2_turnsTo_6 ?_
  refine z_icmp_ge C 77 dX2_turnsTo_9 (by decide) (fun c9 => ?_) (fun c9 => ?_)
  · replace hf := ip c9 hf
    refine z_iload_n C dX2_turnsTo_77 2 rfl ?_
    obtain rfl := Option.some.inj hf
    exact z_ireturn C dX2_turnsTo_78
  · replace hf := iN c9 hf
    refine z_iload_n C dX2_turnsTo_12 3 rfl ?_
    refine z_bipush C (28 : Int32) dX2_turnsTo_13 (by decide) ?_
    refine z_icmp_ge C 77 dX2_turnsTo_15 (by decide) (fun c15 => ?_) (fun c15 => ?_)
    · replace hf := ip c15 hf
      refine z_iload_n C dX2_turnsTo_77 2 rfl ?_
      obtain rfl := Option.some.inj hf
      exact z_ireturn C dX2_turnsTo_78
    · replace hf := iN c15 hf
      refine z_iload_n C dX2_turnsTo_18 3 rfl ?_
      refine z_iconst C (1 : Int32) dX2_turnsTo_19 (by decide) ?_
      refine z_iadd C dX2_turnsTo_20 ?_
      refine z_aload_n C dX2_turnsTo_21 0 rfl ?_
      refine gf_X2_40 C dX2_turnsTo_22 ?_
      refine z_icmp_ge C 47 dX2_turnsTo_25 (by decide) (fun c25 => ?_) (fun c25 => ?_)
      · replace hf := ip c25 hf
        exact z_sub [0, 1, 2, 3] rfl (w_X2_turnsTo_b47 C hK4 hf)
      · replace hf := iN c25 hf
        refine z_iload_n C dX2_turnsTo_28 3 rfl ?_
        refine z_iconst C (1 : Int32) dX2_turnsTo_29 (by decide) ?_
        refine z_iadd C dX2_turnsTo_30 ?_
        refine z_bipush C (28 : Int32) dX2_turnsTo_31 (by decide) ?_
        refine z_icmp_ge C 47 dX2_turnsTo_33 (by decide) (fun c33 => ?_) (fun c33 => ?_)
        · replace hf := ip c33 hf
          exact z_sub [0, 1, 2, 3] rfl (w_X2_turnsTo_b47 C hK4 hf)
        · replace hf := iN c33 hf
          refine z_aload_n C dX2_turnsTo_36 0 rfl ?_
          refine gf_X2_31 C dX2_turnsTo_37 ?_
          refine z_iload_n C dX2_turnsTo_40 3 rfl ?_
          refine z_iconst C (1 : Int32) dX2_turnsTo_41 (by decide) ?_
          refine z_iadd C dX2_turnsTo_42 ?_
          obtain ⟨c43, hf⟩ := chk_some hf
          refine z_iald C pG_a7 c43 dX2_turnsTo_43 ?_
          refine z_goto C 51 dX2_turnsTo_44 (by decide) ?_
          exact z_sub [0, 1, 2, 3] rfl (w_X2_turnsTo_b51 C hK4 hf)
def f_X2_turnsTo (n : Nat) (G : GS) (x1 : Int32) : Option Int32 :=
  lo2 (f_X2_turnsTo_h4 n G x1) n (0 : Int32) (0 : Int32)
set_option maxRecDepth 100000 in
set_option maxHeartbeats 4000000 in
theorem ct_X2_turnsTo {E : zE} {l : Launch} {h0 : Hp} {g : Nat} {n : Nat} {G : GS} {x1 : Int32} {r : Int32}  (hf : f_X2_turnsTo n G x1 = some r) : zM E l 1 yX2_turnsTo cX2_turnsTo 5 (some .int) [.ref (g + 5), .int x1] (pG E h0 g G) (some (.int r)) (pG E h0 g G) := by
  refine zM_of (lv := [(0, .ref (g + 5)), (1, .int x1)]) (by decide +kernel) (Nat.le_of_ble_eq_true rfl) rfl (fun X hX C => ?_)
  subst hX
  replace C : zC E X RX2 cX2_turnsTo 5 (some .int) 1 := C
  unfold f_X2_turnsTo at hf
  refine z_iconst C (0 : Int32) dX2_turnsTo_0 (by decide) ?_
  refine z_istore_n (lv' := [(2, .int (0 : Int32)), (0, .ref (g + 5)), (1, .int x1)]) C dX2_turnsTo_1 (by decide) rfl ?_
  refine z_iconst C (0 : Int32) dX2_turnsTo_2 (by decide) ?_
  refine z_istore_n (lv' := [(3, .int (0 : Int32)), (2, .int (0 : Int32)), (0, .ref (g + 5)), (1, .int x1)]) C dX2_turnsTo_3 (by decide) rfl ?_
  exact z_sub [2, 3, 1, 0] rfl (w_X2_turnsTo_h4 C n _ _ _ hf)
/-! X2_numberOfReach: depth 4 -/
def f_X2_numberOfReach (n : Nat) (G : GS) (x1 : Int32) : Option Int32 :=
  if x1 = (0 : Int32) then ((f_X2_least n G (1 : Int32)).bind (fun q38 => some q38)) else (if x1 = (1 : Int32) then ((f_X2_greatest n G (1 : Int32)).bind (fun q44 => some q44)) else (if x1 = (2 : Int32) then ((f_X2_least n G (0 : Int32)).bind (fun q50 => some q50)) else (if x1 = (3 : Int32) then ((f_X2_greatest n G (0 : Int32)).bind (fun q56 => some q56)) else (if x1 = (4 : Int32) then ((f_X2_turnsTo n G (1 : Int32)).bind (fun q62 => some q62)) else ((f_X2_turnsTo n G (3 : Int32)).bind (fun q68 => some q68))))))
set_option maxRecDepth 100000 in
set_option maxHeartbeats 4000000 in
theorem ct_X2_numberOfReach {E : zE} {l : Launch} {h0 : Hp} {g : Nat} {n : Nat} {G : GS} {x1 : Int32} {r : Int32}  (hf : f_X2_numberOfReach n G x1 = some r) : zM E l 4 yX2_numberOfReach cX2_numberOfReach 2 (some .int) [.ref (g + 5), .int x1] (pG E h0 g G) (some (.int r)) (pG E h0 g G) := by
  refine zM_of (lv := [(0, .ref (g + 5)), (1, .int x1)]) (by decide +kernel) (Nat.le_of_ble_eq_true rfl) rfl (fun X hX C => ?_)
  subst hX
  replace C : zC E X RX2 cX2_numberOfReach 2 (some .int) 4 := C
  unfold f_X2_numberOfReach at hf
  refine z_iload_n C dX2_numberOfReach_0 1 rfl ?_
  by_cases e1_0 : x1 = (0 : Int32)
  · replace hf := ip e1_0 hf
    refine z_stk (congrArg (fun z => Value.int z :: []) e1_0) ?_
    refine z_tableIn C 35 36 dX2_numberOfReach_1 (by decide) (by decide) (by decide) (by decide) ?_
    refine z_aload_n C dX2_numberOfReach_36 0 rfl ?_
    refine z_iconst C (1 : Int32) dX2_numberOfReach_37 (by decide) ?_
    obtain ⟨q38, hq38, hf⟩ := bd_some hf
    refine iv_X2_82 C [.int (1 : Int32)] [] (ct_X2_least hq38) pG_l rfl (by decide) rfl (Nat.le_of_ble_eq_true rfl) z_k0 dX2_numberOfReach_38 ?_
    obtain rfl := Option.some.inj hf
    exact z_ireturn C dX2_numberOfReach_41
  replace hf := iN e1_0 hf
  by_cases e1_1 : x1 = (1 : Int32)
  · replace hf := ip e1_1 hf
    refine z_stk (congrArg (fun z => Value.int z :: []) e1_1) ?_
    refine z_tableIn C 41 42 dX2_numberOfReach_1 (by decide) (by decide) (by decide) (by decide) ?_
    refine z_aload_n C dX2_numberOfReach_42 0 rfl ?_
    refine z_iconst C (1 : Int32) dX2_numberOfReach_43 (by decide) ?_
    obtain ⟨q44, hq44, hf⟩ := bd_some hf
    refine iv_X2_86 C [.int (1 : Int32)] [] (ct_X2_greatest hq44) pG_l rfl (by decide) rfl (Nat.le_of_ble_eq_true rfl) z_k0 dX2_numberOfReach_44 ?_
    obtain rfl := Option.some.inj hf
    exact z_ireturn C dX2_numberOfReach_47
  replace hf := iN e1_1 hf
  by_cases e1_2 : x1 = (2 : Int32)
  · replace hf := ip e1_2 hf
    refine z_stk (congrArg (fun z => Value.int z :: []) e1_2) ?_
    refine z_tableIn C 47 48 dX2_numberOfReach_1 (by decide) (by decide) (by decide) (by decide) ?_
    refine z_aload_n C dX2_numberOfReach_48 0 rfl ?_
    refine z_iconst C (0 : Int32) dX2_numberOfReach_49 (by decide) ?_
    obtain ⟨q50, hq50, hf⟩ := bd_some hf
    refine iv_X2_82 C [.int (0 : Int32)] [] (ct_X2_least hq50) pG_l rfl (by decide) rfl (Nat.le_of_ble_eq_true rfl) z_k0 dX2_numberOfReach_50 ?_
    obtain rfl := Option.some.inj hf
    exact z_ireturn C dX2_numberOfReach_53
  replace hf := iN e1_2 hf
  by_cases e1_3 : x1 = (3 : Int32)
  · replace hf := ip e1_3 hf
    refine z_stk (congrArg (fun z => Value.int z :: []) e1_3) ?_
    refine z_tableIn C 53 54 dX2_numberOfReach_1 (by decide) (by decide) (by decide) (by decide) ?_
    refine z_aload_n C dX2_numberOfReach_54 0 rfl ?_
    refine z_iconst C (0 : Int32) dX2_numberOfReach_55 (by decide) ?_
    obtain ⟨q56, hq56, hf⟩ := bd_some hf
    refine iv_X2_86 C [.int (0 : Int32)] [] (ct_X2_greatest hq56) pG_l rfl (by decide) rfl (Nat.le_of_ble_eq_true rfl) z_k0 dX2_numberOfReach_56 ?_
    obtain rfl := Option.some.inj hf
    exact z_ireturn C dX2_numberOfReach_59
  replace hf := iN e1_3 hf
  by_cases e1_4 : x1 = (4 : Int32)
  · replace hf := ip e1_4 hf
    refine z_stk (congrArg (fun z => Value.int z :: []) e1_4) ?_
    refine z_tableIn C 59 60 dX2_numberOfReach_1 (by decide) (by decide) (by decide) (by decide) ?_
    refine z_aload_n C dX2_numberOfReach_60 0 rfl ?_
    refine z_iconst C (1 : Int32) dX2_numberOfReach_61 (by decide) ?_
    obtain ⟨q62, hq62, hf⟩ := bd_some hf
    refine iv_X2_89 C [.int (1 : Int32)] [] (ct_X2_turnsTo hq62) pG_l rfl (by decide) rfl (Nat.le_of_ble_eq_true rfl) z_k0 dX2_numberOfReach_62 ?_
    obtain rfl := Option.some.inj hf
    exact z_ireturn C dX2_numberOfReach_65
  replace hf := iN e1_4 hf
  refine z_tableOut C 66 dX2_numberOfReach_1 (by have n0 := ne_toInt (v := (0 : Int32)) (z := 0) (by decide) e1_0; have n1 := ne_toInt (v := (1 : Int32)) (z := 1) (by decide) e1_1; have n2 := ne_toInt (v := (2 : Int32)) (z := 2) (by decide) e1_2; have n3 := ne_toInt (v := (3 : Int32)) (z := 3) (by decide) e1_3; have n4 := ne_toInt (v := (4 : Int32)) (z := 4) (by decide) e1_4; omega) (by decide) ?_
  refine z_aload_n C dX2_numberOfReach_66 0 rfl ?_
  refine z_iconst C (3 : Int32) dX2_numberOfReach_67 (by decide) ?_
  obtain ⟨q68, hq68, hf⟩ := bd_some hf
  refine iv_X2_89 C [.int (3 : Int32)] [] (ct_X2_turnsTo hq68) pG_l rfl (by decide) rfl (Nat.le_of_ble_eq_true rfl) z_k0 dX2_numberOfReach_68 ?_
  obtain rfl := Option.some.inj hf
  exact z_ireturn C dX2_numberOfReach_71
