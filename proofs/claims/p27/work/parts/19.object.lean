/-! X5_append: depth 6 -/
def f_X5_append_b11 (x1 : Int32)   (c : CS) : Option (Int32 × CS × Int32) :=
  some ((1 : Int32), c, (0 : Int32))
set_option maxRecDepth 100000 in
set_option maxHeartbeats 4000000 in
theorem w_X5_append_b11 {E : zE} {X : zX} {h0 : Hp} {x : Nat} {x1 : Int32}   (C : zC E X RX5 cX5_append 2 (some .int) 6) (CX : zCx X)  {c : CS} {r : (Int32 × CS × Int32)} (hf : f_X5_append_b11 x1 c = some r) : zW E X 2 0 0 (vx_MQ (xb X) (zQr E r.1 (some (.int r.2.2)) (pC E h0 x r.2.1)) (zXC E (pC E h0 x r.2.1) r.1) (xa X) (xs X) 1 6 (zA E)) 11 (pC E h0 x c) [] [] := by
  unfold f_X5_append_b11 at hf
  obtain rfl := Option.some.inj hf
  exact z_throwS (text := "no character code") C CX (1 : Int32) rfl (by decide) (by decide +kernel) (by decide) (by decide +kernel) kl_X5_43 ini_IllegalArgumentException (by decide +kernel) (by decide +kernel) (by decide +kernel) (Nat.le_of_ble_eq_true rfl) dX5_append_11 dX5_append_14 dX5_append_15 dX5_append_17 dX5_append_20
def f_X5_append (c : CS) (x1 : Int32) : Option (Int32 × CS × Int32) :=
  if x1 < 0 then (f_X5_append_b11 x1 c) else (if x1 ≤ (255 : Int32) then ((f_X4_isFull c.2.1).bind (fun q25 => if q25 = 0 then ((f_X4_add c.2.1 x1).bind (fun q46 => some ((0 : Int32), cT c q46.1, q46.2))) else (some ((2 : Int32), c, (0 : Int32))))) else (f_X5_append_b11 x1 c))
set_option maxRecDepth 100000 in
set_option maxHeartbeats 4000000 in
theorem ct_X5_append {E : zE} {l : Launch} {h0 : Hp} {x : Nat} {c : CS} {x1 : Int32} {r : (Int32 × CS × Int32)} (hst : l.stackTraces = false) (hf : f_X5_append c x1 = some r) : zMX E l 6 yX5_append cX5_append 2 (some .int) [.ref x, .int x1] (pC E h0 x c) r.1 (some (.int r.2.2)) (pC E h0 x r.2.1) := by
  refine zMX_of (lv := [(0, .ref x), (1, .int x1)]) hst (by decide +kernel) (Nat.le_of_ble_eq_true rfl) rfl (fun X hX C CX => ?_)
  subst hX
  replace C : zC E X RX5 cX5_append 2 (some .int) 6 := C
  unfold f_X5_append at hf
  refine z_iload_n C dX5_append_0 1 rfl ?_
  refine z_if_lt C 11 dX5_append_1 (by decide) (fun c1 => ?_) (fun c1 => ?_)
  · replace hf := ip c1 hf
    exact z_sub [] rfl (w_X5_append_b11 C CX hf)
  · replace hf := iN c1 hf
    refine z_iload_n C dX5_append_4 1 rfl ?_
    refine z_sipush C (255 : Int32) dX5_append_5 (by decide) ?_
    refine z_icmp_le C 21 dX5_append_8 (by decide) (fun c8 => ?_) (fun c8 => ?_)
    · replace hf := ip c8 hf
      refine z_aload_n C dX5_append_21 0 rfl ?_
      refine gf_X5_10 C dX5_append_22 ?_
      obtain ⟨q25, hq25, hf⟩ := bd_some hf
      refine z_heap pC_T ?_
      refine iv_X5_50 C [] [] (ct_X4_isFull hq25) pT_o rfl (by decide) rfl (Nat.le_of_ble_eq_true rfl) z_k0 dX5_append_25 ?_
      refine z_heap pC_T.symm ?_
      refine z_if_eq C 41 dX5_append_28 (by decide) (fun c28 => ?_) (fun c28 => ?_)
      · replace hf := ip c28 hf
        refine z_aload_n C dX5_append_41 0 rfl ?_
        refine gf_X5_10 C dX5_append_42 ?_
        refine z_iload_n C dX5_append_45 1 rfl ?_
        obtain ⟨q46, hq46, hf⟩ := bd_some hf
        refine z_heap pC_T ?_
        refine iv_X5_59 C [.int x1] [] (ct_X4_add hq46) pT_o rfl (by decide) rfl (Nat.le_of_ble_eq_true rfl) z_k0 dX5_append_46 ?_
        refine z_heap (pC_T' _) ?_
        obtain rfl := Option.some.inj hf
        exact z_xireturn C dX5_append_49
      · replace hf := iN c28 hf
        obtain rfl := Option.some.inj hf
        exact z_throwS (text := "the text is full") C CX (2 : Int32) rfl (by decide) (by decide +kernel) (by decide) (by decide +kernel) kl_X5_54 ini_IllegalStateException (by decide +kernel) (by decide +kernel) (by decide +kernel) (Nat.le_of_ble_eq_true rfl) dX5_append_31 dX5_append_34 dX5_append_35 dX5_append_37 dX5_append_40
    · replace hf := iN c8 hf
      exact z_sub [] rfl (w_X5_append_b11 C CX hf)
/-! X5_doCommandAt: depth 5 -/
def f_X5_doCommandAt_b115 (n : Nat) (x1 : Int32)   (c : CS) (s0 : Int32) (s1 : Int32) : Option ((CS) × Int32) :=
  (f_X0_layIfPossible n (c.2.2 0) s1 s0).bind (fun q115 => chk (q115.2 = 0 ∨ q115.2 = 1) (some (cG c 0 q115.1, q115.2)))
set_option maxRecDepth 100000 in
set_option maxHeartbeats 4000000 in
theorem w_X5_doCommandAt_b115 {E : zE} {X : zX} {h0 : Hp} {x : Nat} {n : Nat} {x1 : Int32}   (C : zC E X RX5 cX5_doCommandAt 2 (some .boolean) 5)   {c : CS} {s0 : Int32} {s1 : Int32} {r : ((CS) × Int32)} (hf : f_X5_doCommandAt_b115 n x1 c s0 s1 = some r) : zW E X 2 0 0 (MQ (xb X) (zQ E (some (.int r.2)) (pC E h0 x r.1)) (xa X) (xs X) 0 0 (zA E)) 115 (pC E h0 x c) [] [.int s0, .int s1, .ref (x + ga 0)] := by
  unfold f_X5_doCommandAt_b115 at hf
  obtain ⟨q115, hq115, hf⟩ := bd_some hf
  refine z_heap (pC_G (i := 0) (by decide)) ?_
  refine iv_X5_107 C [.int s1, .int s0] [] (ct_X0_layIfPossible hq115) pG_o rfl (by decide) rfl (Nat.le_of_ble_eq_true rfl) z_k0 dX5_doCommandAt_115 ?_
  refine z_heap (pC_G' (i := 0) (by decide) _) ?_
  obtain ⟨c118, hf⟩ := chk_some hf
  obtain rfl := Option.some.inj hf
  exact z_zreturn C c118 dX5_doCommandAt_118
def f_X5_doCommandAt (n : Nat) (c : CS) (x1 : Int32) : Option ((CS) × Int32) :=
  (f_X4_signAt c.2.1 x1).bind (fun q5 => if q5 = (100 : Int32) then ((f_X4_digitAt c.2.1 (x1 + (1 : Int32))).bind (fun q63 => (f_X4_numberAt c.2.1 (x1 + (2 : Int32))).bind (fun q73 => (f_X0_startRound n (c.2.2 0) q63 q73.toInt64).bind (fun q77 => chk (q77.2 = 0 ∨ q77.2 = 1) (some (cG c 0 q77.1, q77.2)))))) else (if q5 = (112 : Int32) then ((f_X4_numberAt c.2.1 (x1 + (1 : Int32))).bind (fun q92 => (f_X4_signAt c.2.1 (x1 + (3 : Int32))).bind (fun q102 => if q102 = (108 : Int32) then (f_X5_doCommandAt_b115 n x1 c (1 : Int32) q92) else (f_X5_doCommandAt_b115 n x1 c (0 : Int32) q92)))) else (if q5 = (115 : Int32) then ((f_X0_skipTurn n (c.2.2 0)).bind (fun q140 => if q140.2 = (-1 : Int32) then (some (cG c 0 q140.1, (0 : Int32))) else (some (cG c 0 q140.1, (1 : Int32))))) else (if q5 = (119 : Int32) then ((f_X0_takeFromHeap (c.2.2 0)).bind (fun q123 => if q123.2 = (-1 : Int32) then (some (cG c 0 q123.1, (0 : Int32))) else (some (cG c 0 q123.1, (1 : Int32))))) else ((f_X0_heaviestPlayable n (c.2.2 0)).bind (fun q161 => (f_X0_layIfPossible n (c.2.2 0) q161 (0 : Int32)).bind (fun q165 => some (cG c 0 q165.1, (1 : Int32)))))))))
set_option maxRecDepth 100000 in
set_option maxHeartbeats 4000000 in
theorem ct_X5_doCommandAt {E : zE} {l : Launch} {h0 : Hp} {x : Nat} {n : Nat} {c : CS} {x1 : Int32} {r : ((CS) × Int32)}  (hf : f_X5_doCommandAt n c x1 = some r) : zM E l 5 yX5_doCommandAt cX5_doCommandAt 2 (some .boolean) [.ref x, .int x1] (pC E h0 x c) (some (.int r.2)) (pC E h0 x r.1) := by
  refine zM_of (lv := [(0, .ref x), (1, .int x1)]) (by decide +kernel) (Nat.le_of_ble_eq_true rfl) rfl (fun X hX C => ?_)
  subst hX
  replace C : zC E X RX5 cX5_doCommandAt 2 (some .boolean) 5 := C
  unfold f_X5_doCommandAt at hf
  refine z_aload_n C dX5_doCommandAt_0 0 rfl ?_
  refine gf_X5_10 C dX5_doCommandAt_1 ?_
  refine z_iload_n C dX5_doCommandAt_4 1 rfl ?_
  obtain ⟨q5, hq5, hf⟩ := bd_some hf
  refine z_heap pC_T ?_
  refine iv_X5_94 C [.int x1] [] (ct_X4_signAt hq5) pT_o rfl (by decide) rfl (Nat.le_of_ble_eq_true rfl) z_k0 dX5_doCommandAt_5 ?_
  refine z_heap pC_T.symm ?_
  by_cases e8_0 : q5 = (100 : Int32)
  · replace hf := ip e8_0 hf
    refine z_stk (congrArg (fun z => Value.int z :: []) e8_0) ?_
    refine z_lookup C 44 52 dX5_doCommandAt_8 (by decide) (by decide) (by decide) ?_
    refine z_aload_n C dX5_doCommandAt_52 0 rfl ?_
    refine gf_X5_19 C dX5_doCommandAt_53 ?_
    refine z_aload_n C dX5_doCommandAt_56 0 rfl ?_
    refine gf_X5_10 C dX5_doCommandAt_57 ?_
    refine z_iload_n C dX5_doCommandAt_60 1 rfl ?_
    refine z_iconst C (1 : Int32) dX5_doCommandAt_61 (by decide) ?_
    refine z_iadd C dX5_doCommandAt_62 ?_
    obtain ⟨q63, hq63, hf⟩ := bd_some hf
    refine z_heap pC_T ?_
    refine iv_X5_97 C [.int (x1 + (1 : Int32))] [.ref (x + ga 0)] (ct_X4_digitAt hq63) pT_o rfl (by decide) rfl (Nat.le_of_ble_eq_true rfl) z_k0 dX5_doCommandAt_63 ?_
    refine z_heap pC_T.symm ?_
    refine z_aload_n C dX5_doCommandAt_66 0 rfl ?_
    refine gf_X5_10 C dX5_doCommandAt_67 ?_
    refine z_iload_n C dX5_doCommandAt_70 1 rfl ?_
    refine z_iconst C (2 : Int32) dX5_doCommandAt_71 (by decide) ?_
    refine z_iadd C dX5_doCommandAt_72 ?_
    obtain ⟨q73, hq73, hf⟩ := bd_some hf
    refine z_heap pC_T ?_
    refine iv_X5_100 C [.int (x1 + (2 : Int32))] [.int q63, .ref (x + ga 0)] (ct_X4_numberAt hq73) pT_o rfl (by decide) rfl (Nat.le_of_ble_eq_true rfl) z_k0 dX5_doCommandAt_73 ?_
    refine z_heap pC_T.symm ?_
    refine z_i2l C dX5_doCommandAt_76 ?_
    obtain ⟨q77, hq77, hf⟩ := bd_some hf
    refine z_heap (pC_G (i := 0) (by decide)) ?_
    refine iv_X5_103 C [.int q63, .long q73.toInt64] [] (ct_X0_startRound hq77) pG_o rfl (by decide) rfl (Nat.le_of_ble_eq_true rfl) z_k0 dX5_doCommandAt_77 ?_
    refine z_heap (pC_G' (i := 0) (by decide) _) ?_
    obtain ⟨c80, hf⟩ := chk_some hf
    obtain rfl := Option.some.inj hf
    exact z_zreturn C c80 dX5_doCommandAt_80
  replace hf := iN e8_0 hf
  by_cases e8_1 : q5 = (112 : Int32)
  · replace hf := ip e8_1 hf
    refine z_stk (congrArg (fun z => Value.int z :: []) e8_1) ?_
    refine z_lookup C 73 81 dX5_doCommandAt_8 (by decide) (by decide) (by decide) ?_
    refine z_aload_n C dX5_doCommandAt_81 0 rfl ?_
    refine gf_X5_19 C dX5_doCommandAt_82 ?_
    refine z_aload_n C dX5_doCommandAt_85 0 rfl ?_
    refine gf_X5_10 C dX5_doCommandAt_86 ?_
    refine z_iload_n C dX5_doCommandAt_89 1 rfl ?_
    refine z_iconst C (1 : Int32) dX5_doCommandAt_90 (by decide) ?_
    refine z_iadd C dX5_doCommandAt_91 ?_
    obtain ⟨q92, hq92, hf⟩ := bd_some hf
    refine z_heap pC_T ?_
    refine iv_X5_100 C [.int (x1 + (1 : Int32))] [.ref (x + ga 0)] (ct_X4_numberAt hq92) pT_o rfl (by decide) rfl (Nat.le_of_ble_eq_true rfl) z_k0 dX5_doCommandAt_92 ?_
    refine z_heap pC_T.symm ?_
    refine z_aload_n C dX5_doCommandAt_95 0 rfl ?_
    refine gf_X5_10 C dX5_doCommandAt_96 ?_
    refine z_iload_n C dX5_doCommandAt_99 1 rfl ?_
    refine z_iconst C (3 : Int32) dX5_doCommandAt_100 (by decide) ?_
    refine z_iadd C dX5_doCommandAt_101 ?_
    obtain ⟨q102, hq102, hf⟩ := bd_some hf
    refine z_heap pC_T ?_
    refine iv_X5_94 C [.int (x1 + (3 : Int32))] [.int q92, .ref (x + ga 0)] (ct_X4_signAt hq102) pT_o rfl (by decide) rfl (Nat.le_of_ble_eq_true rfl) z_k0 dX5_doCommandAt_102 ?_
    refine z_heap pC_T.symm ?_
    refine z_bipush C (108 : Int32) dX5_doCommandAt_105 (by decide) ?_
    refine z_icmp_ne C 114 dX5_doCommandAt_107 (by decide) (fun c107 => ?_) (fun c107 => ?_)
    · replace hf := iN c107 hf
      refine z_iconst C (0 : Int32) dX5_doCommandAt_114 (by decide) ?_
      exact z_sub [] rfl (w_X5_doCommandAt_b115 C hf)
    · replace hf := ip c107 hf
      refine z_iconst C (1 : Int32) dX5_doCommandAt_110 (by decide) ?_
      refine z_goto C 115 dX5_doCommandAt_111 (by decide) ?_
      exact z_sub [] rfl (w_X5_doCommandAt_b115 C hf)
  replace hf := iN e8_1 hf
  by_cases e8_2 : q5 = (115 : Int32)
  · replace hf := ip e8_2 hf
    refine z_stk (congrArg (fun z => Value.int z :: []) e8_2) ?_
    refine z_lookup C 128 136 dX5_doCommandAt_8 (by decide) (by decide) (by decide) ?_
    refine z_aload_n C dX5_doCommandAt_136 0 rfl ?_
    refine gf_X5_19 C dX5_doCommandAt_137 ?_
    obtain ⟨q140, hq140, hf⟩ := bd_some hf
    refine z_heap (pC_G (i := 0) (by decide)) ?_
    refine iv_X5_114 C [] [] (ct_X0_skipTurn hq140) pG_o rfl (by decide) rfl (Nat.le_of_ble_eq_true rfl) z_k0 dX5_doCommandAt_140 ?_
    refine z_heap (pC_G' (i := 0) (by decide) _) ?_
    refine z_iconst C (-1 : Int32) dX5_doCommandAt_143 (by decide) ?_
    refine z_icmp_eq C 151 dX5_doCommandAt_144 (by decide) (fun c144 => ?_) (fun c144 => ?_)
    · replace hf := ip c144 hf
      refine z_iconst C (0 : Int32) dX5_doCommandAt_151 (by decide) ?_
      obtain rfl := Option.some.inj hf
      exact z_zreturn (v := (0 : Int32)) C (by decide) dX5_doCommandAt_152
    · replace hf := iN c144 hf
      refine z_iconst C (1 : Int32) dX5_doCommandAt_147 (by decide) ?_
      refine z_goto C 152 dX5_doCommandAt_148 (by decide) ?_
      obtain rfl := Option.some.inj hf
      exact z_zreturn (v := (1 : Int32)) C (by decide) dX5_doCommandAt_152
  replace hf := iN e8_2 hf
  by_cases e8_3 : q5 = (119 : Int32)
  · replace hf := ip e8_3 hf
    refine z_stk (congrArg (fun z => Value.int z :: []) e8_3) ?_
    refine z_lookup C 111 119 dX5_doCommandAt_8 (by decide) (by decide) (by decide) ?_
    refine z_aload_n C dX5_doCommandAt_119 0 rfl ?_
    refine gf_X5_19 C dX5_doCommandAt_120 ?_
    obtain ⟨q123, hq123, hf⟩ := bd_some hf
    refine z_heap (pC_G (i := 0) (by decide)) ?_
    refine iv_X5_111 C [] [] (ct_X0_takeFromHeap hq123) pG_o rfl (by decide) rfl (Nat.le_of_ble_eq_true rfl) z_k0 dX5_doCommandAt_123 ?_
    refine z_heap (pC_G' (i := 0) (by decide) _) ?_
    refine z_iconst C (-1 : Int32) dX5_doCommandAt_126 (by decide) ?_
    refine z_icmp_eq C 134 dX5_doCommandAt_127 (by decide) (fun c127 => ?_) (fun c127 => ?_)
    · replace hf := ip c127 hf
      refine z_iconst C (0 : Int32) dX5_doCommandAt_134 (by decide) ?_
      obtain rfl := Option.some.inj hf
      exact z_zreturn (v := (0 : Int32)) C (by decide) dX5_doCommandAt_135
    · replace hf := iN c127 hf
      refine z_iconst C (1 : Int32) dX5_doCommandAt_130 (by decide) ?_
      refine z_goto C 135 dX5_doCommandAt_131 (by decide) ?_
      obtain rfl := Option.some.inj hf
      exact z_zreturn (v := (1 : Int32)) C (by decide) dX5_doCommandAt_135
  replace hf := iN e8_3 hf
  refine z_lookup C (145) 153 dX5_doCommandAt_8 (by decide) (by have n0 := ne_toInt (v := (100 : Int32)) (z := 100) (by decide) e8_0; have n1 := ne_toInt (v := (112 : Int32)) (z := 112) (by decide) e8_1; have n2 := ne_toInt (v := (115 : Int32)) (z := 115) (by decide) e8_2; have n3 := ne_toInt (v := (119 : Int32)) (z := 119) (by decide) e8_3; simp [Op.lookupswitch.offset, Ne.symm n0, Ne.symm n1, Ne.symm n2, Ne.symm n3]) (by decide) ?_
  refine z_aload_n C dX5_doCommandAt_153 0 rfl ?_
  refine gf_X5_19 C dX5_doCommandAt_154 ?_
  refine z_aload_n C dX5_doCommandAt_157 0 rfl ?_
  refine gf_X5_19 C dX5_doCommandAt_158 ?_
  obtain ⟨q161, hq161, hf⟩ := bd_some hf
  refine z_heap (pC_G (i := 0) (by decide)) ?_
  refine iv_X5_117 C [] [.ref (x + ga 0)] (ct_X0_heaviestPlayable hq161) pG_o rfl (by decide) rfl (Nat.le_of_ble_eq_true rfl) z_k0 dX5_doCommandAt_161 ?_
  refine z_heap (pC_G (i := 0) (by decide)).symm ?_
  refine z_iconst C (0 : Int32) dX5_doCommandAt_164 (by decide) ?_
  obtain ⟨q165, hq165, hf⟩ := bd_some hf
  refine z_heap (pC_G (i := 0) (by decide)) ?_
  refine iv_X5_107 C [.int q161, .int (0 : Int32)] [] (ct_X0_layIfPossible hq165) pG_o rfl (by decide) rfl (Nat.le_of_ble_eq_true rfl) z_k0 dX5_doCommandAt_165 ?_
  refine z_heap (pC_G' (i := 0) (by decide) _) ?_
  refine z_pop C dX5_doCommandAt_168 rfl ?_
  refine z_iconst C (1 : Int32) dX5_doCommandAt_169 (by decide) ?_
  obtain rfl := Option.some.inj hf
  exact z_zreturn (v := (1 : Int32)) C (by decide) dX5_doCommandAt_170
/-! X5_doCommandsOfText: depth 6 -/
def f_X5_doCommandsOfText_b44 (n : Nat) (K6 : CS → Int32 → Int32 → Int32 → Option ((CS) × Int32))  (c : CS) (x1 : Int32) (x2 : Int32) (x3 : Int32) : Option ((CS) × Int32) :=
  K6 c x1 x2 (x3 + 1)
set_option maxRecDepth 100000 in
set_option maxHeartbeats 4000000 in
theorem w_X5_doCommandsOfText_b44 {E : zE} {X : zX} {h0 : Hp} {x : Nat} {n : Nat} {K6 : CS → Int32 → Int32 → Int32 → Option ((CS) × Int32)}  (C : zC E X RX5 cX5_doCommandsOfText 4 (some .int) 6)  (hK6 : ∀ (c : CS) (x1 : Int32) (x2 : Int32) (x3 : Int32) (r : ((CS) × Int32)), K6 c x1 x2 x3 = some r → zW E X 4 0 0 (MQ (xb X) (zQ E (some (.int r.2)) (pC E h0 x r.1)) (xa X) (xs X) 0 0 (zA E)) 6 (pC E h0 x c) [(0, .ref x), (1, .int x1), (2, .int x2), (3, .int x3)] []) {c : CS} {x1 : Int32} {x2 : Int32} {x3 : Int32} {r : ((CS) × Int32)} (hf : f_X5_doCommandsOfText_b44 n K6 c x1 x2 x3 = some r) : zW E X 4 0 0 (MQ (xb X) (zQ E (some (.int r.2)) (pC E h0 x r.1)) (xa X) (xs X) 0 0 (zA E)) 44 (pC E h0 x c) [(0, .ref x), (1, .int x1), (2, .int x2), (3, .int x3)] [] := by
  unfold f_X5_doCommandsOfText_b44 at hf
  refine z_iinc (lv' := [(3, .int (x3 + 1)), (0, .ref x), (1, .int x1), (2, .int x2)]) C dX5_doCommandsOfText_44 3 (x3 + 1) rfl rfl (by decide) rfl ?_
  refine z_goto C 6 dX5_doCommandsOfText_47 (by decide) ?_
  exact z_sub [1, 2, 3, 0] rfl (hK6 _ _ _ _ _ hf)
def f_X5_doCommandsOfText_b40 (n : Nat) (K6 : CS → Int32 → Int32 → Int32 → Option ((CS) × Int32))  (c : CS) (x1 : Int32) (x3 : Int32) : Option ((CS) × Int32) :=
  f_X5_doCommandsOfText_b44 n K6 c x1 (x3 + (1 : Int32)) x3
set_option maxRecDepth 100000 in
set_option maxHeartbeats 4000000 in
theorem w_X5_doCommandsOfText_b40 {E : zE} {X : zX} {h0 : Hp} {x : Nat} {n : Nat} {K6 : CS → Int32 → Int32 → Int32 → Option ((CS) × Int32)}  (C : zC E X RX5 cX5_doCommandsOfText 4 (some .int) 6)  (hK6 : ∀ (c : CS) (x1 : Int32) (x2 : Int32) (x3 : Int32) (r : ((CS) × Int32)), K6 c x1 x2 x3 = some r → zW E X 4 0 0 (MQ (xb X) (zQ E (some (.int r.2)) (pC E h0 x r.1)) (xa X) (xs X) 0 0 (zA E)) 6 (pC E h0 x c) [(0, .ref x), (1, .int x1), (2, .int x2), (3, .int x3)] []) {c : CS} {x1 : Int32} {x3 : Int32} {r : ((CS) × Int32)} (hf : f_X5_doCommandsOfText_b40 n K6 c x1 x3 = some r) : zW E X 4 0 0 (MQ (xb X) (zQ E (some (.int r.2)) (pC E h0 x r.1)) (xa X) (xs X) 0 0 (zA E)) 40 (pC E h0 x c) [(0, .ref x), (1, .int x1), (3, .int x3)] [] := by
  unfold f_X5_doCommandsOfText_b40 at hf
  refine z_iload_n C dX5_doCommandsOfText_40 2 rfl ?_
  refine z_iconst C (1 : Int32) dX5_doCommandsOfText_41 (by decide) ?_
  refine z_iadd C dX5_doCommandsOfText_42 ?_
  refine z_istore_n (lv' := [(2, .int (x3 + (1 : Int32))), (0, .ref x), (1, .int x1), (3, .int x3)]) C dX5_doCommandsOfText_43 (by decide) rfl ?_
  exact z_sub [1, 2, 0, 3] rfl (w_X5_doCommandsOfText_b44 C hK6 hf)
def f_X5_doCommandsOfText_h6 (n : Nat)  (K6 : CS → Int32 → Int32 → Int32 → Option ((CS) × Int32)) (c : CS) (x1 : Int32) (x2 : Int32) (x3 : Int32) : Option ((CS) × Int32) :=
  (f_X4_size c.2.1).bind (fun q11 => if q11 ≤ x3 then (some (c, x1)) else ((f_X4_isEndOfCommand c.2.1 x2 x3).bind (fun q23 => if q23 = 0 then (f_X5_doCommandsOfText_b44 n K6 c x1 x2 x3) else ((f_X5_doCommandAt n c x2).bind (fun q31 => if q31.2 = 0 then (f_X5_doCommandsOfText_b40 n K6 q31.1 (x1 + 1) x3) else (f_X5_doCommandsOfText_b40 n K6 q31.1 x1 x3))))))
set_option maxRecDepth 100000 in
set_option maxHeartbeats 4000000 in
theorem w_X5_doCommandsOfText_h6 {E : zE} {X : zX} {h0 : Hp} {x : Nat} {n : Nat}   (C : zC E X RX5 cX5_doCommandsOfText 4 (some .int) 6)   : ∀ (q : Nat) (c : CS) (x1 : Int32) (x2 : Int32) (x3 : Int32) (r : ((CS) × Int32)), lo4 (f_X5_doCommandsOfText_h6 n) q c x1 x2 x3 = some r → zW E X 4 0 0 (MQ (xb X) (zQ E (some (.int r.2)) (pC E h0 x r.1)) (xa X) (xs X) 0 0 (zA E)) 6 (pC E h0 x c) [(0, .ref x), (1, .int x1), (2, .int x2), (3, .int x3)] [] := by
  refine lo4_ind _ ?_
  intro K6 hK6 c x1 x2 x3 r hf
  unfold f_X5_doCommandsOfText_h6 at hf
  refine z_iload_n C dX5_doCommandsOfText_6 3 rfl ?_
  refine z_aload_n C dX5_doCommandsOfText_7 0 rfl ?_
  refine gf_X5_10 C dX5_doCommandsOfText_8 ?_
  obtain ⟨q11, hq11, hf⟩ := bd_some hf
  refine z_heap pC_T ?_
  refine iv_X5_83 C [] [.int x3] (ct_X4_size hq11) pT_o rfl (by decide) rfl (Nat.le_of_ble_eq_true rfl) z_k0 dX5_doCommandsOfText_11 ?_
  refine z_heap pC_T.symm ?_
  refine z_icmp_ge C 50 dX5_doCommandsOfText_14 (by decide) (fun c14 => ?_) (fun c14 => ?_)
  · replace hf := ip c14 hf
    refine z_iload_n C dX5_doCommandsOfText_50 1 rfl ?_
    obtain rfl := Option.some.inj hf
    exact z_ireturn C dX5_doCommandsOfText_51
  · replace hf := iN c14 hf
    refine z_aload_n C dX5_doCommandsOfText_17 0 rfl ?_
    refine gf_X5_10 C dX5_doCommandsOfText_18 ?_
    refine z_iload_n C dX5_doCommandsOfText_21 2 rfl ?_
    refine z_iload_n C dX5_doCommandsOfText_22 3 rfl ?_
    obtain ⟨q23, hq23, hf⟩ := bd_some hf
    refine z_heap pC_T ?_
    refine iv_X5_86 C [.int x2, .int x3] [] (ct_X4_isEndOfCommand hq23) pT_o rfl (by decide) rfl (Nat.le_of_ble_eq_true rfl) z_k0 dX5_doCommandsOfText_23 ?_
    refine z_heap pC_T.symm ?_
    refine z_if_eq C 44 dX5_doCommandsOfText_26 (by decide) (fun c26 => ?_) (fun c26 => ?_)
    · replace hf := ip c26 hf
      exact z_sub [0, 1, 2, 3] rfl (w_X5_doCommandsOfText_b44 C hK6 hf)
    · replace hf := iN c26 hf
      refine z_aload_n C dX5_doCommandsOfText_29 0 rfl ?_
      refine z_iload_n C dX5_doCommandsOfText_30 2 rfl ?_
      obtain ⟨q31, hq31, hf⟩ := bd_some hf
      refine iv_X5_90 C [.int x2] [] (ct_X5_doCommandAt hq31) pC_o rfl (by decide) rfl (Nat.le_of_ble_eq_true rfl) z_k0 dX5_doCommandsOfText_31 ?_
      refine z_if_ne C 40 dX5_doCommandsOfText_34 (by decide) (fun c34 => ?_) (fun c34 => ?_)
      · replace hf := iN c34 hf
        exact z_sub [0, 1, 3] rfl (w_X5_doCommandsOfText_b40 C hK6 hf)
      · replace hf := ip c34 hf
        refine z_iinc (lv' := [(1, .int (x1 + 1)), (0, .ref x), (2, .int x2), (3, .int x3)]) C dX5_doCommandsOfText_37 1 (x1 + 1) rfl rfl (by decide) rfl ?_
        exact z_sub [1, 0, 3] rfl (w_X5_doCommandsOfText_b40 C hK6 hf)
def f_X5_doCommandsOfText (n : Nat) (c : CS) : Option ((CS) × Int32) :=
  lo4 (f_X5_doCommandsOfText_h6 n) n c (0 : Int32) (1 : Int32) (1 : Int32)
set_option maxRecDepth 100000 in
set_option maxHeartbeats 4000000 in
theorem ct_X5_doCommandsOfText {E : zE} {l : Launch} {h0 : Hp} {x : Nat} {n : Nat} {c : CS} {r : ((CS) × Int32)}  (hf : f_X5_doCommandsOfText n c = some r) : zM E l 6 yX5_doCommandsOfText cX5_doCommandsOfText 4 (some .int) [.ref x] (pC E h0 x c) (some (.int r.2)) (pC E h0 x r.1) := by
  refine zM_of (lv := [(0, .ref x)]) (by decide +kernel) (Nat.le_of_ble_eq_true rfl) rfl (fun X hX C => ?_)
  subst hX
  replace C : zC E X RX5 cX5_doCommandsOfText 4 (some .int) 6 := C
  unfold f_X5_doCommandsOfText at hf
  refine z_iconst C (0 : Int32) dX5_doCommandsOfText_0 (by decide) ?_
  refine z_istore_n (lv' := [(1, .int (0 : Int32)), (0, .ref x)]) C dX5_doCommandsOfText_1 (by decide) rfl ?_
  refine z_iconst C (1 : Int32) dX5_doCommandsOfText_2 (by decide) ?_
  refine z_istore_n (lv' := [(2, .int (1 : Int32)), (1, .int (0 : Int32)), (0, .ref x)]) C dX5_doCommandsOfText_3 (by decide) rfl ?_
  refine z_iconst C (1 : Int32) dX5_doCommandsOfText_4 (by decide) ?_
  refine z_istore_n (lv' := [(3, .int (1 : Int32)), (2, .int (1 : Int32)), (1, .int (0 : Int32)), (0, .ref x)]) C dX5_doCommandsOfText_5 (by decide) rfl ?_
  exact z_sub [3, 2, 1, 0] rfl (w_X5_doCommandsOfText_h6 C n _ _ _ _ _ hf)
/-! X5_load: depth 7 -/
def f_X5_load (n : Nat) (c : CS) : Option (Int32 × CS × Int32) :=
  (f_X4_firstError n c.2.1).bind (fun q4 => if q4 = (-1 : Int32) then ((f_X0_becomeNew n (c.2.2 0)).bind (fun q25 => (f_X1_forget (cG c 0 q25)).bind (fun q32 => (f_X3_becomeEmpty 0 q32).bind (fun q39 => (f_X3_becomeEmpty 1 q39).bind (fun q46 => (f_X5_doCommandsOfText n q46).bind (fun q50 => some ((0 : Int32), q50.1, q50.2))))))) else (some ((2 : Int32), c, (0 : Int32))))
set_option maxRecDepth 100000 in
set_option maxHeartbeats 4000000 in
theorem ct_X5_load {E : zE} {l : Launch} {h0 : Hp} {x : Nat} {n : Nat} {c : CS} {r : (Int32 × CS × Int32)} (hst : l.stackTraces = false) (hf : f_X5_load n c = some r) : zMX E l 7 yX5_load cX5_load 1 (some .int) [.ref x] (pC E h0 x c) r.1 (some (.int r.2.2)) (pC E h0 x r.2.1) := by
  refine zMX_of (lv := [(0, .ref x)]) hst (by decide +kernel) (Nat.le_of_ble_eq_true rfl) rfl (fun X hX C CX => ?_)
  subst hX
  replace C : zC E X RX5 cX5_load 1 (some .int) 7 := C
  unfold f_X5_load at hf
  refine z_aload_n C dX5_load_0 0 rfl ?_
  refine gf_X5_10 C dX5_load_1 ?_
  obtain ⟨q4, hq4, hf⟩ := bd_some hf
  refine z_heap pC_T ?_
  refine iv_X5_67 C [] [] (ct_X4_firstError hq4) pT_o rfl (by decide) rfl (Nat.le_of_ble_eq_true rfl) z_k0 dX5_load_4 ?_
  refine z_heap pC_T.symm ?_
  refine z_iconst C (-1 : Int32) dX5_load_7 (by decide) ?_
  refine z_icmp_eq C 21 dX5_load_8 (by decide) (fun c8 => ?_) (fun c8 => ?_)
  · replace hf := ip c8 hf
    refine z_aload_n C dX5_load_21 0 rfl ?_
    refine gf_X5_19 C dX5_load_22 ?_
    obtain ⟨q25, hq25, hf⟩ := bd_some hf
    refine z_heap (pC_G (i := 0) (by decide)) ?_
    refine iv_X5_72 C [] [] (ct_X0_becomeNew hq25) pG_o rfl (by decide) rfl (Nat.le_of_ble_eq_true rfl) z_k0 dX5_load_25 ?_
    refine z_heap (pC_G' (i := 0) (by decide) _) ?_
    refine z_aload_n C dX5_load_28 0 rfl ?_
    refine gf_X5_29 C dX5_load_29 ?_
    obtain ⟨q32, hq32, hf⟩ := bd_some hf
    refine iv_X5_75 C [] [] (ct_X1_forget hq32) pC_h rfl (by decide) rfl (Nat.le_of_ble_eq_true rfl) z_k0 dX5_load_32 ?_
    refine z_aload_n C dX5_load_35 0 rfl ?_
    refine gf_X5_36 C dX5_load_36 ?_
    obtain ⟨q39, hq39, hf⟩ := bd_some hf
    refine iv_X5_78 C [] [] (ct_X3_becomeEmpty (Or.inl rfl) hq39) (pC_sl (Or.inl rfl)) rfl (by decide) rfl (Nat.le_of_ble_eq_true rfl) z_k0 dX5_load_39 ?_
    refine z_aload_n C dX5_load_42 0 rfl ?_
    refine gf_X5_40 C dX5_load_43 ?_
    obtain ⟨q46, hq46, hf⟩ := bd_some hf
    refine iv_X5_78 C [] [] (ct_X3_becomeEmpty (Or.inr rfl) hq46) (pC_sl (Or.inr rfl)) rfl (by decide) rfl (Nat.le_of_ble_eq_true rfl) z_k0 dX5_load_46 ?_
    refine z_aload_n C dX5_load_49 0 rfl ?_
    obtain ⟨q50, hq50, hf⟩ := bd_some hf
    refine iv_X5_80 C [] [] (ct_X5_doCommandsOfText hq50) pC_o rfl (by decide) rfl (Nat.le_of_ble_eq_true rfl) z_k0 dX5_load_50 ?_
    obtain rfl := Option.some.inj hf
    exact z_xireturn C dX5_load_53
  · replace hf := iN c8 hf
    obtain rfl := Option.some.inj hf
    exact z_throwS (text := "the text is not a game") C CX (2 : Int32) rfl (by decide) (by decide +kernel) (by decide) (by decide +kernel) kl_X5_54 ini_IllegalStateException (by decide +kernel) (by decide +kernel) (by decide +kernel) (Nat.le_of_ble_eq_true rfl) dX5_load_11 dX5_load_14 dX5_load_15 dX5_load_17 dX5_load_20
/-! X5_about: depth 6 -/
def f_X5_about_b10 (n : Nat) (x1 : Int32)   (c : CS) : Option (Int32 × CS × Int32) :=
  some ((1 : Int32), c, (0 : Int32))
set_option maxRecDepth 100000 in
set_option maxHeartbeats 4000000 in
theorem w_X5_about_b10 {E : zE} {X : zX} {h0 : Hp} {x : Nat} {n : Nat} {x1 : Int32}   (C : zC E X RX5 cX5_about 2 (some .int) 6) (CX : zCx X)  {c : CS} {r : (Int32 × CS × Int32)} (hf : f_X5_about_b10 n x1 c = some r) : zW E X 2 0 0 (vx_MQ (xb X) (zQr E r.1 (some (.int r.2.2)) (pC E h0 x r.2.1)) (zXC E (pC E h0 x r.2.1) r.1) (xa X) (xs X) 1 6 (zA E)) 10 (pC E h0 x c) [] [] := by
  unfold f_X5_about_b10 at hf
  obtain rfl := Option.some.inj hf
  exact z_throwS (text := "no such number") C CX (1 : Int32) rfl (by decide) (by decide +kernel) (by decide) (by decide +kernel) kl_X5_43 ini_IllegalArgumentException (by decide +kernel) (by decide +kernel) (by decide +kernel) (Nat.le_of_ble_eq_true rfl) dX5_about_10 dX5_about_13 dX5_about_14 dX5_about_16 dX5_about_19
def f_X5_about (n : Nat) (c : CS) (x1 : Int32) : Option (Int32 × CS × Int32) :=
  if x1 < 0 then (f_X5_about_b10 n x1 c) else (if x1 ≤ (11 : Int32) then ((f_X0_numberOfGame n (c.2.2 0) x1).bind (fun q25 => some ((0 : Int32), c, q25))) else (f_X5_about_b10 n x1 c))
set_option maxRecDepth 100000 in
set_option maxHeartbeats 4000000 in
theorem ct_X5_about {E : zE} {l : Launch} {h0 : Hp} {x : Nat} {n : Nat} {c : CS} {x1 : Int32} {r : (Int32 × CS × Int32)} (hst : l.stackTraces = false) (hf : f_X5_about n c x1 = some r) : zMX E l 6 yX5_about cX5_about 2 (some .int) [.ref x, .int x1] (pC E h0 x c) r.1 (some (.int r.2.2)) (pC E h0 x r.2.1) := by
  refine zMX_of (lv := [(0, .ref x), (1, .int x1)]) hst (by decide +kernel) (Nat.le_of_ble_eq_true rfl) rfl (fun X hX C CX => ?_)
  subst hX
  replace C : zC E X RX5 cX5_about 2 (some .int) 6 := C
  unfold f_X5_about at hf
  refine z_iload_n C dX5_about_0 1 rfl ?_
  refine z_if_lt C 10 dX5_about_1 (by decide) (fun c1 => ?_) (fun c1 => ?_)
  · replace hf := ip c1 hf
    exact z_sub [] rfl (w_X5_about_b10 C CX hf)
  · replace hf := iN c1 hf
    refine z_iload_n C dX5_about_4 1 rfl ?_
    refine z_bipush C (11 : Int32) dX5_about_5 (by decide) ?_
    refine z_icmp_le C 20 dX5_about_7 (by decide) (fun c7 => ?_) (fun c7 => ?_)
    · replace hf := ip c7 hf
      refine z_aload_n C dX5_about_20 0 rfl ?_
      refine gf_X5_19 C dX5_about_21 ?_
      refine z_iload_n C dX5_about_24 1 rfl ?_
      obtain ⟨q25, hq25, hf⟩ := bd_some hf
      refine z_heap (pC_G (i := 0) (by decide)) ?_
      refine iv_X5_122 C [.int x1] [] (ct_X0_numberOfGame hq25) pG_o rfl (by decide) rfl (Nat.le_of_ble_eq_true rfl) z_k0 dX5_about_25 ?_
      refine z_heap (pC_G (i := 0) (by decide)).symm ?_
      obtain rfl := Option.some.inj hf
      exact z_xireturn C dX5_about_28
    · replace hf := iN c7 hf
      exact z_sub [] rfl (w_X5_about_b10 C CX hf)
/-! X5_tileOf: depth 6 -/
def f_X5_tileOf_b26 (n : Nat) (x1 : Int32) (x2 : Int32)   (c : CS) : Option (Int32 × CS × Int32) :=
  some ((1 : Int32), c, (0 : Int32))
set_option maxRecDepth 100000 in
set_option maxHeartbeats 4000000 in
theorem w_X5_tileOf_b26 {E : zE} {X : zX} {h0 : Hp} {x : Nat} {n : Nat} {x1 : Int32} {x2 : Int32}   (C : zC E X RX5 cX5_tileOf 3 (some .int) 6) (CX : zCx X)  {c : CS} {r : (Int32 × CS × Int32)} (hf : f_X5_tileOf_b26 n x1 x2 c = some r) : zW E X 3 0 0 (vx_MQ (xb X) (zQr E r.1 (some (.int r.2.2)) (pC E h0 x r.2.1)) (zXC E (pC E h0 x r.2.1) r.1) (xa X) (xs X) 1 6 (zA E)) 26 (pC E h0 x c) [] [] := by
  unfold f_X5_tileOf_b26 at hf
  obtain rfl := Option.some.inj hf
  exact z_throwS (text := "no such number") C CX (1 : Int32) rfl (by decide) (by decide +kernel) (by decide) (by decide +kernel) kl_X5_43 ini_IllegalArgumentException (by decide +kernel) (by decide +kernel) (by decide +kernel) (Nat.le_of_ble_eq_true rfl) dX5_tileOf_26 dX5_tileOf_29 dX5_tileOf_30 dX5_tileOf_32 dX5_tileOf_35
def f_X5_tileOf (n : Nat) (c : CS) (x1 : Int32) (x2 : Int32) : Option (Int32 × CS × Int32) :=
  (f_X5_isTile x1).bind (fun q1 => if q1 = 0 then (some ((3 : Int32), c, (0 : Int32))) else (if x2 < 0 then (f_X5_tileOf_b26 n x1 x2 c) else (if x2 ≤ (4 : Int32) then ((f_X0_numberOfTile n (c.2.2 0) x1 x2).bind (fun q42 => some ((0 : Int32), c, q42))) else (f_X5_tileOf_b26 n x1 x2 c))))
set_option maxRecDepth 100000 in
set_option maxHeartbeats 4000000 in
theorem ct_X5_tileOf {E : zE} {l : Launch} {h0 : Hp} {x : Nat} {n : Nat} {c : CS} {x1 : Int32} {x2 : Int32} {r : (Int32 × CS × Int32)} (hst : l.stackTraces = false) (hf : f_X5_tileOf n c x1 x2 = some r) : zMX E l 6 yX5_tileOf cX5_tileOf 3 (some .int) [.ref x, .int x1, .int x2] (pC E h0 x c) r.1 (some (.int r.2.2)) (pC E h0 x r.2.1) := by
  refine zMX_of (lv := [(0, .ref x), (1, .int x1), (2, .int x2)]) hst (by decide +kernel) (Nat.le_of_ble_eq_true rfl) rfl (fun X hX C CX => ?_)
  subst hX
  replace C : zC E X RX5 cX5_tileOf 3 (some .int) 6 := C
  unfold f_X5_tileOf at hf
  refine z_iload_n C dX5_tileOf_0 1 rfl ?_
  obtain ⟨q1, hq1, hf⟩ := bd_some hf
  refine iv_X5_125 C [.int x1] [] (ct_X5_isTile hq1) rfl (by decide) rfl (Nat.le_of_ble_eq_true rfl) z_k0 dX5_tileOf_1 ?_
  refine z_if_ne C 17 dX5_tileOf_4 (by decide) (fun c4 => ?_) (fun c4 => ?_)
  · replace hf := iN c4 hf
    refine z_iload_n C dX5_tileOf_17 2 rfl ?_
    refine z_if_lt C 26 dX5_tileOf_18 (by decide) (fun c18 => ?_) (fun c18 => ?_)
    · replace hf := ip c18 hf
      exact z_sub [] rfl (w_X5_tileOf_b26 C CX hf)
    · replace hf := iN c18 hf
      refine z_iload_n C dX5_tileOf_21 2 rfl ?_
      refine z_iconst C (4 : Int32) dX5_tileOf_22 (by decide) ?_
      refine z_icmp_le C 36 dX5_tileOf_23 (by decide) (fun c23 => ?_) (fun c23 => ?_)
      · replace hf := ip c23 hf
        refine z_aload_n C dX5_tileOf_36 0 rfl ?_
        refine gf_X5_19 C dX5_tileOf_37 ?_
        refine z_iload_n C dX5_tileOf_40 1 rfl ?_
        refine z_iload_n C dX5_tileOf_41 2 rfl ?_
        obtain ⟨q42, hq42, hf⟩ := bd_some hf
        refine z_heap (pC_G (i := 0) (by decide)) ?_
        refine iv_X5_133 C [.int x1, .int x2] [] (ct_X0_numberOfTile hq42) pG_o rfl (by decide) rfl (Nat.le_of_ble_eq_true rfl) z_k0 dX5_tileOf_42 ?_
        refine z_heap (pC_G (i := 0) (by decide)).symm ?_
        obtain rfl := Option.some.inj hf
        exact z_xireturn C dX5_tileOf_45
      · replace hf := iN c23 hf
        exact z_sub [] rfl (w_X5_tileOf_b26 C CX hf)
  · replace hf := ip c4 hf
    obtain rfl := Option.some.inj hf
    exact z_throwS (text := "no such tile") C CX (3 : Int32) rfl (by decide) (by decide +kernel) (by decide) (by decide +kernel) kl_X5_128 ini_IndexOutOfBoundsException (by decide +kernel) (by decide +kernel) (by decide +kernel) (Nat.le_of_ble_eq_true rfl) dX5_tileOf_7 dX5_tileOf_10 dX5_tileOf_11 dX5_tileOf_13 dX5_tileOf_16
/-! X5_laid: depth 6 -/
def f_X5_laid_b18 (x1 : Int32) (x2 : Int32)   (c : CS) : Option (Int32 × CS × Int32) :=
  some ((3 : Int32), c, (0 : Int32))
set_option maxRecDepth 100000 in
set_option maxHeartbeats 4000000 in
theorem w_X5_laid_b18 {E : zE} {X : zX} {h0 : Hp} {x : Nat} {x1 : Int32} {x2 : Int32}   (C : zC E X RX5 cX5_laid 3 (some .int) 6) (CX : zCx X)  {c : CS} {r : (Int32 × CS × Int32)} (hf : f_X5_laid_b18 x1 x2 c = some r) : zW E X 3 0 0 (vx_MQ (xb X) (zQr E r.1 (some (.int r.2.2)) (pC E h0 x r.2.1)) (zXC E (pC E h0 x r.2.1) r.1) (xa X) (xs X) 1 6 (zA E)) 18 (pC E h0 x c) [] [] := by
  unfold f_X5_laid_b18 at hf
  obtain rfl := Option.some.inj hf
  exact z_throwS (text := "not so many tiles are on the table") C CX (3 : Int32) rfl (by decide) (by decide +kernel) (by decide) (by decide +kernel) kl_X5_128 ini_IndexOutOfBoundsException (by decide +kernel) (by decide +kernel) (by decide +kernel) (Nat.le_of_ble_eq_true rfl) dX5_laid_18 dX5_laid_21 dX5_laid_22 dX5_laid_24 dX5_laid_27
def f_X5_laid_b37 (x1 : Int32) (x2 : Int32)   (c : CS) : Option (Int32 × CS × Int32) :=
  some ((1 : Int32), c, (0 : Int32))
set_option maxRecDepth 100000 in
set_option maxHeartbeats 4000000 in
theorem w_X5_laid_b37 {E : zE} {X : zX} {h0 : Hp} {x : Nat} {x1 : Int32} {x2 : Int32}   (C : zC E X RX5 cX5_laid 3 (some .int) 6) (CX : zCx X)  {c : CS} {r : (Int32 × CS × Int32)} (hf : f_X5_laid_b37 x1 x2 c = some r) : zW E X 3 0 0 (vx_MQ (xb X) (zQr E r.1 (some (.int r.2.2)) (pC E h0 x r.2.1)) (zXC E (pC E h0 x r.2.1) r.1) (xa X) (xs X) 1 6 (zA E)) 37 (pC E h0 x c) [] [] := by
  unfold f_X5_laid_b37 at hf
  obtain rfl := Option.some.inj hf
  exact z_throwS (text := "no such number") C CX (1 : Int32) rfl (by decide) (by decide +kernel) (by decide) (by decide +kernel) kl_X5_43 ini_IllegalArgumentException (by decide +kernel) (by decide +kernel) (by decide +kernel) (Nat.le_of_ble_eq_true rfl) dX5_laid_37 dX5_laid_40 dX5_laid_41 dX5_laid_43 dX5_laid_46
def f_X5_laid (c : CS) (x1 : Int32) (x2 : Int32) : Option (Int32 × CS × Int32) :=
  if x1 < 0 then (f_X5_laid_b18 x1 x2 c) else ((f_X0_line (c.2.2 0)).bind (fun q9 => (f_X2_size (c.2.2 0)).bind (fun q12 => if x1 < q12 then (if x2 < 0 then (f_X5_laid_b37 x1 x2 c) else (if x2 ≤ (5 : Int32) then ((f_X0_line (c.2.2 0)).bind (fun q51 => (f_X2_numberOfPlace (c.2.2 0) x1 x2).bind (fun q56 => some ((0 : Int32), c, q56)))) else (f_X5_laid_b37 x1 x2 c))) else (f_X5_laid_b18 x1 x2 c))))
set_option maxRecDepth 100000 in
set_option maxHeartbeats 4000000 in
theorem ct_X5_laid {E : zE} {l : Launch} {h0 : Hp} {x : Nat} {c : CS} {x1 : Int32} {x2 : Int32} {r : (Int32 × CS × Int32)} (hst : l.stackTraces = false) (hf : f_X5_laid c x1 x2 = some r) : zMX E l 6 yX5_laid cX5_laid 3 (some .int) [.ref x, .int x1, .int x2] (pC E h0 x c) r.1 (some (.int r.2.2)) (pC E h0 x r.2.1) := by
  refine zMX_of (lv := [(0, .ref x), (1, .int x1), (2, .int x2)]) hst (by decide +kernel) (Nat.le_of_ble_eq_true rfl) rfl (fun X hX C CX => ?_)
  subst hX
  replace C : zC E X RX5 cX5_laid 3 (some .int) 6 := C
  unfold f_X5_laid at hf
  refine z_iload_n C dX5_laid_0 1 rfl ?_
  refine z_if_lt C 18 dX5_laid_1 (by decide) (fun c1 => ?_) (fun c1 => ?_)
  · replace hf := ip c1 hf
    exact z_sub [] rfl (w_X5_laid_b18 C CX hf)
  · replace hf := iN c1 hf
    refine z_iload_n C dX5_laid_4 1 rfl ?_
    refine z_aload_n C dX5_laid_5 0 rfl ?_
    refine gf_X5_19 C dX5_laid_6 ?_
    obtain ⟨q9, hq9, hf⟩ := bd_some hf
    refine z_heap (pC_G (i := 0) (by decide)) ?_
    refine iv_X5_137 C [] [.int x1] (ct_X0_line hq9) pG_o rfl (by decide) rfl (Nat.le_of_ble_eq_true rfl) z_k0 dX5_laid_9 ?_
    refine z_heap (pC_G (i := 0) (by decide)).symm ?_
    obtain ⟨q12, hq12, hf⟩ := bd_some hf
    refine z_heap (pC_G (i := 0) (by decide)) ?_
    refine iv_X5_141 C [] [.int x1] (ct_X2_size hq12) pG_l rfl (by decide) rfl (Nat.le_of_ble_eq_true rfl) z_k0 dX5_laid_12 ?_
    refine z_heap (pC_G (i := 0) (by decide)).symm ?_
    refine z_icmp_lt C 28 dX5_laid_15 (by decide) (fun c15 => ?_) (fun c15 => ?_)
    · replace hf := ip c15 hf
      refine z_iload_n C dX5_laid_28 2 rfl ?_
      refine z_if_lt C 37 dX5_laid_29 (by decide) (fun c29 => ?_) (fun c29 => ?_)
      · replace hf := ip c29 hf
        exact z_sub [] rfl (w_X5_laid_b37 C CX hf)
      · replace hf := iN c29 hf
        refine z_iload_n C dX5_laid_32 2 rfl ?_
        refine z_iconst C (5 : Int32) dX5_laid_33 (by decide) ?_
        refine z_icmp_le C 47 dX5_laid_34 (by decide) (fun c34 => ?_) (fun c34 => ?_)
        · replace hf := ip c34 hf
          refine z_aload_n C dX5_laid_47 0 rfl ?_
          refine gf_X5_19 C dX5_laid_48 ?_
          obtain ⟨q51, hq51, hf⟩ := bd_some hf
          refine z_heap (pC_G (i := 0) (by decide)) ?_
          refine iv_X5_137 C [] [] (ct_X0_line hq51) pG_o rfl (by decide) rfl (Nat.le_of_ble_eq_true rfl) z_k0 dX5_laid_51 ?_
          refine z_heap (pC_G (i := 0) (by decide)).symm ?_
          refine z_iload_n C dX5_laid_54 1 rfl ?_
          refine z_iload_n C dX5_laid_55 2 rfl ?_
          obtain ⟨q56, hq56, hf⟩ := bd_some hf
          refine z_heap (pC_G (i := 0) (by decide)) ?_
          refine iv_X5_146 C [.int x1, .int x2] [] (ct_X2_numberOfPlace hq56) pG_l rfl (by decide) rfl (Nat.le_of_ble_eq_true rfl) z_k0 dX5_laid_56 ?_
          refine z_heap (pC_G (i := 0) (by decide)).symm ?_
          obtain rfl := Option.some.inj hf
          exact z_xireturn C dX5_laid_59
        · replace hf := iN c34 hf
          exact z_sub [] rfl (w_X5_laid_b37 C CX hf)
    · replace hf := iN c15 hf
      exact z_sub [] rfl (w_X5_laid_b18 C CX hf)
/-! X5_playerOf: depth 6 -/
def f_X5_playerOf_b26 (n : Nat) (x1 : Int32) (x2 : Int32)   (c : CS) : Option (Int32 × CS × Int32) :=
  some ((1 : Int32), c, (0 : Int32))
set_option maxRecDepth 100000 in
set_option maxHeartbeats 4000000 in
theorem w_X5_playerOf_b26 {E : zE} {X : zX} {h0 : Hp} {x : Nat} {n : Nat} {x1 : Int32} {x2 : Int32}   (C : zC E X RX5 cX5_playerOf 3 (some .int) 6) (CX : zCx X)  {c : CS} {r : (Int32 × CS × Int32)} (hf : f_X5_playerOf_b26 n x1 x2 c = some r) : zW E X 3 0 0 (vx_MQ (xb X) (zQr E r.1 (some (.int r.2.2)) (pC E h0 x r.2.1)) (zXC E (pC E h0 x r.2.1) r.1) (xa X) (xs X) 1 6 (zA E)) 26 (pC E h0 x c) [] [] := by
  unfold f_X5_playerOf_b26 at hf
  obtain rfl := Option.some.inj hf
  exact z_throwS (text := "no such number") C CX (1 : Int32) rfl (by decide) (by decide +kernel) (by decide) (by decide +kernel) kl_X5_43 ini_IllegalArgumentException (by decide +kernel) (by decide +kernel) (by decide +kernel) (Nat.le_of_ble_eq_true rfl) dX5_playerOf_26 dX5_playerOf_29 dX5_playerOf_30 dX5_playerOf_32 dX5_playerOf_35
def f_X5_playerOf (n : Nat) (c : CS) (x1 : Int32) (x2 : Int32) : Option (Int32 × CS × Int32) :=
  (f_X5_isPlayer x1).bind (fun q1 => if q1 = 0 then (some ((3 : Int32), c, (0 : Int32))) else (if x2 < 0 then (f_X5_playerOf_b26 n x1 x2 c) else (if x2 ≤ (3 : Int32) then ((f_X0_numberOfPlayer n (c.2.2 0) x1 x2).bind (fun q42 => some ((0 : Int32), c, q42))) else (f_X5_playerOf_b26 n x1 x2 c))))
set_option maxRecDepth 100000 in
set_option maxHeartbeats 4000000 in
theorem ct_X5_playerOf {E : zE} {l : Launch} {h0 : Hp} {x : Nat} {n : Nat} {c : CS} {x1 : Int32} {x2 : Int32} {r : (Int32 × CS × Int32)} (hst : l.stackTraces = false) (hf : f_X5_playerOf n c x1 x2 = some r) : zMX E l 6 yX5_playerOf cX5_playerOf 3 (some .int) [.ref x, .int x1, .int x2] (pC E h0 x c) r.1 (some (.int r.2.2)) (pC E h0 x r.2.1) := by
  refine zMX_of (lv := [(0, .ref x), (1, .int x1), (2, .int x2)]) hst (by decide +kernel) (Nat.le_of_ble_eq_true rfl) rfl (fun X hX C CX => ?_)
  subst hX
  replace C : zC E X RX5 cX5_playerOf 3 (some .int) 6 := C
  unfold f_X5_playerOf at hf
  refine z_iload_n C dX5_playerOf_0 1 rfl ?_
  obtain ⟨q1, hq1, hf⟩ := bd_some hf
  refine iv_X5_149 C [.int x1] [] (ct_X5_isPlayer hq1) rfl (by decide) rfl (Nat.le_of_ble_eq_true rfl) z_k0 dX5_playerOf_1 ?_
  refine z_if_ne C 17 dX5_playerOf_4 (by decide) (fun c4 => ?_) (fun c4 => ?_)
  · replace hf := iN c4 hf
    refine z_iload_n C dX5_playerOf_17 2 rfl ?_
    refine z_if_lt C 26 dX5_playerOf_18 (by decide) (fun c18 => ?_) (fun c18 => ?_)
    · replace hf := ip c18 hf
      exact z_sub [] rfl (w_X5_playerOf_b26 C CX hf)
    · replace hf := iN c18 hf
      refine z_iload_n C dX5_playerOf_21 2 rfl ?_
      refine z_iconst C (3 : Int32) dX5_playerOf_22 (by decide) ?_
      refine z_icmp_le C 36 dX5_playerOf_23 (by decide) (fun c23 => ?_) (fun c23 => ?_)
      · replace hf := ip c23 hf
        refine z_aload_n C dX5_playerOf_36 0 rfl ?_
        refine gf_X5_19 C dX5_playerOf_37 ?_
        refine z_iload_n C dX5_playerOf_40 1 rfl ?_
        refine z_iload_n C dX5_playerOf_41 2 rfl ?_
        obtain ⟨q42, hq42, hf⟩ := bd_some hf
        refine z_heap (pC_G (i := 0) (by decide)) ?_
        refine iv_X5_154 C [.int x1, .int x2] [] (ct_X0_numberOfPlayer hq42) pG_o rfl (by decide) rfl (Nat.le_of_ble_eq_true rfl) z_k0 dX5_playerOf_42 ?_
        refine z_heap (pC_G (i := 0) (by decide)).symm ?_
        obtain rfl := Option.some.inj hf
        exact z_xireturn C dX5_playerOf_45
      · replace hf := iN c23 hf
        exact z_sub [] rfl (w_X5_playerOf_b26 C CX hf)
  · replace hf := ip c4 hf
    obtain rfl := Option.some.inj hf
    exact z_throwS (text := "no such player") C CX (3 : Int32) rfl (by decide) (by decide +kernel) (by decide) (by decide +kernel) kl_X5_128 ini_IndexOutOfBoundsException (by decide +kernel) (by decide +kernel) (by decide +kernel) (Nat.le_of_ble_eq_true rfl) dX5_playerOf_7 dX5_playerOf_10 dX5_playerOf_11 dX5_playerOf_13 dX5_playerOf_16
/-! X5_at: depth 6 -/
def f_X5_at (n : Nat) (c : CS) (x1 : Int32) (x2 : Int32) : Option (Int32 × CS × Int32) :=
  (f_X5_isCell x1 x2).bind (fun q2 => if q2 = 0 then (some ((3 : Int32), c, (0 : Int32))) else ((f_X0_line (c.2.2 0)).bind (fun q22 => (f_X2_pipsAt n (c.2.2 0) x1 x2).bind (fun q27 => some ((0 : Int32), c, q27)))))
set_option maxRecDepth 100000 in
set_option maxHeartbeats 4000000 in
theorem ct_X5_at {E : zE} {l : Launch} {h0 : Hp} {x : Nat} {n : Nat} {c : CS} {x1 : Int32} {x2 : Int32} {r : (Int32 × CS × Int32)} (hst : l.stackTraces = false) (hf : f_X5_at n c x1 x2 = some r) : zMX E l 6 yX5_at cX5_at 3 (some .int) [.ref x, .int x1, .int x2] (pC E h0 x c) r.1 (some (.int r.2.2)) (pC E h0 x r.2.1) := by
  refine zMX_of (lv := [(0, .ref x), (1, .int x1), (2, .int x2)]) hst (by decide +kernel) (Nat.le_of_ble_eq_true rfl) rfl (fun X hX C CX => ?_)
  subst hX
  replace C : zC E X RX5 cX5_at 3 (some .int) 6 := C
  unfold f_X5_at at hf
  refine z_iload_n C dX5_at_0 1 rfl ?_
  refine z_iload_n C dX5_at_1 2 rfl ?_
  obtain ⟨q2, hq2, hf⟩ := bd_some hf
  refine iv_X5_157 C [.int x1, .int x2] [] (ct_X5_isCell hq2) rfl (by decide) rfl (Nat.le_of_ble_eq_true rfl) z_k0 dX5_at_2 ?_
  refine z_if_ne C 18 dX5_at_5 (by decide) (fun c5 => ?_) (fun c5 => ?_)
  · replace hf := iN c5 hf
    refine z_aload_n C dX5_at_18 0 rfl ?_
    refine gf_X5_19 C dX5_at_19 ?_
    obtain ⟨q22, hq22, hf⟩ := bd_some hf
    refine z_heap (pC_G (i := 0) (by decide)) ?_
    refine iv_X5_137 C [] [] (ct_X0_line hq22) pG_o rfl (by decide) rfl (Nat.le_of_ble_eq_true rfl) z_k0 dX5_at_22 ?_
    refine z_heap (pC_G (i := 0) (by decide)).symm ?_
    refine z_iload_n C dX5_at_25 1 rfl ?_
    refine z_iload_n C dX5_at_26 2 rfl ?_
    obtain ⟨q27, hq27, hf⟩ := bd_some hf
    refine z_heap (pC_G (i := 0) (by decide)) ?_
    refine iv_X5_162 C [.int x1, .int x2] [] (ct_X2_pipsAt hq27) pG_l rfl (by decide) rfl (Nat.le_of_ble_eq_true rfl) z_k0 dX5_at_27 ?_
    refine z_heap (pC_G (i := 0) (by decide)).symm ?_
    obtain rfl := Option.some.inj hf
    exact z_xireturn C dX5_at_30
  · replace hf := ip c5 hf
    obtain rfl := Option.some.inj hf
    exact z_throwS (text := "no such cell") C CX (3 : Int32) rfl (by decide) (by decide +kernel) (by decide) (by decide +kernel) kl_X5_128 ini_IndexOutOfBoundsException (by decide +kernel) (by decide +kernel) (by decide +kernel) (Nat.le_of_ble_eq_true rfl) dX5_at_8 dX5_at_11 dX5_at_12 dX5_at_14 dX5_at_17
/-! X5_free: depth 6 -/
def f_X5_free_b19 (n : Nat) (x1 : Int32)   (c : CS) : Option (Int32 × CS × Int32) :=
  if x1 = 0 then ((f_X0_line (c.2.2 0)).bind (fun q27 => (f_X2_freeByCells n (c.2.2 0)).bind (fun q30 => some ((0 : Int32), c, q30)))) else ((f_X0_line (c.2.2 0)).bind (fun q40 => (f_X2_freeByTiles (c.2.2 0)).bind (fun q43 => some ((0 : Int32), c, q43))))
set_option maxRecDepth 100000 in
set_option maxHeartbeats 4000000 in
theorem w_X5_free_b19 {E : zE} {X : zX} {h0 : Hp} {x : Nat} {n : Nat} {x1 : Int32}   (C : zC E X RX5 cX5_free 2 (some .int) 6) (CX : zCx X)  {c : CS} {r : (Int32 × CS × Int32)} (hf : f_X5_free_b19 n x1 c = some r) : zW E X 2 0 0 (vx_MQ (xb X) (zQr E r.1 (some (.int r.2.2)) (pC E h0 x r.2.1)) (zXC E (pC E h0 x r.2.1) r.1) (xa X) (xs X) 1 6 (zA E)) 19 (pC E h0 x c) [(0, .ref x), (1, .int x1)] [] := by
  unfold f_X5_free_b19 at hf
  refine z_iload_n C dX5_free_19 1 rfl ?_
  refine z_if_ne C 36 dX5_free_20 (by decide) (fun c20 => ?_) (fun c20 => ?_)
  · replace hf := iN c20 hf
    refine z_aload_n C dX5_free_36 0 rfl ?_
    refine gf_X5_19 C dX5_free_37 ?_
    obtain ⟨q40, hq40, hf⟩ := bd_some hf
    refine z_heap (pC_G (i := 0) (by decide)) ?_
    refine iv_X5_137 C [] [] (ct_X0_line hq40) pG_o rfl (by decide) rfl (Nat.le_of_ble_eq_true rfl) z_k0 dX5_free_40 ?_
    refine z_heap (pC_G (i := 0) (by decide)).symm ?_
    obtain ⟨q43, hq43, hf⟩ := bd_some hf
    refine z_heap (pC_G (i := 0) (by decide)) ?_
    refine iv_X5_170 C [] [] (ct_X2_freeByTiles hq43) pG_l rfl (by decide) rfl (Nat.le_of_ble_eq_true rfl) z_k0 dX5_free_43 ?_
    refine z_heap (pC_G (i := 0) (by decide)).symm ?_
    obtain rfl := Option.some.inj hf
    exact z_xireturn C dX5_free_46
  · replace hf := ip c20 hf
    refine z_aload_n C dX5_free_23 0 rfl ?_
    refine gf_X5_19 C dX5_free_24 ?_
    obtain ⟨q27, hq27, hf⟩ := bd_some hf
    refine z_heap (pC_G (i := 0) (by decide)) ?_
    refine iv_X5_137 C [] [] (ct_X0_line hq27) pG_o rfl (by decide) rfl (Nat.le_of_ble_eq_true rfl) z_k0 dX5_free_27 ?_
    refine z_heap (pC_G (i := 0) (by decide)).symm ?_
    obtain ⟨q30, hq30, hf⟩ := bd_some hf
    refine z_heap (pC_G (i := 0) (by decide)) ?_
    refine iv_X5_167 C [] [] (ct_X2_freeByCells hq30) pG_l rfl (by decide) rfl (Nat.le_of_ble_eq_true rfl) z_k0 dX5_free_30 ?_
    refine z_heap (pC_G (i := 0) (by decide)).symm ?_
    refine z_goto C 46 dX5_free_33 (by decide) ?_
    obtain rfl := Option.some.inj hf
    exact z_xireturn C dX5_free_46
def f_X5_free (n : Nat) (c : CS) (x1 : Int32) : Option (Int32 × CS × Int32) :=
  if x1 = 0 then (f_X5_free_b19 n x1 c) else (if x1 = (1 : Int32) then (f_X5_free_b19 n x1 c) else (some ((1 : Int32), c, (0 : Int32))))
set_option maxRecDepth 100000 in
set_option maxHeartbeats 4000000 in
theorem ct_X5_free {E : zE} {l : Launch} {h0 : Hp} {x : Nat} {n : Nat} {c : CS} {x1 : Int32} {r : (Int32 × CS × Int32)} (hst : l.stackTraces = false) (hf : f_X5_free n c x1 = some r) : zMX E l 6 yX5_free cX5_free 2 (some .int) [.ref x, .int x1] (pC E h0 x c) r.1 (some (.int r.2.2)) (pC E h0 x r.2.1) := by
  refine zMX_of (lv := [(0, .ref x), (1, .int x1)]) hst (by decide +kernel) (Nat.le_of_ble_eq_true rfl) rfl (fun X hX C CX => ?_)
  subst hX
  replace C : zC E X RX5 cX5_free 2 (some .int) 6 := C
  unfold f_X5_free at hf
  refine z_iload_n C dX5_free_0 1 rfl ?_
  refine z_if_eq C 19 dX5_free_1 (by decide) (fun c1 => ?_) (fun c1 => ?_)
  · replace hf := ip c1 hf
    exact z_sub [0, 1] rfl (w_X5_free_b19 C CX hf)
  · replace hf := iN c1 hf
    refine z_iload_n C dX5_free_4 1 rfl ?_
    refine z_iconst C (1 : Int32) dX5_free_5 (by decide) ?_
    refine z_icmp_eq C 19 dX5_free_6 (by decide) (fun c6 => ?_) (fun c6 => ?_)
    · replace hf := ip c6 hf
      exact z_sub [0, 1] rfl (w_X5_free_b19 C CX hf)
    · replace hf := iN c6 hf
      obtain rfl := Option.some.inj hf
      exact z_throwS (text := "no such way") C CX (1 : Int32) rfl (by decide) (by decide +kernel) (by decide) (by decide +kernel) kl_X5_43 ini_IllegalArgumentException (by decide +kernel) (by decide +kernel) (by decide +kernel) (Nat.le_of_ble_eq_true rfl) dX5_free_9 dX5_free_12 dX5_free_13 dX5_free_15 dX5_free_18
/-! X5_deal: depth 6 -/
def f_X5_deal (n : Nat) (c : CS) (x1 : Int32) (y2 : Int64) : Option (Int32 × CS × Int32) :=
  (f_X5_isNumberOfPlayers x1).bind (fun q1 => if q1 = 0 then (some ((1 : Int32), c, (0 : Int32))) else ((f_X1_remember c).bind (fun q25 => (f_X0_startRound n (q25.2.2 0) x1 y2).bind (fun q34 => (f_X0_roundsSoFar ((cG q25 0 q34.1).2.2 0)).bind (fun q42 => some ((0 : Int32), cG q25 0 q34.1, q42))))))
set_option maxRecDepth 100000 in
set_option maxHeartbeats 4000000 in
theorem ct_X5_deal {E : zE} {l : Launch} {h0 : Hp} {x : Nat} {n : Nat} {c : CS} {x1 : Int32} {y2 : Int64} {r : (Int32 × CS × Int32)} (hst : l.stackTraces = false) (hf : f_X5_deal n c x1 y2 = some r) : zMX E l 6 yX5_deal cX5_deal 4 (some .int) [.ref x, .int x1, .long y2] (pC E h0 x c) r.1 (some (.int r.2.2)) (pC E h0 x r.2.1) := by
  refine zMX_of (lv := [(0, .ref x), (1, .int x1), (2, .long y2)]) hst (by decide +kernel) (Nat.le_of_ble_eq_true rfl) rfl (fun X hX C CX => ?_)
  subst hX
  replace C : zC E X RX5 cX5_deal 4 (some .int) 6 := C
  unfold f_X5_deal at hf
  refine z_iload_n C dX5_deal_0 1 rfl ?_
  obtain ⟨q1, hq1, hf⟩ := bd_some hf
  refine iv_X5_173 C [.int x1] [] (ct_X5_isNumberOfPlayers hq1) rfl (by decide) rfl (Nat.le_of_ble_eq_true rfl) z_k0 dX5_deal_1 ?_
  refine z_if_ne C 17 dX5_deal_4 (by decide) (fun c4 => ?_) (fun c4 => ?_)
  · replace hf := iN c4 hf
    refine z_aload_n C dX5_deal_17 0 rfl ?_
    refine gf_X5_29 C dX5_deal_18 ?_
    refine z_aload_n C dX5_deal_21 0 rfl ?_
    refine gf_X5_19 C dX5_deal_22 ?_
    obtain ⟨q25, hq25, hf⟩ := bd_some hf
    refine iv_X5_178 C [.ref (x + ga 0)] [] (ct_X1_remember hq25) pC_h rfl (by decide) rfl (Nat.le_of_ble_eq_true rfl) z_k0 dX5_deal_25 ?_
    refine z_aload_n C dX5_deal_28 0 rfl ?_
    refine gf_X5_19 C dX5_deal_29 ?_
    refine z_iload_n C dX5_deal_32 1 rfl ?_
    refine z_lload_n C dX5_deal_33 2 rfl ?_
    obtain ⟨q34, hq34, hf⟩ := bd_some hf
    refine z_heap (pC_G (i := 0) (by decide)) ?_
    refine iv_X5_103 C [.int x1, .long y2] [] (ct_X0_startRound hq34) pG_o rfl (by decide) rfl (Nat.le_of_ble_eq_true rfl) z_k0 dX5_deal_34 ?_
    refine z_heap (pC_G' (i := 0) (by decide) _) ?_
    refine z_pop C dX5_deal_37 rfl ?_
    refine z_aload_n C dX5_deal_38 0 rfl ?_
    refine gf_X5_19 C dX5_deal_39 ?_
    obtain ⟨q42, hq42, hf⟩ := bd_some hf
    refine z_heap (pC_G (i := 0) (by decide)) ?_
    refine iv_X5_182 C [] [] (ct_X0_roundsSoFar hq42) pG_o rfl (by decide) rfl (Nat.le_of_ble_eq_true rfl) z_k0 dX5_deal_42 ?_
    refine z_heap (pC_G (i := 0) (by decide)).symm ?_
    obtain rfl := Option.some.inj hf
    exact z_xireturn C dX5_deal_45
  · replace hf := ip c4 hf
    obtain rfl := Option.some.inj hf
    exact z_throwS (text := "not 2 to 4 players") C CX (1 : Int32) rfl (by decide) (by decide +kernel) (by decide) (by decide +kernel) kl_X5_43 ini_IllegalArgumentException (by decide +kernel) (by decide +kernel) (by decide +kernel) (Nat.le_of_ble_eq_true rfl) dX5_deal_7 dX5_deal_10 dX5_deal_11 dX5_deal_13 dX5_deal_16
/-! X5_play: depth 6 -/
def f_X5_play (n : Nat) (c : CS) (x1 : Int32) (x2 : Int32) : Option (Int32 × CS × Int32) :=
  (f_X5_isTile x1).bind (fun q1 => if q1 = 0 then (some ((3 : Int32), c, (0 : Int32))) else ((f_X0_isPlayed (c.2.2 0)).bind (fun q21 => if q21 = 0 then (some ((2 : Int32), c, (0 : Int32))) else ((f_X1_remember c).bind (fun q45 => (f_X0_layOrRefuse n (q45.2.2 0) x1 x2).bind (fun q54 => some ((0 : Int32), cG q45 0 q54.1, q54.2)))))))
set_option maxRecDepth 100000 in
set_option maxHeartbeats 4000000 in
theorem ct_X5_play {E : zE} {l : Launch} {h0 : Hp} {x : Nat} {n : Nat} {c : CS} {x1 : Int32} {x2 : Int32} {r : (Int32 × CS × Int32)} (hst : l.stackTraces = false) (hf : f_X5_play n c x1 x2 = some r) : zMX E l 6 yX5_play cX5_play 3 (some .int) [.ref x, .int x1, .int x2] (pC E h0 x c) r.1 (some (.int r.2.2)) (pC E h0 x r.2.1) := by
  refine zMX_of (lv := [(0, .ref x), (1, .int x1), (2, .int x2)]) hst (by decide +kernel) (Nat.le_of_ble_eq_true rfl) rfl (fun X hX C CX => ?_)
  subst hX
  replace C : zC E X RX5 cX5_play 3 (some .int) 6 := C
  unfold f_X5_play at hf
  refine z_iload_n C dX5_play_0 1 rfl ?_
  obtain ⟨q1, hq1, hf⟩ := bd_some hf
  refine iv_X5_125 C [.int x1] [] (ct_X5_isTile hq1) rfl (by decide) rfl (Nat.le_of_ble_eq_true rfl) z_k0 dX5_play_1 ?_
  refine z_if_ne C 17 dX5_play_4 (by decide) (fun c4 => ?_) (fun c4 => ?_)
  · replace hf := iN c4 hf
    refine z_aload_n C dX5_play_17 0 rfl ?_
    refine gf_X5_19 C dX5_play_18 ?_
    obtain ⟨q21, hq21, hf⟩ := bd_some hf
    refine z_heap (pC_G (i := 0) (by decide)) ?_
    refine iv_X5_185 C [] [] (ct_X0_isPlayed hq21) pG_o rfl (by decide) rfl (Nat.le_of_ble_eq_true rfl) z_k0 dX5_play_21 ?_
    refine z_heap (pC_G (i := 0) (by decide)).symm ?_
    refine z_if_ne C 37 dX5_play_24 (by decide) (fun c24 => ?_) (fun c24 => ?_)
    · replace hf := iN c24 hf
      refine z_aload_n C dX5_play_37 0 rfl ?_
      refine gf_X5_29 C dX5_play_38 ?_
      refine z_aload_n C dX5_play_41 0 rfl ?_
      refine gf_X5_19 C dX5_play_42 ?_
      obtain ⟨q45, hq45, hf⟩ := bd_some hf
      refine iv_X5_178 C [.ref (x + ga 0)] [] (ct_X1_remember hq45) pC_h rfl (by decide) rfl (Nat.le_of_ble_eq_true rfl) z_k0 dX5_play_45 ?_
      refine z_aload_n C dX5_play_48 0 rfl ?_
      refine gf_X5_19 C dX5_play_49 ?_
      refine z_iload_n C dX5_play_52 1 rfl ?_
      refine z_iload_n C dX5_play_53 2 rfl ?_
      obtain ⟨q54, hq54, hf⟩ := bd_some hf
      refine z_heap (pC_G (i := 0) (by decide)) ?_
      refine iv_X5_190 C [.int x1, .int x2] [] (ct_X0_layOrRefuse hq54) pG_o rfl (by decide) rfl (Nat.le_of_ble_eq_true rfl) z_k0 dX5_play_54 ?_
      refine z_heap (pC_G' (i := 0) (by decide) _) ?_
      obtain rfl := Option.some.inj hf
      exact z_xireturn C dX5_play_57
    · replace hf := ip c24 hf
      obtain rfl := Option.some.inj hf
      exact z_throwS (text := "no round is played") C CX (2 : Int32) rfl (by decide) (by decide +kernel) (by decide) (by decide +kernel) kl_X5_54 ini_IllegalStateException (by decide +kernel) (by decide +kernel) (by decide +kernel) (Nat.le_of_ble_eq_true rfl) dX5_play_27 dX5_play_30 dX5_play_31 dX5_play_33 dX5_play_36
  · replace hf := ip c4 hf
    obtain rfl := Option.some.inj hf
    exact z_throwS (text := "no such tile") C CX (3 : Int32) rfl (by decide) (by decide +kernel) (by decide) (by decide +kernel) kl_X5_128 ini_IndexOutOfBoundsException (by decide +kernel) (by decide +kernel) (by decide +kernel) (Nat.le_of_ble_eq_true rfl) dX5_play_7 dX5_play_10 dX5_play_11 dX5_play_13 dX5_play_16
/-! X5_draw: depth 6 -/
def f_X5_draw (c : CS) : Option (Int32 × CS × Int32) :=
  (f_X0_canTakeFromHeap (c.2.2 0)).bind (fun q4 => if q4 = 0 then (some ((2 : Int32), c, (0 : Int32))) else ((f_X1_remember c).bind (fun q28 => (f_X0_takeFromHeap (q28.2.2 0)).bind (fun q35 => some ((0 : Int32), cG q28 0 q35.1, q35.2)))))
set_option maxRecDepth 100000 in
set_option maxHeartbeats 4000000 in
theorem ct_X5_draw {E : zE} {l : Launch} {h0 : Hp} {x : Nat} {c : CS} {r : (Int32 × CS × Int32)} (hst : l.stackTraces = false) (hf : f_X5_draw c = some r) : zMX E l 6 yX5_draw cX5_draw 1 (some .int) [.ref x] (pC E h0 x c) r.1 (some (.int r.2.2)) (pC E h0 x r.2.1) := by
  refine zMX_of (lv := [(0, .ref x)]) hst (by decide +kernel) (Nat.le_of_ble_eq_true rfl) rfl (fun X hX C CX => ?_)
  subst hX
  replace C : zC E X RX5 cX5_draw 1 (some .int) 6 := C
  unfold f_X5_draw at hf
  refine z_aload_n C dX5_draw_0 0 rfl ?_
  refine gf_X5_19 C dX5_draw_1 ?_
  obtain ⟨q4, hq4, hf⟩ := bd_some hf
  refine z_heap (pC_G (i := 0) (by decide)) ?_
  refine iv_X5_194 C [] [] (ct_X0_canTakeFromHeap hq4) pG_o rfl (by decide) rfl (Nat.le_of_ble_eq_true rfl) z_k0 dX5_draw_4 ?_
  refine z_heap (pC_G (i := 0) (by decide)).symm ?_
  refine z_if_ne C 20 dX5_draw_7 (by decide) (fun c7 => ?_) (fun c7 => ?_)
  · replace hf := iN c7 hf
    refine z_aload_n C dX5_draw_20 0 rfl ?_
    refine gf_X5_29 C dX5_draw_21 ?_
    refine z_aload_n C dX5_draw_24 0 rfl ?_
    refine gf_X5_19 C dX5_draw_25 ?_
    obtain ⟨q28, hq28, hf⟩ := bd_some hf
    refine iv_X5_178 C [.ref (x + ga 0)] [] (ct_X1_remember hq28) pC_h rfl (by decide) rfl (Nat.le_of_ble_eq_true rfl) z_k0 dX5_draw_28 ?_
    refine z_aload_n C dX5_draw_31 0 rfl ?_
    refine gf_X5_19 C dX5_draw_32 ?_
    obtain ⟨q35, hq35, hf⟩ := bd_some hf
    refine z_heap (pC_G (i := 0) (by decide)) ?_
    refine iv_X5_111 C [] [] (ct_X0_takeFromHeap hq35) pG_o rfl (by decide) rfl (Nat.le_of_ble_eq_true rfl) z_k0 dX5_draw_35 ?_
    refine z_heap (pC_G' (i := 0) (by decide) _) ?_
    obtain rfl := Option.some.inj hf
    exact z_xireturn C dX5_draw_38
  · replace hf := ip c7 hf
    obtain rfl := Option.some.inj hf
    exact z_throwS (text := "no tile can be drawn") C CX (2 : Int32) rfl (by decide) (by decide +kernel) (by decide) (by decide +kernel) kl_X5_54 ini_IllegalStateException (by decide +kernel) (by decide +kernel) (by decide +kernel) (Nat.le_of_ble_eq_true rfl) dX5_draw_10 dX5_draw_13 dX5_draw_14 dX5_draw_16 dX5_draw_19
/-! X5_pass: depth 6 -/
def f_X5_pass (n : Nat) (c : CS) : Option (Int32 × CS × Int32) :=
  (f_X0_canSkipTurn (c.2.2 0)).bind (fun q4 => if q4 = 0 then (some ((2 : Int32), c, (0 : Int32))) else ((f_X1_remember c).bind (fun q28 => (f_X0_skipTurn n (q28.2.2 0)).bind (fun q35 => some ((0 : Int32), cG q28 0 q35.1, q35.2)))))
set_option maxRecDepth 100000 in
set_option maxHeartbeats 4000000 in
theorem ct_X5_pass {E : zE} {l : Launch} {h0 : Hp} {x : Nat} {n : Nat} {c : CS} {r : (Int32 × CS × Int32)} (hst : l.stackTraces = false) (hf : f_X5_pass n c = some r) : zMX E l 6 yX5_pass cX5_pass 1 (some .int) [.ref x] (pC E h0 x c) r.1 (some (.int r.2.2)) (pC E h0 x r.2.1) := by
  refine zMX_of (lv := [(0, .ref x)]) hst (by decide +kernel) (Nat.le_of_ble_eq_true rfl) rfl (fun X hX C CX => ?_)
  subst hX
  replace C : zC E X RX5 cX5_pass 1 (some .int) 6 := C
  unfold f_X5_pass at hf
  refine z_aload_n C dX5_pass_0 0 rfl ?_
  refine gf_X5_19 C dX5_pass_1 ?_
  obtain ⟨q4, hq4, hf⟩ := bd_some hf
  refine z_heap (pC_G (i := 0) (by decide)) ?_
  refine iv_X5_199 C [] [] (ct_X0_canSkipTurn hq4) pG_o rfl (by decide) rfl (Nat.le_of_ble_eq_true rfl) z_k0 dX5_pass_4 ?_
  refine z_heap (pC_G (i := 0) (by decide)).symm ?_
  refine z_if_ne C 20 dX5_pass_7 (by decide) (fun c7 => ?_) (fun c7 => ?_)
  · replace hf := iN c7 hf
    refine z_aload_n C dX5_pass_20 0 rfl ?_
    refine gf_X5_29 C dX5_pass_21 ?_
    refine z_aload_n C dX5_pass_24 0 rfl ?_
    refine gf_X5_19 C dX5_pass_25 ?_
    obtain ⟨q28, hq28, hf⟩ := bd_some hf
    refine iv_X5_178 C [.ref (x + ga 0)] [] (ct_X1_remember hq28) pC_h rfl (by decide) rfl (Nat.le_of_ble_eq_true rfl) z_k0 dX5_pass_28 ?_
    refine z_aload_n C dX5_pass_31 0 rfl ?_
    refine gf_X5_19 C dX5_pass_32 ?_
    obtain ⟨q35, hq35, hf⟩ := bd_some hf
    refine z_heap (pC_G (i := 0) (by decide)) ?_
    refine iv_X5_114 C [] [] (ct_X0_skipTurn hq35) pG_o rfl (by decide) rfl (Nat.le_of_ble_eq_true rfl) z_k0 dX5_pass_35 ?_
    refine z_heap (pC_G' (i := 0) (by decide) _) ?_
    obtain rfl := Option.some.inj hf
    exact z_xireturn C dX5_pass_38
  · replace hf := ip c7 hf
    obtain rfl := Option.some.inj hf
    exact z_throwS (text := "no player can pass") C CX (2 : Int32) rfl (by decide) (by decide +kernel) (by decide) (by decide +kernel) kl_X5_54 ini_IllegalStateException (by decide +kernel) (by decide +kernel) (by decide +kernel) (Nat.le_of_ble_eq_true rfl) dX5_pass_10 dX5_pass_13 dX5_pass_14 dX5_pass_16 dX5_pass_19
/-! X5_undo: depth 6 -/
def f_X5_undo (c : CS) : Option (Int32 × CS × Int32) :=
  (f_X1_size c).bind (fun q4 => if q4 = 0 then (some ((2 : Int32), c, (0 : Int32))) else ((f_X1_takeBack c).bind (fun q28 => some ((0 : Int32), q28.1, q28.2))))
set_option maxRecDepth 100000 in
set_option maxHeartbeats 4000000 in
theorem ct_X5_undo {E : zE} {l : Launch} {h0 : Hp} {x : Nat} {c : CS} {r : (Int32 × CS × Int32)} (hst : l.stackTraces = false) (hf : f_X5_undo c = some r) : zMX E l 6 yX5_undo cX5_undo 1 (some .int) [.ref x] (pC E h0 x c) r.1 (some (.int r.2.2)) (pC E h0 x r.2.1) := by
  refine zMX_of (lv := [(0, .ref x)]) hst (by decide +kernel) (Nat.le_of_ble_eq_true rfl) rfl (fun X hX C CX => ?_)
  subst hX
  replace C : zC E X RX5 cX5_undo 1 (some .int) 6 := C
  unfold f_X5_undo at hf
  refine z_aload_n C dX5_undo_0 0 rfl ?_
  refine gf_X5_29 C dX5_undo_1 ?_
  obtain ⟨q4, hq4, hf⟩ := bd_some hf
  refine iv_X5_204 C [] [] (ct_X1_size hq4) pC_h rfl (by decide) rfl (Nat.le_of_ble_eq_true rfl) z_k0 dX5_undo_4 ?_
  refine z_if_ne C 20 dX5_undo_7 (by decide) (fun c7 => ?_) (fun c7 => ?_)
  · replace hf := iN c7 hf
    refine z_aload_n C dX5_undo_20 0 rfl ?_
    refine gf_X5_29 C dX5_undo_21 ?_
    refine z_aload_n C dX5_undo_24 0 rfl ?_
    refine gf_X5_19 C dX5_undo_25 ?_
    obtain ⟨q28, hq28, hf⟩ := bd_some hf
    refine iv_X5_207 C [.ref (x + ga 0)] [] (ct_X1_takeBack hq28) pC_h rfl (by decide) rfl (Nat.le_of_ble_eq_true rfl) z_k0 dX5_undo_28 ?_
    obtain rfl := Option.some.inj hf
    exact z_xireturn C dX5_undo_31
  · replace hf := ip c7 hf
    obtain rfl := Option.some.inj hf
    exact z_throwS (text := "no state is remembered") C CX (2 : Int32) rfl (by decide) (by decide +kernel) (by decide) (by decide +kernel) kl_X5_54 ini_IllegalStateException (by decide +kernel) (by decide +kernel) (by decide +kernel) (Nat.le_of_ble_eq_true rfl) dX5_undo_10 dX5_undo_13 dX5_undo_14 dX5_undo_16 dX5_undo_19
/-! X5_why: depth 6 -/
def f_X5_why (c : CS) (x1 : Int32) : Option (Int32 × CS × Int32) :=
  (f_X5_isTile x1).bind (fun q1 => if q1 = 0 then (some ((3 : Int32), c, (0 : Int32))) else ((f_X0_reasonAgainst (c.2.2 0) x1).bind (fun q22 => some ((0 : Int32), c, q22))))
set_option maxRecDepth 100000 in
set_option maxHeartbeats 4000000 in
theorem ct_X5_why {E : zE} {l : Launch} {h0 : Hp} {x : Nat} {c : CS} {x1 : Int32} {r : (Int32 × CS × Int32)} (hst : l.stackTraces = false) (hf : f_X5_why c x1 = some r) : zMX E l 6 yX5_why cX5_why 2 (some .int) [.ref x, .int x1] (pC E h0 x c) r.1 (some (.int r.2.2)) (pC E h0 x r.2.1) := by
  refine zMX_of (lv := [(0, .ref x), (1, .int x1)]) hst (by decide +kernel) (Nat.le_of_ble_eq_true rfl) rfl (fun X hX C CX => ?_)
  subst hX
  replace C : zC E X RX5 cX5_why 2 (some .int) 6 := C
  unfold f_X5_why at hf
  refine z_iload_n C dX5_why_0 1 rfl ?_
  obtain ⟨q1, hq1, hf⟩ := bd_some hf
  refine iv_X5_125 C [.int x1] [] (ct_X5_isTile hq1) rfl (by decide) rfl (Nat.le_of_ble_eq_true rfl) z_k0 dX5_why_1 ?_
  refine z_if_ne C 17 dX5_why_4 (by decide) (fun c4 => ?_) (fun c4 => ?_)
  · replace hf := iN c4 hf
    refine z_aload_n C dX5_why_17 0 rfl ?_
    refine gf_X5_19 C dX5_why_18 ?_
    refine z_iload_n C dX5_why_21 1 rfl ?_
    obtain ⟨q22, hq22, hf⟩ := bd_some hf
    refine z_heap (pC_G (i := 0) (by decide)) ?_
    refine iv_X5_211 C [.int x1] [] (ct_X0_reasonAgainst hq22) pG_o rfl (by decide) rfl (Nat.le_of_ble_eq_true rfl) z_k0 dX5_why_22 ?_
    refine z_heap (pC_G (i := 0) (by decide)).symm ?_
    obtain rfl := Option.some.inj hf
    exact z_xireturn C dX5_why_25
  · replace hf := ip c4 hf
    obtain rfl := Option.some.inj hf
    exact z_throwS (text := "no such tile") C CX (3 : Int32) rfl (by decide) (by decide +kernel) (by decide) (by decide +kernel) kl_X5_128 ini_IndexOutOfBoundsException (by decide +kernel) (by decide +kernel) (by decide +kernel) (Nat.le_of_ble_eq_true rfl) dX5_why_7 dX5_why_10 dX5_why_11 dX5_why_13 dX5_why_16
/-! X5_legal: depth 5 -/
def f_X5_legal (n : Nat) (c : CS) : Option Int32 :=
  (f_X0_playable n (c.2.2 0)).bind (fun q4 => some q4)
set_option maxRecDepth 100000 in
set_option maxHeartbeats 4000000 in
theorem ct_X5_legal {E : zE} {l : Launch} {h0 : Hp} {x : Nat} {n : Nat} {c : CS} {r : Int32}  (hf : f_X5_legal n c = some r) : zM E l 5 yX5_legal cX5_legal 1 (some .int) [.ref x] (pC E h0 x c) (some (.int r)) (pC E h0 x c) := by
  refine zM_of (lv := [(0, .ref x)]) (by decide +kernel) (Nat.le_of_ble_eq_true rfl) rfl (fun X hX C => ?_)
  subst hX
  replace C : zC E X RX5 cX5_legal 1 (some .int) 5 := C
  unfold f_X5_legal at hf
  refine z_aload_n C dX5_legal_0 0 rfl ?_
  refine gf_X5_19 C dX5_legal_1 ?_
  obtain ⟨q4, hq4, hf⟩ := bd_some hf
  refine z_heap (pC_G (i := 0) (by decide)) ?_
  refine iv_X5_214 C [] [] (ct_X0_playable hq4) pG_o rfl (by decide) rfl (Nat.le_of_ble_eq_true rfl) z_k0 dX5_legal_4 ?_
  refine z_heap (pC_G (i := 0) (by decide)).symm ?_
  obtain rfl := Option.some.inj hf
  exact z_ireturn C dX5_legal_7
/-! X5_best: depth 5 -/
def f_X5_best (n : Nat) (c : CS) : Option Int32 :=
  (f_X0_heaviestPlayable n (c.2.2 0)).bind (fun q4 => some q4)
set_option maxRecDepth 100000 in
set_option maxHeartbeats 4000000 in
theorem ct_X5_best {E : zE} {l : Launch} {h0 : Hp} {x : Nat} {n : Nat} {c : CS} {r : Int32}  (hf : f_X5_best n c = some r) : zM E l 5 yX5_best cX5_best 1 (some .int) [.ref x] (pC E h0 x c) (some (.int r)) (pC E h0 x c) := by
  refine zM_of (lv := [(0, .ref x)]) (by decide +kernel) (Nat.le_of_ble_eq_true rfl) rfl (fun X hX C => ?_)
  subst hX
  replace C : zC E X RX5 cX5_best 1 (some .int) 5 := C
  unfold f_X5_best at hf
  refine z_aload_n C dX5_best_0 0 rfl ?_
  refine gf_X5_19 C dX5_best_1 ?_
  obtain ⟨q4, hq4, hf⟩ := bd_some hf
  refine z_heap (pC_G (i := 0) (by decide)) ?_
  refine iv_X5_117 C [] [] (ct_X0_heaviestPlayable hq4) pG_o rfl (by decide) rfl (Nat.le_of_ble_eq_true rfl) z_k0 dX5_best_4 ?_
  refine z_heap (pC_G (i := 0) (by decide)).symm ?_
  obtain rfl := Option.some.inj hf
  exact z_ireturn C dX5_best_7
/-! X5_chain: depth 14 -/
def f_X5_chain_b28 (n : Nat) (x1 : Int32) (x2 : Int32)   (c : CS) : Option (Int32 × CS × Int32) :=
  some ((1 : Int32), c, (0 : Int32))
set_option maxRecDepth 100000 in
set_option maxHeartbeats 4000000 in
theorem w_X5_chain_b28 {E : zE} {X : zX} {h0 : Hp} {x : Nat} {n : Nat} {x1 : Int32} {x2 : Int32}   (C : zC E X RX5 cX5_chain 3 (some .int) 14) (CX : zCx X)  {c : CS} {r : (Int32 × CS × Int32)} (hf : f_X5_chain_b28 n x1 x2 c = some r) : zW E X 3 0 0 (vx_MQ (xb X) (zQr E r.1 (some (.int r.2.2)) (pC E h0 x r.2.1)) (zXC E (pC E h0 x r.2.1) r.1) (xa X) (xs X) 1 6 (zA E)) 28 (pC E h0 x c) [] [] := by
  unfold f_X5_chain_b28 at hf
  obtain rfl := Option.some.inj hf
  exact z_throwS (text := "not 1 to 6 tiles") C CX (1 : Int32) rfl (by decide) (by decide +kernel) (by decide) (by decide +kernel) kl_X5_43 ini_IllegalArgumentException (by decide +kernel) (by decide +kernel) (by decide +kernel) (Nat.le_of_ble_eq_true rfl) dX5_chain_28 dX5_chain_31 dX5_chain_32 dX5_chain_34 dX5_chain_37
def f_X5_chain (n : Nat) (c : CS) (x1 : Int32) (x2 : Int32) : Option (Int32 × CS × Int32) :=
  (f_X5_isPlayer x1).bind (fun q1 => if q1 = 0 then (some ((3 : Int32), c, (0 : Int32))) else (if x2 < (1 : Int32) then (f_X5_chain_b28 n x1 x2 c) else (if x2 ≤ (6 : Int32) then ((f_X0_longestChainOf n (c.2.2 0) x1 x2).bind (fun q44 => some ((0 : Int32), c, q44))) else (f_X5_chain_b28 n x1 x2 c))))
set_option maxRecDepth 100000 in
set_option maxHeartbeats 4000000 in
theorem ct_X5_chain {E : zE} {l : Launch} {h0 : Hp} {x : Nat} {n : Nat} {c : CS} {x1 : Int32} {x2 : Int32} {r : (Int32 × CS × Int32)} (hst : l.stackTraces = false) (hf : f_X5_chain n c x1 x2 = some r) : zMX E l 14 yX5_chain cX5_chain 3 (some .int) [.ref x, .int x1, .int x2] (pC E h0 x c) r.1 (some (.int r.2.2)) (pC E h0 x r.2.1) := by
  refine zMX_of (lv := [(0, .ref x), (1, .int x1), (2, .int x2)]) hst (by decide +kernel) (Nat.le_of_ble_eq_true rfl) rfl (fun X hX C CX => ?_)
  subst hX
  replace C : zC E X RX5 cX5_chain 3 (some .int) 14 := C
  unfold f_X5_chain at hf
  refine z_iload_n C dX5_chain_0 1 rfl ?_
  obtain ⟨q1, hq1, hf⟩ := bd_some hf
  refine iv_X5_149 C [.int x1] [] (ct_X5_isPlayer hq1) rfl (by decide) rfl (Nat.le_of_ble_eq_true rfl) z_k0 dX5_chain_1 ?_
  refine z_if_ne C 17 dX5_chain_4 (by decide) (fun c4 => ?_) (fun c4 => ?_)
  · replace hf := iN c4 hf
    refine z_iload_n C dX5_chain_17 2 rfl ?_
    refine z_iconst C (1 : Int32) dX5_chain_18 (by decide) ?_
    refine z_icmp_lt C 28 dX5_chain_19 (by decide) (fun c19 => ?_) (fun c19 => ?_)
    · replace hf := ip c19 hf
      exact z_sub [] rfl (w_X5_chain_b28 C CX hf)
    · replace hf := iN c19 hf
      refine z_iload_n C dX5_chain_22 2 rfl ?_
      refine z_bipush C (6 : Int32) dX5_chain_23 (by decide) ?_
      refine z_icmp_le C 38 dX5_chain_25 (by decide) (fun c25 => ?_) (fun c25 => ?_)
      · replace hf := ip c25 hf
        refine z_aload_n C dX5_chain_38 0 rfl ?_
        refine gf_X5_19 C dX5_chain_39 ?_
        refine z_iload_n C dX5_chain_42 1 rfl ?_
        refine z_iload_n C dX5_chain_43 2 rfl ?_
        obtain ⟨q44, hq44, hf⟩ := bd_some hf
        refine z_heap (pC_G (i := 0) (by decide)) ?_
        refine iv_X5_219 C [.int x1, .int x2] [] (ct_X0_longestChainOf hq44) pG_o rfl (by decide) rfl (Nat.le_of_ble_eq_true rfl) z_k0 dX5_chain_44 ?_
        refine z_heap (pC_G (i := 0) (by decide)).symm ?_
        obtain rfl := Option.some.inj hf
        exact z_xireturn C dX5_chain_47
      · replace hf := iN c25 hf
        exact z_sub [] rfl (w_X5_chain_b28 C CX hf)
  · replace hf := ip c4 hf
    obtain rfl := Option.some.inj hf
    exact z_throwS (text := "no such player") C CX (3 : Int32) rfl (by decide) (by decide +kernel) (by decide) (by decide +kernel) kl_X5_128 ini_IndexOutOfBoundsException (by decide +kernel) (by decide +kernel) (by decide +kernel) (Nat.le_of_ble_eq_true rfl) dX5_chain_7 dX5_chain_10 dX5_chain_11 dX5_chain_13 dX5_chain_16
/-! X5_reach: depth 6 -/
def f_X5_reach_b9 (n : Nat) (x1 : Int32)   (c : CS) : Option (Int32 × CS × Int32) :=
  some ((1 : Int32), c, (0 : Int32))
set_option maxRecDepth 100000 in
set_option maxHeartbeats 4000000 in
theorem w_X5_reach_b9 {E : zE} {X : zX} {h0 : Hp} {x : Nat} {n : Nat} {x1 : Int32}   (C : zC E X RX5 cX5_reach 2 (some .int) 6) (CX : zCx X)  {c : CS} {r : (Int32 × CS × Int32)} (hf : f_X5_reach_b9 n x1 c = some r) : zW E X 2 0 0 (vx_MQ (xb X) (zQr E r.1 (some (.int r.2.2)) (pC E h0 x r.2.1)) (zXC E (pC E h0 x r.2.1) r.1) (xa X) (xs X) 1 6 (zA E)) 9 (pC E h0 x c) [] [] := by
  unfold f_X5_reach_b9 at hf
  obtain rfl := Option.some.inj hf
  exact z_throwS (text := "no such number") C CX (1 : Int32) rfl (by decide) (by decide +kernel) (by decide) (by decide +kernel) kl_X5_43 ini_IllegalArgumentException (by decide +kernel) (by decide +kernel) (by decide +kernel) (Nat.le_of_ble_eq_true rfl) dX5_reach_9 dX5_reach_12 dX5_reach_13 dX5_reach_15 dX5_reach_18
def f_X5_reach (n : Nat) (c : CS) (x1 : Int32) : Option (Int32 × CS × Int32) :=
  if x1 < 0 then (f_X5_reach_b9 n x1 c) else (if x1 ≤ (5 : Int32) then ((f_X0_line (c.2.2 0)).bind (fun q23 => (f_X2_numberOfReach n (c.2.2 0) x1).bind (fun q27 => some ((0 : Int32), c, q27)))) else (f_X5_reach_b9 n x1 c))
set_option maxRecDepth 100000 in
set_option maxHeartbeats 4000000 in
theorem ct_X5_reach {E : zE} {l : Launch} {h0 : Hp} {x : Nat} {n : Nat} {c : CS} {x1 : Int32} {r : (Int32 × CS × Int32)} (hst : l.stackTraces = false) (hf : f_X5_reach n c x1 = some r) : zMX E l 6 yX5_reach cX5_reach 2 (some .int) [.ref x, .int x1] (pC E h0 x c) r.1 (some (.int r.2.2)) (pC E h0 x r.2.1) := by
  refine zMX_of (lv := [(0, .ref x), (1, .int x1)]) hst (by decide +kernel) (Nat.le_of_ble_eq_true rfl) rfl (fun X hX C CX => ?_)
  subst hX
  replace C : zC E X RX5 cX5_reach 2 (some .int) 6 := C
  unfold f_X5_reach at hf
  refine z_iload_n C dX5_reach_0 1 rfl ?_
  refine z_if_lt C 9 dX5_reach_1 (by decide) (fun c1 => ?_) (fun c1 => ?_)
  · replace hf := ip c1 hf
    exact z_sub [] rfl (w_X5_reach_b9 C CX hf)
  · replace hf := iN c1 hf
    refine z_iload_n C dX5_reach_4 1 rfl ?_
    refine z_iconst C (5 : Int32) dX5_reach_5 (by decide) ?_
    refine z_icmp_le C 19 dX5_reach_6 (by decide) (fun c6 => ?_) (fun c6 => ?_)
    · replace hf := ip c6 hf
      refine z_aload_n C dX5_reach_19 0 rfl ?_
      refine gf_X5_19 C dX5_reach_20 ?_
      obtain ⟨q23, hq23, hf⟩ := bd_some hf
      refine z_heap (pC_G (i := 0) (by decide)) ?_
      refine iv_X5_137 C [] [] (ct_X0_line hq23) pG_o rfl (by decide) rfl (Nat.le_of_ble_eq_true rfl) z_k0 dX5_reach_23 ?_
      refine z_heap (pC_G (i := 0) (by decide)).symm ?_
      refine z_iload_n C dX5_reach_26 1 rfl ?_
      obtain ⟨q27, hq27, hf⟩ := bd_some hf
      refine z_heap (pC_G (i := 0) (by decide)) ?_
      refine iv_X5_222 C [.int x1] [] (ct_X2_numberOfReach hq27) pG_l rfl (by decide) rfl (Nat.le_of_ble_eq_true rfl) z_k0 dX5_reach_27 ?_
      refine z_heap (pC_G (i := 0) (by decide)).symm ?_
      obtain rfl := Option.some.inj hf
      exact z_xireturn C dX5_reach_30
    · replace hf := iN c6 hf
      exact z_sub [] rfl (w_X5_reach_b9 C CX hf)
/-! X5_succeeds: depth 6 -/
def f_X5_succeeds_b99 (n : Nat) (x1 : Int32)   (c : CS) (s0 : Int32) (s1 : Int32) : Option ((CS) × Int32) :=
  (f_X0_layIfPossible n (c.2.2 1) s1 s0).bind (fun q99 => if q99.2 = 0 then (some (cG c 1 q99.1, (0 : Int32))) else (some (cG c 1 q99.1, (1 : Int32))))
set_option maxRecDepth 100000 in
set_option maxHeartbeats 4000000 in
theorem w_X5_succeeds_b99 {E : zE} {X : zX} {h0 : Hp} {x : Nat} {n : Nat} {x1 : Int32}   (C : zC E X RX5 cX5_succeeds 4 (some .boolean) 6)   {c : CS} {s0 : Int32} {s1 : Int32} {r : ((CS) × Int32)} (hf : f_X5_succeeds_b99 n x1 c s0 s1 = some r) : zW E X 4 0 0 (MQ (xb X) (zQ E (some (.int r.2)) (pC E h0 x r.1)) (xa X) (xs X) 0 0 (zA E)) 99 (pC E h0 x c) [] [.int s0, .int s1, .ref (x + ga 1)] := by
  unfold f_X5_succeeds_b99 at hf
  obtain ⟨q99, hq99, hf⟩ := bd_some hf
  refine z_heap (pC_G (i := 1) (by decide)) ?_
  refine iv_X5_107 C [.int s1, .int s0] [] (ct_X0_layIfPossible hq99) pG_o rfl (by decide) rfl (Nat.le_of_ble_eq_true rfl) z_k0 dX5_succeeds_99 ?_
  refine z_heap (pC_G' (i := 1) (by decide) _) ?_
  refine z_if_eq C 109 dX5_succeeds_102 (by decide) (fun c102 => ?_) (fun c102 => ?_)
  · replace hf := ip c102 hf
    refine z_iconst C (0 : Int32) dX5_succeeds_109 (by decide) ?_
    obtain rfl := Option.some.inj hf
    exact z_zreturn (v := (0 : Int32)) C (by decide) dX5_succeeds_110
  · replace hf := iN c102 hf
    refine z_iconst C (1 : Int32) dX5_succeeds_105 (by decide) ?_
    refine z_goto C 110 dX5_succeeds_106 (by decide) ?_
    obtain rfl := Option.some.inj hf
    exact z_zreturn (v := (1 : Int32)) C (by decide) dX5_succeeds_110
def f_X5_succeeds (n : Nat) (c : CS) (x1 : Int32) : Option ((CS) × Int32) :=
  chk (¬ (100 : Int32) = 0) (chk (¬ (10 : Int32) = 0) (chk (¬ (100 : Int32) = 0) (chk (¬ (1000 : Int32) = 0) (if (x1 / (1000 : Int32)) = (1 : Int32) then ((f_X0_startRound n (c.2.2 1) (jrem (x1 / (100 : Int32)) (10 : Int32)) ((jrem x1 (100 : Int32)).toInt64)).bind (fun q75 => chk (q75.2 = 0 ∨ q75.2 = 1) (some (cG c 1 q75.1, q75.2)))) else (if (x1 / (1000 : Int32)) = (2 : Int32) then (if (1 : Int32) < (jrem (x1 / (100 : Int32)) (10 : Int32)) then (some (c, (0 : Int32))) else (if (jrem (x1 / (100 : Int32)) (10 : Int32)) = (1 : Int32) then (f_X5_succeeds_b99 n x1 c (1 : Int32) (jrem x1 (100 : Int32))) else (f_X5_succeeds_b99 n x1 c (0 : Int32) (jrem x1 (100 : Int32))))) else (if (x1 / (1000 : Int32)) = (3 : Int32) then (if x1 = (3000 : Int32) then ((f_X0_takeFromHeap (c.2.2 1)).bind (fun q122 => if q122.2 = (-1 : Int32) then (some (cG c 1 q122.1, (0 : Int32))) else (some (cG c 1 q122.1, (1 : Int32))))) else (some (c, (0 : Int32)))) else (if (x1 / (1000 : Int32)) = (4 : Int32) then (if x1 = (4000 : Int32) then ((f_X0_skipTurn n (c.2.2 1)).bind (fun q146 => if q146.2 = (-1 : Int32) then (some (cG c 1 q146.1, (0 : Int32))) else (some (cG c 1 q146.1, (1 : Int32))))) else (some (c, (0 : Int32)))) else (if (x1 / (1000 : Int32)) = (5 : Int32) then (if (jrem (x1 / (100 : Int32)) (10 : Int32)) = 0 then (if (9 : Int32) < (jrem x1 (100 : Int32)) then (some (c, (0 : Int32))) else ((f_X0_layHeaviest n (c.2.2 1) (jrem x1 (100 : Int32))).bind (fun q174 => if q174.2 = 0 then (some (cG c 1 q174.1, (0 : Int32))) else (some (cG c 1 q174.1, (1 : Int32)))))) else (some (c, (0 : Int32)))) else (if (x1 / (1000 : Int32)) = (6 : Int32) then (if (jrem (x1 / (100 : Int32)) (10 : Int32)) = 0 then ((f_X0_playerToMove (c.2.2 1)).bind (fun q194 => if q194 = (jrem x1 (100 : Int32)) then (some (c, (1 : Int32))) else (some (c, (0 : Int32))))) else (some (c, (0 : Int32)))) else (if (x1 / (1000 : Int32)) = (7 : Int32) then ((f_X5_isPlayer (jrem (x1 / (100 : Int32)) (10 : Int32))).bind (fun q208 => if q208 = 0 then (some (c, (0 : Int32))) else ((f_X0_tilesOf n (c.2.2 1) (jrem (x1 / (100 : Int32)) (10 : Int32))).bind (fun q219 => if (jrem x1 (100 : Int32)) < q219 then (some (c, (0 : Int32))) else (some (c, (1 : Int32))))))) else (if (x1 / (1000 : Int32)) = (8 : Int32) then (if (jrem (x1 / (100 : Int32)) (10 : Int32)) = 0 then ((f_X0_line (c.2.2 1)).bind (fun q240 => (f_X2_endOfNow (c.2.2 1)).bind (fun q243 => if q243 = (jrem x1 (100 : Int32)) then (some (c, (1 : Int32))) else (some (c, (0 : Int32)))))) else (some (c, (0 : Int32)))) else (if (x1 / (1000 : Int32)) = (9 : Int32) then (if (jrem (x1 / (100 : Int32)) (10 : Int32)) = 0 then ((f_X0_line (c.2.2 1)).bind (fun q264 => (f_X2_size (c.2.2 1)).bind (fun q267 => if q267 < (jrem x1 (100 : Int32)) then (some (c, (0 : Int32))) else (some (c, (1 : Int32)))))) else (some (c, (0 : Int32)))) else (some (c, (0 : Int32)))))))))))))))
set_option maxRecDepth 100000 in
set_option maxHeartbeats 4000000 in
theorem ct_X5_succeeds {E : zE} {l : Launch} {h0 : Hp} {x : Nat} {n : Nat} {c : CS} {x1 : Int32} {r : ((CS) × Int32)}  (hf : f_X5_succeeds n c x1 = some r) : zM E l 6 yX5_succeeds cX5_succeeds 4 (some .boolean) [.ref x, .int x1] (pC E h0 x c) (some (.int r.2)) (pC E h0 x r.1) := by
  refine zM_of (lv := [(0, .ref x), (1, .int x1)]) (by decide +kernel) (Nat.le_of_ble_eq_true rfl) rfl (fun X hX C => ?_)
  subst hX
  replace C : zC E X RX5 cX5_succeeds 4 (some .boolean) 6 := C
  unfold f_X5_succeeds at hf
  refine z_iload_n C dX5_succeeds_0 1 rfl ?_
  refine z_bipush C (100 : Int32) dX5_succeeds_1 (by decide) ?_
  obtain ⟨c3, hf⟩ := chk_some hf
  refine z_idiv C dX5_succeeds_3 c3 ?_
  refine z_bipush C (10 : Int32) dX5_succeeds_4 (by decide) ?_
  obtain ⟨c6, hf⟩ := chk_some hf
  refine z_irem C dX5_succeeds_6 c6 ?_
  refine z_istore_n (lv' := [(2, .int (jrem (x1 / (100 : Int32)) (10 : Int32))), (0, .ref x), (1, .int x1)]) C dX5_succeeds_7 (by decide) rfl ?_
  refine z_iload_n C dX5_succeeds_8 2 rfl ?_
  refine z_bipush C (100 : Int32) dX5_succeeds_9 (by decide) ?_
  obtain ⟨c11, hf⟩ := chk_some hf
  refine z_irem C dX5_succeeds_11 c11 ?_
  refine z_istore_n (lv' := [(3, .int (jrem x1 (100 : Int32))), (2, .int (jrem (x1 / (100 : Int32)) (10 : Int32))), (0, .ref x), (1, .int x1)]) C dX5_succeeds_12 (by decide) rfl ?_
  refine z_iload_n C dX5_succeeds_13 3 rfl ?_
  refine z_sipush C (1000 : Int32) dX5_succeeds_14 (by decide) ?_
  obtain ⟨c17, hf⟩ := chk_some hf
  refine z_idiv C dX5_succeeds_17 c17 ?_
  by_cases e18_0 : (x1 / (1000 : Int32)) = (1 : Int32)
  · replace hf := ip e18_0 hf
    refine z_stk (congrArg (fun z => Value.int z :: []) e18_0) ?_
    refine z_tableIn C 50 68 dX5_succeeds_18 (by decide) (by decide) (by decide) (by decide) ?_
    refine z_aload_n C dX5_succeeds_68 2 rfl ?_
    refine gf_X5_23 C dX5_succeeds_69 ?_
    refine z_iload_n C dX5_succeeds_72 1 rfl ?_
    refine z_iload_n C dX5_succeeds_73 0 rfl ?_
    refine z_i2l C dX5_succeeds_74 ?_
    obtain ⟨q75, hq75, hf⟩ := bd_some hf
    refine z_heap (pC_G (i := 1) (by decide)) ?_
    refine iv_X5_103 C [.int (jrem (x1 / (100 : Int32)) (10 : Int32)), .long ((jrem x1 (100 : Int32)).toInt64)] [] (ct_X0_startRound hq75) pG_o rfl (by decide) rfl (Nat.le_of_ble_eq_true rfl) z_k0 dX5_succeeds_75 ?_
    refine z_heap (pC_G' (i := 1) (by decide) _) ?_
    obtain ⟨c78, hf⟩ := chk_some hf
    obtain rfl := Option.some.inj hf
    exact z_zreturn C c78 dX5_succeeds_78
  replace hf := iN e18_0 hf
  by_cases e18_1 : (x1 / (1000 : Int32)) = (2 : Int32)
  · replace hf := ip e18_1 hf
    refine z_stk (congrArg (fun z => Value.int z :: []) e18_1) ?_
    refine z_tableIn C 61 79 dX5_succeeds_18 (by decide) (by decide) (by decide) (by decide) ?_
    refine z_iload_n C dX5_succeeds_79 1 rfl ?_
    refine z_iconst C (1 : Int32) dX5_succeeds_80 (by decide) ?_
    refine z_icmp_gt C 109 dX5_succeeds_81 (by decide) (fun c81 => ?_) (fun c81 => ?_)
    · replace hf := ip c81 hf
      refine z_iconst C (0 : Int32) dX5_succeeds_109 (by decide) ?_
      obtain rfl := Option.some.inj hf
      exact z_zreturn (v := (0 : Int32)) C (by decide) dX5_succeeds_110
    · replace hf := iN c81 hf
      refine z_aload_n C dX5_succeeds_84 2 rfl ?_
      refine gf_X5_23 C dX5_succeeds_85 ?_
      refine z_iload_n C dX5_succeeds_88 0 rfl ?_
      refine z_iload_n C dX5_succeeds_89 1 rfl ?_
      refine z_iconst C (1 : Int32) dX5_succeeds_90 (by decide) ?_
      refine z_icmp_ne C 98 dX5_succeeds_91 (by decide) (fun c91 => ?_) (fun c91 => ?_)
      · replace hf := iN c91 hf
        refine z_iconst C (0 : Int32) dX5_succeeds_98 (by decide) ?_
        exact z_sub [] rfl (w_X5_succeeds_b99 C hf)
      · replace hf := ip c91 hf
        refine z_iconst C (1 : Int32) dX5_succeeds_94 (by decide) ?_
        refine z_goto C 99 dX5_succeeds_95 (by decide) ?_
        exact z_sub [] rfl (w_X5_succeeds_b99 C hf)
  replace hf := iN e18_1 hf
  by_cases e18_2 : (x1 / (1000 : Int32)) = (3 : Int32)
  · replace hf := ip e18_2 hf
    refine z_stk (congrArg (fun z => Value.int z :: []) e18_2) ?_
    refine z_tableIn C 93 111 dX5_succeeds_18 (by decide) (by decide) (by decide) (by decide) ?_
    refine z_iload_n C dX5_succeeds_111 3 rfl ?_
    refine z_sipush C (3000 : Int32) dX5_succeeds_112 (by decide) ?_
    refine z_icmp_ne C 133 dX5_succeeds_115 (by decide) (fun c115 => ?_) (fun c115 => ?_)
    · replace hf := iN c115 hf
      refine z_iconst C (0 : Int32) dX5_succeeds_133 (by decide) ?_
      obtain rfl := Option.some.inj hf
      exact z_zreturn (v := (0 : Int32)) C (by decide) dX5_succeeds_134
    · replace hf := ip c115 hf
      refine z_aload_n C dX5_succeeds_118 2 rfl ?_
      refine gf_X5_23 C dX5_succeeds_119 ?_
      obtain ⟨q122, hq122, hf⟩ := bd_some hf
      refine z_heap (pC_G (i := 1) (by decide)) ?_
      refine iv_X5_111 C [] [] (ct_X0_takeFromHeap hq122) pG_o rfl (by decide) rfl (Nat.le_of_ble_eq_true rfl) z_k0 dX5_succeeds_122 ?_
      refine z_heap (pC_G' (i := 1) (by decide) _) ?_
      refine z_iconst C (-1 : Int32) dX5_succeeds_125 (by decide) ?_
      refine z_icmp_eq C 133 dX5_succeeds_126 (by decide) (fun c126 => ?_) (fun c126 => ?_)
      · replace hf := ip c126 hf
        refine z_iconst C (0 : Int32) dX5_succeeds_133 (by decide) ?_
        obtain rfl := Option.some.inj hf
        exact z_zreturn (v := (0 : Int32)) C (by decide) dX5_succeeds_134
      · replace hf := iN c126 hf
        refine z_iconst C (1 : Int32) dX5_succeeds_129 (by decide) ?_
        refine z_goto C 134 dX5_succeeds_130 (by decide) ?_
        obtain rfl := Option.some.inj hf
        exact z_zreturn (v := (1 : Int32)) C (by decide) dX5_succeeds_134
  replace hf := iN e18_2 hf
  by_cases e18_3 : (x1 / (1000 : Int32)) = (4 : Int32)
  · replace hf := ip e18_3 hf
    refine z_stk (congrArg (fun z => Value.int z :: []) e18_3) ?_
    refine z_tableIn C 117 135 dX5_succeeds_18 (by decide) (by decide) (by decide) (by decide) ?_
    refine z_iload_n C dX5_succeeds_135 3 rfl ?_
    refine z_sipush C (4000 : Int32) dX5_succeeds_136 (by decide) ?_
    refine z_icmp_ne C 157 dX5_succeeds_139 (by decide) (fun c139 => ?_) (fun c139 => ?_)
    · replace hf := iN c139 hf
      refine z_iconst C (0 : Int32) dX5_succeeds_157 (by decide) ?_
      obtain rfl := Option.some.inj hf
      exact z_zreturn (v := (0 : Int32)) C (by decide) dX5_succeeds_158
    · replace hf := ip c139 hf
      refine z_aload_n C dX5_succeeds_142 2 rfl ?_
      refine gf_X5_23 C dX5_succeeds_143 ?_
      obtain ⟨q146, hq146, hf⟩ := bd_some hf
      refine z_heap (pC_G (i := 1) (by decide)) ?_
      refine iv_X5_114 C [] [] (ct_X0_skipTurn hq146) pG_o rfl (by decide) rfl (Nat.le_of_ble_eq_true rfl) z_k0 dX5_succeeds_146 ?_
      refine z_heap (pC_G' (i := 1) (by decide) _) ?_
      refine z_iconst C (-1 : Int32) dX5_succeeds_149 (by decide) ?_
      refine z_icmp_eq C 157 dX5_succeeds_150 (by decide) (fun c150 => ?_) (fun c150 => ?_)
      · replace hf := ip c150 hf
        refine z_iconst C (0 : Int32) dX5_succeeds_157 (by decide) ?_
        obtain rfl := Option.some.inj hf
        exact z_zreturn (v := (0 : Int32)) C (by decide) dX5_succeeds_158
      · replace hf := iN c150 hf
        refine z_iconst C (1 : Int32) dX5_succeeds_153 (by decide) ?_
        refine z_goto C 158 dX5_succeeds_154 (by decide) ?_
        obtain rfl := Option.some.inj hf
        exact z_zreturn (v := (1 : Int32)) C (by decide) dX5_succeeds_158
  replace hf := iN e18_3 hf
  by_cases e18_4 : (x1 / (1000 : Int32)) = (5 : Int32)
  · replace hf := ip e18_4 hf
    refine z_stk (congrArg (fun z => Value.int z :: []) e18_4) ?_
    refine z_tableIn C 141 159 dX5_succeeds_18 (by decide) (by decide) (by decide) (by decide) ?_
    refine z_iload_n C dX5_succeeds_159 1 rfl ?_
    refine z_if_ne C 184 dX5_succeeds_160 (by decide) (fun c160 => ?_) (fun c160 => ?_)
    · replace hf := iN c160 hf
      refine z_iconst C (0 : Int32) dX5_succeeds_184 (by decide) ?_
      obtain rfl := Option.some.inj hf
      exact z_zreturn (v := (0 : Int32)) C (by decide) dX5_succeeds_185
    · replace hf := ip c160 hf
      refine z_iload_n C dX5_succeeds_163 0 rfl ?_
      refine z_bipush C (9 : Int32) dX5_succeeds_164 (by decide) ?_
      refine z_icmp_gt C 184 dX5_succeeds_166 (by decide) (fun c166 => ?_) (fun c166 => ?_)
      · replace hf := ip c166 hf
        refine z_iconst C (0 : Int32) dX5_succeeds_184 (by decide) ?_
        obtain rfl := Option.some.inj hf
        exact z_zreturn (v := (0 : Int32)) C (by decide) dX5_succeeds_185
      · replace hf := iN c166 hf
        refine z_aload_n C dX5_succeeds_169 2 rfl ?_
        refine gf_X5_23 C dX5_succeeds_170 ?_
        refine z_iload_n C dX5_succeeds_173 0 rfl ?_
        obtain ⟨q174, hq174, hf⟩ := bd_some hf
        refine z_heap (pC_G (i := 1) (by decide)) ?_
        refine iv_X5_241 C [.int (jrem x1 (100 : Int32))] [] (ct_X0_layHeaviest hq174) pG_o rfl (by decide) rfl (Nat.le_of_ble_eq_true rfl) z_k0 dX5_succeeds_174 ?_
        refine z_heap (pC_G' (i := 1) (by decide) _) ?_
        refine z_if_eq C 184 dX5_succeeds_177 (by decide) (fun c177 => ?_) (fun c177 => ?_)
        · replace hf := ip c177 hf
          refine z_iconst C (0 : Int32) dX5_succeeds_184 (by decide) ?_
          obtain rfl := Option.some.inj hf
          exact z_zreturn (v := (0 : Int32)) C (by decide) dX5_succeeds_185
        · replace hf := iN c177 hf
          refine z_iconst C (1 : Int32) dX5_succeeds_180 (by decide) ?_
          refine z_goto C 185 dX5_succeeds_181 (by decide) ?_
          obtain rfl := Option.some.inj hf
          exact z_zreturn (v := (1 : Int32)) C (by decide) dX5_succeeds_185
  replace hf := iN e18_4 hf
  by_cases e18_5 : (x1 / (1000 : Int32)) = (6 : Int32)
  · replace hf := ip e18_5 hf
    refine z_stk (congrArg (fun z => Value.int z :: []) e18_5) ?_
    refine z_tableIn C 168 186 dX5_succeeds_18 (by decide) (by decide) (by decide) (by decide) ?_
    refine z_iload_n C dX5_succeeds_186 1 rfl ?_
    refine z_if_ne C 205 dX5_succeeds_187 (by decide) (fun c187 => ?_) (fun c187 => ?_)
    · replace hf := iN c187 hf
      refine z_iconst C (0 : Int32) dX5_succeeds_205 (by decide) ?_
      obtain rfl := Option.some.inj hf
      exact z_zreturn (v := (0 : Int32)) C (by decide) dX5_succeeds_206
    · replace hf := ip c187 hf
      refine z_aload_n C dX5_succeeds_190 2 rfl ?_
      refine gf_X5_23 C dX5_succeeds_191 ?_
      obtain ⟨q194, hq194, hf⟩ := bd_some hf
      refine z_heap (pC_G (i := 1) (by decide)) ?_
      refine iv_X5_244 C [] [] (ct_X0_playerToMove hq194) pG_o rfl (by decide) rfl (Nat.le_of_ble_eq_true rfl) z_k0 dX5_succeeds_194 ?_
      refine z_heap (pC_G (i := 1) (by decide)).symm ?_
      refine z_iload_n C dX5_succeeds_197 0 rfl ?_
      refine z_icmp_ne C 205 dX5_succeeds_198 (by decide) (fun c198 => ?_) (fun c198 => ?_)
      · replace hf := iN c198 hf
        refine z_iconst C (0 : Int32) dX5_succeeds_205 (by decide) ?_
        obtain rfl := Option.some.inj hf
        exact z_zreturn (v := (0 : Int32)) C (by decide) dX5_succeeds_206
      · replace hf := ip c198 hf
        refine z_iconst C (1 : Int32) dX5_succeeds_201 (by decide) ?_
        refine z_goto C 206 dX5_succeeds_202 (by decide) ?_
        obtain rfl := Option.some.inj hf
        exact z_zreturn (v := (1 : Int32)) C (by decide) dX5_succeeds_206
  replace hf := iN e18_5 hf
  by_cases e18_6 : (x1 / (1000 : Int32)) = (7 : Int32)
  · replace hf := ip e18_6 hf
    refine z_stk (congrArg (fun z => Value.int z :: []) e18_6) ?_
    refine z_tableIn C 189 207 dX5_succeeds_18 (by decide) (by decide) (by decide) (by decide) ?_
    refine z_iload_n C dX5_succeeds_207 1 rfl ?_
    obtain ⟨q208, hq208, hf⟩ := bd_some hf
    refine iv_X5_149 C [.int (jrem (x1 / (100 : Int32)) (10 : Int32))] [] (ct_X5_isPlayer hq208) rfl (by decide) rfl (Nat.le_of_ble_eq_true rfl) z_k0 dX5_succeeds_208 ?_
    refine z_if_eq C 230 dX5_succeeds_211 (by decide) (fun c211 => ?_) (fun c211 => ?_)
    · replace hf := ip c211 hf
      refine z_iconst C (0 : Int32) dX5_succeeds_230 (by decide) ?_
      obtain rfl := Option.some.inj hf
      exact z_zreturn (v := (0 : Int32)) C (by decide) dX5_succeeds_231
    · replace hf := iN c211 hf
      refine z_aload_n C dX5_succeeds_214 2 rfl ?_
      refine gf_X5_23 C dX5_succeeds_215 ?_
      refine z_iload_n C dX5_succeeds_218 1 rfl ?_
      obtain ⟨q219, hq219, hf⟩ := bd_some hf
      refine z_heap (pC_G (i := 1) (by decide)) ?_
      refine iv_X5_247 C [.int (jrem (x1 / (100 : Int32)) (10 : Int32))] [] (ct_X0_tilesOf hq219) pG_o rfl (by decide) rfl (Nat.le_of_ble_eq_true rfl) z_k0 dX5_succeeds_219 ?_
      refine z_heap (pC_G (i := 1) (by decide)).symm ?_
      refine z_iload_n C dX5_succeeds_222 0 rfl ?_
      refine z_icmp_gt C 230 dX5_succeeds_223 (by decide) (fun c223 => ?_) (fun c223 => ?_)
      · replace hf := ip c223 hf
        refine z_iconst C (0 : Int32) dX5_succeeds_230 (by decide) ?_
        obtain rfl := Option.some.inj hf
        exact z_zreturn (v := (0 : Int32)) C (by decide) dX5_succeeds_231
      · replace hf := iN c223 hf
        refine z_iconst C (1 : Int32) dX5_succeeds_226 (by decide) ?_
        refine z_goto C 231 dX5_succeeds_227 (by decide) ?_
        obtain rfl := Option.some.inj hf
        exact z_zreturn (v := (1 : Int32)) C (by decide) dX5_succeeds_231
  replace hf := iN e18_6 hf
  by_cases e18_7 : (x1 / (1000 : Int32)) = (8 : Int32)
  · replace hf := ip e18_7 hf
    refine z_stk (congrArg (fun z => Value.int z :: []) e18_7) ?_
    refine z_tableIn C 214 232 dX5_succeeds_18 (by decide) (by decide) (by decide) (by decide) ?_
    refine z_iload_n C dX5_succeeds_232 1 rfl ?_
    refine z_if_ne C 254 dX5_succeeds_233 (by decide) (fun c233 => ?_) (fun c233 => ?_)
    · replace hf := iN c233 hf
      refine z_iconst C (0 : Int32) dX5_succeeds_254 (by decide) ?_
      obtain rfl := Option.some.inj hf
      exact z_zreturn (v := (0 : Int32)) C (by decide) dX5_succeeds_255
    · replace hf := ip c233 hf
      refine z_aload_n C dX5_succeeds_236 2 rfl ?_
      refine gf_X5_23 C dX5_succeeds_237 ?_
      obtain ⟨q240, hq240, hf⟩ := bd_some hf
      refine z_heap (pC_G (i := 1) (by decide)) ?_
      refine iv_X5_137 C [] [] (ct_X0_line hq240) pG_o rfl (by decide) rfl (Nat.le_of_ble_eq_true rfl) z_k0 dX5_succeeds_240 ?_
      refine z_heap (pC_G (i := 1) (by decide)).symm ?_
      obtain ⟨q243, hq243, hf⟩ := bd_some hf
      refine z_heap (pC_G (i := 1) (by decide)) ?_
      refine iv_X5_250 C [] [] (ct_X2_endOfNow hq243) pG_l rfl (by decide) rfl (Nat.le_of_ble_eq_true rfl) z_k0 dX5_succeeds_243 ?_
      refine z_heap (pC_G (i := 1) (by decide)).symm ?_
      refine z_iload_n C dX5_succeeds_246 0 rfl ?_
      refine z_icmp_ne C 254 dX5_succeeds_247 (by decide) (fun c247 => ?_) (fun c247 => ?_)
      · replace hf := iN c247 hf
        refine z_iconst C (0 : Int32) dX5_succeeds_254 (by decide) ?_
        obtain rfl := Option.some.inj hf
        exact z_zreturn (v := (0 : Int32)) C (by decide) dX5_succeeds_255
      · replace hf := ip c247 hf
        refine z_iconst C (1 : Int32) dX5_succeeds_250 (by decide) ?_
        refine z_goto C 255 dX5_succeeds_251 (by decide) ?_
        obtain rfl := Option.some.inj hf
        exact z_zreturn (v := (1 : Int32)) C (by decide) dX5_succeeds_255
  replace hf := iN e18_7 hf
  by_cases e18_8 : (x1 / (1000 : Int32)) = (9 : Int32)
  · replace hf := ip e18_8 hf
    refine z_stk (congrArg (fun z => Value.int z :: []) e18_8) ?_
    refine z_tableIn C 238 256 dX5_succeeds_18 (by decide) (by decide) (by decide) (by decide) ?_
    refine z_iload_n C dX5_succeeds_256 1 rfl ?_
    refine z_if_ne C 278 dX5_succeeds_257 (by decide) (fun c257 => ?_) (fun c257 => ?_)
    · replace hf := iN c257 hf
      refine z_iconst C (0 : Int32) dX5_succeeds_278 (by decide) ?_
      obtain rfl := Option.some.inj hf
      exact z_zreturn (v := (0 : Int32)) C (by decide) dX5_succeeds_279
    · replace hf := ip c257 hf
      refine z_aload_n C dX5_succeeds_260 2 rfl ?_
      refine gf_X5_23 C dX5_succeeds_261 ?_
      obtain ⟨q264, hq264, hf⟩ := bd_some hf
      refine z_heap (pC_G (i := 1) (by decide)) ?_
      refine iv_X5_137 C [] [] (ct_X0_line hq264) pG_o rfl (by decide) rfl (Nat.le_of_ble_eq_true rfl) z_k0 dX5_succeeds_264 ?_
      refine z_heap (pC_G (i := 1) (by decide)).symm ?_
      obtain ⟨q267, hq267, hf⟩ := bd_some hf
      refine z_heap (pC_G (i := 1) (by decide)) ?_
      refine iv_X5_141 C [] [] (ct_X2_size hq267) pG_l rfl (by decide) rfl (Nat.le_of_ble_eq_true rfl) z_k0 dX5_succeeds_267 ?_
      refine z_heap (pC_G (i := 1) (by decide)).symm ?_
      refine z_iload_n C dX5_succeeds_270 0 rfl ?_
      refine z_icmp_lt C 278 dX5_succeeds_271 (by decide) (fun c271 => ?_) (fun c271 => ?_)
      · replace hf := ip c271 hf
        refine z_iconst C (0 : Int32) dX5_succeeds_278 (by decide) ?_
        obtain rfl := Option.some.inj hf
        exact z_zreturn (v := (0 : Int32)) C (by decide) dX5_succeeds_279
      · replace hf := iN c271 hf
        refine z_iconst C (1 : Int32) dX5_succeeds_274 (by decide) ?_
        refine z_goto C 279 dX5_succeeds_275 (by decide) ?_
        obtain rfl := Option.some.inj hf
        exact z_zreturn (v := (1 : Int32)) C (by decide) dX5_succeeds_279
  replace hf := iN e18_8 hf
  refine z_tableOut C 280 dX5_succeeds_18 (by have n0 := ne_toInt (v := (1 : Int32)) (z := 1) (by decide) e18_0; have n1 := ne_toInt (v := (2 : Int32)) (z := 2) (by decide) e18_1; have n2 := ne_toInt (v := (3 : Int32)) (z := 3) (by decide) e18_2; have n3 := ne_toInt (v := (4 : Int32)) (z := 4) (by decide) e18_3; have n4 := ne_toInt (v := (5 : Int32)) (z := 5) (by decide) e18_4; have n5 := ne_toInt (v := (6 : Int32)) (z := 6) (by decide) e18_5; have n6 := ne_toInt (v := (7 : Int32)) (z := 7) (by decide) e18_6; have n7 := ne_toInt (v := (8 : Int32)) (z := 8) (by decide) e18_7; have n8 := ne_toInt (v := (9 : Int32)) (z := 9) (by decide) e18_8; omega) (by decide) ?_
  refine z_iconst C (0 : Int32) dX5_succeeds_280 (by decide) ?_
  obtain rfl := Option.some.inj hf
  exact z_zreturn (v := (0 : Int32)) C (by decide) dX5_succeeds_281
/-! X5_runScript: depth 7 -/
def f_X5_runScript_b10 (n : Nat) (x1 : Int32) (y2 : Int64)   (c : CS) : Option (Int32 × CS × Int32) :=
  some ((1 : Int32), c, (0 : Int32))
set_option maxRecDepth 100000 in
set_option maxHeartbeats 4000000 in
theorem w_X5_runScript_b10 {E : zE} {X : zX} {h0 : Hp} {x : Nat} {n : Nat} {x1 : Int32} {y2 : Int64}   (C : zC E X RX5 cX5_runScript 5 (some .int) 7) (CX : zCx X)  {c : CS} {r : (Int32 × CS × Int32)} (hf : f_X5_runScript_b10 n x1 y2 c = some r) : zW E X 5 0 0 (vx_MQ (xb X) (zQr E r.1 (some (.int r.2.2)) (pC E h0 x r.2.1)) (zXC E (pC E h0 x r.2.1) r.1) (xa X) (xs X) 1 6 (zA E)) 10 (pC E h0 x c) [] [] := by
  unfold f_X5_runScript_b10 at hf
  obtain rfl := Option.some.inj hf
  exact z_throwS (text := "not 1 to 4 commands") C CX (1 : Int32) rfl (by decide) (by decide +kernel) (by decide) (by decide +kernel) kl_X5_43 ini_IllegalArgumentException (by decide +kernel) (by decide +kernel) (by decide +kernel) (Nat.le_of_ble_eq_true rfl) dX5_runScript_10 dX5_runScript_13 dX5_runScript_14 dX5_runScript_16 dX5_runScript_19
def f_X5_runScript_b36 (n : Nat) (x1 : Int32) (y2 : Int64)   (c : CS) : Option (Int32 × CS × Int32) :=
  some ((1 : Int32), c, (0 : Int32))
set_option maxRecDepth 100000 in
set_option maxHeartbeats 4000000 in
theorem w_X5_runScript_b36 {E : zE} {X : zX} {h0 : Hp} {x : Nat} {n : Nat} {x1 : Int32} {y2 : Int64}   (C : zC E X RX5 cX5_runScript 5 (some .int) 7) (CX : zCx X)  {c : CS} {r : (Int32 × CS × Int32)} (hf : f_X5_runScript_b36 n x1 y2 c = some r) : zW E X 5 0 0 (vx_MQ (xb X) (zQr E r.1 (some (.int r.2.2)) (pC E h0 x r.2.1)) (zXC E (pC E h0 x r.2.1) r.1) (xa X) (xs X) 1 6 (zA E)) 36 (pC E h0 x c) [] [] := by
  unfold f_X5_runScript_b36 at hf
  obtain rfl := Option.some.inj hf
  exact z_throwS (text := "negative, or too many digits") C CX (1 : Int32) rfl (by decide) (by decide +kernel) (by decide) (by decide +kernel) kl_X5_43 ini_IllegalArgumentException (by decide +kernel) (by decide +kernel) (by decide +kernel) (Nat.le_of_ble_eq_true rfl) dX5_runScript_36 dX5_runScript_39 dX5_runScript_40 dX5_runScript_42 dX5_runScript_45
def f_X5_runScript_h60 (n : Nat) (x1 : Int32) (y2 : Int64)  (K60 : CS → Int32 → Option (Int32 × CS × Int32)) (c : CS) (x4 : Int32) : Option (Int32 × CS × Int32) :=
  if x1 ≤ x4 then (some ((0 : Int32), c, (-1 : Int32))) else ((f_X5_withoutGroups n y2 ((x1 - (1 : Int32)) - x4)).bind (fun q74 => chk (¬ (10000 : Int64) = 0) ((f_X5_succeeds n c ((jlrem q74 (10000 : Int64)).toInt32)).bind (fun q82 => if q82.2 = 0 then (some ((0 : Int32), q82.1, x4)) else (K60 q82.1 (x4 + 1))))))
set_option maxRecDepth 100000 in
set_option maxHeartbeats 4000000 in
theorem w_X5_runScript_h60 {E : zE} {X : zX} {h0 : Hp} {x : Nat} {n : Nat} {x1 : Int32} {y2 : Int64}   (C : zC E X RX5 cX5_runScript 5 (some .int) 7) (CX : zCx X)  : ∀ (q : Nat) (c : CS) (x4 : Int32) (r : (Int32 × CS × Int32)), lo2 (f_X5_runScript_h60 n x1 y2) q c x4 = some r → zW E X 5 0 0 (vx_MQ (xb X) (zQr E r.1 (some (.int r.2.2)) (pC E h0 x r.2.1)) (zXC E (pC E h0 x r.2.1) r.1) (xa X) (xs X) 1 6 (zA E)) 60 (pC E h0 x c) [(0, .ref x), (1, .int x1), (2, .long y2), (4, .int x4)] [] := by
  refine lo2_ind _ ?_
  intro K60 hK60 c x4 r hf
  unfold f_X5_runScript_h60 at hf
  refine z_iload C dX5_runScript_60 3 rfl ?_
  refine z_iload_n C dX5_runScript_62 1 rfl ?_
  refine z_icmp_ge C 97 dX5_runScript_63 (by decide) (fun c63 => ?_) (fun c63 => ?_)
  · replace hf := ip c63 hf
    refine z_iconst C (-1 : Int32) dX5_runScript_97 (by decide) ?_
    obtain rfl := Option.some.inj hf
    exact z_xireturn C dX5_runScript_98
  · replace hf := iN c63 hf
    refine z_aload_n C dX5_runScript_66 0 rfl ?_
    refine z_lload_n C dX5_runScript_67 2 rfl ?_
    refine z_iload_n C dX5_runScript_68 1 rfl ?_
    refine z_iconst C (1 : Int32) dX5_runScript_69 (by decide) ?_
    refine z_isub C dX5_runScript_70 ?_
    refine z_iload C dX5_runScript_71 3 rfl ?_
    refine z_isub C dX5_runScript_73 ?_
    obtain ⟨q74, hq74, hf⟩ := bd_some hf
    refine iv_X5_227 C [.long y2, .int ((x1 - (1 : Int32)) - x4)] [.ref x] (ct_X5_withoutGroups hq74) rfl (by decide) rfl (Nat.le_of_ble_eq_true rfl) z_k0 dX5_runScript_74 ?_
    refine z_ldc2 C (10000 : Int64) dX5_runScript_77 cn_X5_236 ?_
    obtain ⟨c80, hf⟩ := chk_some hf
    refine z_lrem C dX5_runScript_80 c80 ?_
    refine z_l2i C dX5_runScript_81 ?_
    obtain ⟨q82, hq82, hf⟩ := bd_some hf
    refine iv_X5_238 C [.int ((jlrem q74 (10000 : Int64)).toInt32)] [] (ct_X5_succeeds hq82) pC_o rfl (by decide) rfl (Nat.le_of_ble_eq_true rfl) z_k0 dX5_runScript_82 ?_
    refine z_if_ne C 91 dX5_runScript_85 (by decide) (fun c85 => ?_) (fun c85 => ?_)
    · replace hf := iN c85 hf
      refine z_iinc (lv' := [(4, .int (x4 + 1)), (0, .ref x), (1, .int x1), (2, .long y2)]) C dX5_runScript_91 3 (x4 + 1) rfl rfl (by decide) rfl ?_
      refine z_goto C 60 dX5_runScript_94 (by decide) ?_
      exact z_sub [1, 2, 3, 0] rfl (hK60 _ _ _ hf)
    · replace hf := ip c85 hf
      refine z_iload C dX5_runScript_88 3 rfl ?_
      obtain rfl := Option.some.inj hf
      exact z_xireturn C dX5_runScript_90
def f_X5_runScript (n : Nat) (c : CS) (x1 : Int32) (y2 : Int64) : Option (Int32 × CS × Int32) :=
  if x1 < (1 : Int32) then (f_X5_runScript_b10 n x1 y2 c) else (if x1 ≤ (4 : Int32) then (if (lg_cmp y2 (0 : Int64)) < 0 then (f_X5_runScript_b36 n x1 y2 c) else ((f_X5_withoutGroups n y2 x1).bind (fun q28 => if (lg_cmp q28 (0 : Int64)) ≤ 0 then (chk (1 < 18 ∧ 0 < 18 ∧ 1 ≠ 0) ((f_X0_becomeLike (c.2.2 0) (c.2.2 1)).bind (fun q54 => lo2 (f_X5_runScript_h60 n x1 y2) n (cG c 1 q54) (0 : Int32)))) else (f_X5_runScript_b36 n x1 y2 c)))) else (f_X5_runScript_b10 n x1 y2 c))
set_option maxRecDepth 100000 in
set_option maxHeartbeats 4000000 in
theorem ct_X5_runScript {E : zE} {l : Launch} {h0 : Hp} {x : Nat} {n : Nat} {c : CS} {x1 : Int32} {y2 : Int64} {r : (Int32 × CS × Int32)} (hst : l.stackTraces = false) (hf : f_X5_runScript n c x1 y2 = some r) : zMX E l 7 yX5_runScript cX5_runScript 5 (some .int) [.ref x, .int x1, .long y2] (pC E h0 x c) r.1 (some (.int r.2.2)) (pC E h0 x r.2.1) := by
  refine zMX_of (lv := [(0, .ref x), (1, .int x1), (2, .long y2)]) hst (by decide +kernel) (Nat.le_of_ble_eq_true rfl) rfl (fun X hX C CX => ?_)
  subst hX
  replace C : zC E X RX5 cX5_runScript 5 (some .int) 7 := C
  unfold f_X5_runScript at hf
  refine z_iload_n C dX5_runScript_0 1 rfl ?_
  refine z_iconst C (1 : Int32) dX5_runScript_1 (by decide) ?_
  refine z_icmp_lt C 10 dX5_runScript_2 (by decide) (fun c2 => ?_) (fun c2 => ?_)
  · replace hf := ip c2 hf
    exact z_sub [] rfl (w_X5_runScript_b10 C CX hf)
  · replace hf := iN c2 hf
    refine z_iload_n C dX5_runScript_5 1 rfl ?_
    refine z_iconst C (4 : Int32) dX5_runScript_6 (by decide) ?_
    refine z_icmp_le C 20 dX5_runScript_7 (by decide) (fun c7 => ?_) (fun c7 => ?_)
    · replace hf := ip c7 hf
      refine z_lload_n C dX5_runScript_20 2 rfl ?_
      refine z_lconst C (0 : Int64) dX5_runScript_21 (by decide) ?_
      refine z_lcmp C dX5_runScript_22 ?_
      refine z_if_lt C 36 dX5_runScript_23 (by decide) (fun c23 => ?_) (fun c23 => ?_)
      · replace hf := ip c23 hf
        exact z_sub [] rfl (w_X5_runScript_b36 C CX hf)
      · replace hf := iN c23 hf
        refine z_lload_n C dX5_runScript_26 2 rfl ?_
        refine z_iload_n C dX5_runScript_27 1 rfl ?_
        obtain ⟨q28, hq28, hf⟩ := bd_some hf
        refine iv_X5_227 C [.long y2, .int x1] [] (ct_X5_withoutGroups hq28) rfl (by decide) rfl (Nat.le_of_ble_eq_true rfl) z_k0 dX5_runScript_28 ?_
        refine z_lconst C (0 : Int64) dX5_runScript_31 (by decide) ?_
        refine z_lcmp C dX5_runScript_32 ?_
        refine z_if_le C 46 dX5_runScript_33 (by decide) (fun c33 => ?_) (fun c33 => ?_)
        · replace hf := ip c33 hf
          refine z_aload_n C dX5_runScript_46 0 rfl ?_
          refine gf_X5_23 C dX5_runScript_47 ?_
          refine z_aload_n C dX5_runScript_50 0 rfl ?_
          refine gf_X5_19 C dX5_runScript_51 ?_
          obtain ⟨hk54, hf⟩ := chk_some hf
          obtain ⟨q54, hq54, hf⟩ := bd_some hf
          refine z_heap (pC_G2 hk54.1 hk54.2.1) ?_
          refine iv_X5_233 C [.ref (x + ga 0)] [] (ct_X0_becomeLike (ga_apart hk54.1 hk54.2.1 hk54.2.2 x) hq54) pG_o rfl (by decide) rfl (Nat.le_of_ble_eq_true rfl) z_k0 dX5_runScript_54 ?_
          refine z_heap (pC_G2' hk54.1 hk54.2.1 _) ?_
          refine z_iconst C (0 : Int32) dX5_runScript_57 (by decide) ?_
          refine z_istore (lv' := [(4, .int (0 : Int32)), (0, .ref x), (1, .int x1), (2, .long y2)]) C dX5_runScript_58 (by decide) rfl ?_
          exact z_sub [1, 2, 3, 0] rfl (w_X5_runScript_h60 C CX n _ _ _ hf)
        · replace hf := iN c33 hf
          exact z_sub [] rfl (w_X5_runScript_b36 C CX hf)
    · replace hf := iN c7 hf
      exact z_sub [] rfl (w_X5_runScript_b10 C CX hf)
/-! X5_simulateTurn: depth 5 -/
def f_X5_simulateTurn_b77 (n : Nat) (x1 : Int32)   (c : CS) (s0 : Int32) (s1 : Int32) : Option CS :=
  (f_X0_layIfPossible n (c.2.2 1) s1 s0).bind (fun q77 => some (cG c 1 q77.1))
set_option maxRecDepth 100000 in
set_option maxHeartbeats 4000000 in
theorem w_X5_simulateTurn_b77 {E : zE} {X : zX} {h0 : Hp} {x : Nat} {n : Nat} {x1 : Int32}   (C : zC E X RX5 cX5_simulateTurn 5 none 5)   {c : CS} {s0 : Int32} {s1 : Int32} {r : CS} (hf : f_X5_simulateTurn_b77 n x1 c s0 s1 = some r) : zW E X 5 0 0 (MQ (xb X) (zQ E none (pC E h0 x r)) (xa X) (xs X) 0 0 (zA E)) 77 (pC E h0 x c) [] [.int s0, .int s1, .ref (x + ga 1)] := by
  unfold f_X5_simulateTurn_b77 at hf
  obtain ⟨q77, hq77, hf⟩ := bd_some hf
  refine z_heap (pC_G (i := 1) (by decide)) ?_
  refine iv_X5_107 C [.int s1, .int s0] [] (ct_X0_layIfPossible hq77) pG_o rfl (by decide) rfl (Nat.le_of_ble_eq_true rfl) z_k0 dX5_simulateTurn_77 ?_
  refine z_heap (pC_G' (i := 1) (by decide) _) ?_
  refine z_pop C dX5_simulateTurn_80 rfl ?_
  refine z_goto C 113 dX5_simulateTurn_81 (by decide) ?_
  obtain rfl := Option.some.inj hf
  exact z_return C dX5_simulateTurn_113
def f_X5_simulateTurn (n : Nat) (c : CS) (x1 : Int32) : Option CS :=
  chk (¬ (16 : Int32) = 0) ((f_X0_isPlayed (c.2.2 1)).bind (fun q9 => if q9 = 0 then (chk (¬ (3 : Int32) = 0) ((f_X0_startRound n (c.2.2 1) ((2 : Int32) + (jrem (x1 / (16 : Int32)) (3 : Int32))) ((x1 / (16 : Int32)).toInt64)).bind (fun q26 => some (cG c 1 q26.1)))) else ((f_X0_playable n (c.2.2 1)).bind (fun q35 => (f_J6_bitCount_0f7a4 q35).bind (fun q40 => if q40 ≤ 0 then ((f_X0_canTakeFromHeap (c.2.2 1)).bind (fun q88 => if q88 = 0 then ((f_X0_skipTurn n (c.2.2 1)).bind (fun q109 => some (cG c 1 q109.1))) else ((f_X0_takeFromHeap (c.2.2 1)).bind (fun q98 => some (cG c 1 q98.1))))) else (chk (¬ (16 : Int32) = 0) (chk (¬ q40 = 0) ((f_X5_memberOf n q35 (jrem (jrem x1 (16 : Int32)) q40)).bind (fun q62 => chk (¬ (2 : Int32) = 0) (if (jrem (x1 / (16 : Int32)) (2 : Int32)) = (1 : Int32) then (f_X5_simulateTurn_b77 n x1 c (1 : Int32) q62) else (f_X5_simulateTurn_b77 n x1 c (0 : Int32) q62)))))))))))
set_option maxRecDepth 100000 in
set_option maxHeartbeats 4000000 in
theorem ct_X5_simulateTurn {E : zE} {l : Launch} {h0 : Hp} {x : Nat} {n : Nat} {c : CS} {x1 : Int32} {r : CS}  (hf : f_X5_simulateTurn n c x1 = some r) : zM E l 5 yX5_simulateTurn cX5_simulateTurn 5 none [.ref x, .int x1] (pC E h0 x c) none (pC E h0 x r) := by
  refine zM_of (lv := [(0, .ref x), (1, .int x1)]) (by decide +kernel) (Nat.le_of_ble_eq_true rfl) rfl (fun X hX C => ?_)
  subst hX
  replace C : zC E X RX5 cX5_simulateTurn 5 none 5 := C
  unfold f_X5_simulateTurn at hf
  refine z_iload_n C dX5_simulateTurn_0 1 rfl ?_
  refine z_bipush C (16 : Int32) dX5_simulateTurn_1 (by decide) ?_
  obtain ⟨c3, hf⟩ := chk_some hf
  refine z_idiv C dX5_simulateTurn_3 c3 ?_
  refine z_istore_n (lv' := [(2, .int (x1 / (16 : Int32))), (0, .ref x), (1, .int x1)]) C dX5_simulateTurn_4 (by decide) rfl ?_
  refine z_aload_n C dX5_simulateTurn_5 1 rfl ?_
  refine gf_X5_23 C dX5_simulateTurn_6 ?_
  obtain ⟨q9, hq9, hf⟩ := bd_some hf
  refine z_heap (pC_G (i := 1) (by decide)) ?_
  refine iv_X5_185 C [] [] (ct_X0_isPlayed hq9) pG_o rfl (by decide) rfl (Nat.le_of_ble_eq_true rfl) z_k0 dX5_simulateTurn_9 ?_
  refine z_heap (pC_G (i := 1) (by decide)).symm ?_
  refine z_if_ne C 31 dX5_simulateTurn_12 (by decide) (fun c12 => ?_) (fun c12 => ?_)
  · replace hf := iN c12 hf
    refine z_aload_n C dX5_simulateTurn_31 1 rfl ?_
    refine gf_X5_23 C dX5_simulateTurn_32 ?_
    obtain ⟨q35, hq35, hf⟩ := bd_some hf
    refine z_heap (pC_G (i := 1) (by decide)) ?_
    refine iv_X5_214 C [] [] (ct_X0_playable hq35) pG_o rfl (by decide) rfl (Nat.le_of_ble_eq_true rfl) z_k0 dX5_simulateTurn_35 ?_
    refine z_heap (pC_G (i := 1) (by decide)).symm ?_
    refine z_istore_n (lv' := [(3, .int q35), (2, .int (x1 / (16 : Int32))), (0, .ref x), (1, .int x1)]) C dX5_simulateTurn_38 (by decide) rfl ?_
    refine z_iload_n C dX5_simulateTurn_39 0 rfl ?_
    obtain ⟨q40, hq40, hf⟩ := bd_some hf
    refine iv_X5_266 C [.int q35] [] (ct_J6_bitCount_0f7a4 hq40) rfl (by decide) rfl (Nat.le_of_ble_eq_true rfl) z_k0 dX5_simulateTurn_40 ?_
    refine z_istore (lv' := [(4, .int q40), (3, .int q35), (2, .int (x1 / (16 : Int32))), (0, .ref x), (1, .int x1)]) C dX5_simulateTurn_43 (by decide) rfl ?_
    refine z_iload C dX5_simulateTurn_45 0 rfl ?_
    refine z_if_le C 84 dX5_simulateTurn_47 (by decide) (fun c47 => ?_) (fun c47 => ?_)
    · replace hf := ip c47 hf
      refine z_aload_n C dX5_simulateTurn_84 3 rfl ?_
      refine gf_X5_23 C dX5_simulateTurn_85 ?_
      obtain ⟨q88, hq88, hf⟩ := bd_some hf
      refine z_heap (pC_G (i := 1) (by decide)) ?_
      refine iv_X5_194 C [] [] (ct_X0_canTakeFromHeap hq88) pG_o rfl (by decide) rfl (Nat.le_of_ble_eq_true rfl) z_k0 dX5_simulateTurn_88 ?_
      refine z_heap (pC_G (i := 1) (by decide)).symm ?_
      refine z_if_eq C 105 dX5_simulateTurn_91 (by decide) (fun c91 => ?_) (fun c91 => ?_)
      · replace hf := ip c91 hf
        refine z_aload_n C dX5_simulateTurn_105 3 rfl ?_
        refine gf_X5_23 C dX5_simulateTurn_106 ?_
        obtain ⟨q109, hq109, hf⟩ := bd_some hf
        refine z_heap (pC_G (i := 1) (by decide)) ?_
        refine iv_X5_114 C [] [] (ct_X0_skipTurn hq109) pG_o rfl (by decide) rfl (Nat.le_of_ble_eq_true rfl) z_k0 dX5_simulateTurn_109 ?_
        refine z_heap (pC_G' (i := 1) (by decide) _) ?_
        refine z_pop C dX5_simulateTurn_112 rfl ?_
        obtain rfl := Option.some.inj hf
        exact z_return C dX5_simulateTurn_113
      · replace hf := iN c91 hf
        refine z_aload_n C dX5_simulateTurn_94 3 rfl ?_
        refine gf_X5_23 C dX5_simulateTurn_95 ?_
        obtain ⟨q98, hq98, hf⟩ := bd_some hf
        refine z_heap (pC_G (i := 1) (by decide)) ?_
        refine iv_X5_111 C [] [] (ct_X0_takeFromHeap hq98) pG_o rfl (by decide) rfl (Nat.le_of_ble_eq_true rfl) z_k0 dX5_simulateTurn_98 ?_
        refine z_heap (pC_G' (i := 1) (by decide) _) ?_
        refine z_pop C dX5_simulateTurn_101 rfl ?_
        refine z_goto C 113 dX5_simulateTurn_102 (by decide) ?_
        obtain rfl := Option.some.inj hf
        exact z_return C dX5_simulateTurn_113
    · replace hf := iN c47 hf
      refine z_aload_n C dX5_simulateTurn_50 3 rfl ?_
      refine gf_X5_23 C dX5_simulateTurn_51 ?_
      refine z_iload_n C dX5_simulateTurn_54 1 rfl ?_
      refine z_iload_n C dX5_simulateTurn_55 4 rfl ?_
      refine z_bipush C (16 : Int32) dX5_simulateTurn_56 (by decide) ?_
      obtain ⟨c58, hf⟩ := chk_some hf
      refine z_irem C dX5_simulateTurn_58 c58 ?_
      refine z_iload C dX5_simulateTurn_59 0 rfl ?_
      obtain ⟨c61, hf⟩ := chk_some hf
      refine z_irem C dX5_simulateTurn_61 c61 ?_
      obtain ⟨q62, hq62, hf⟩ := bd_some hf
      refine iv_X5_271 C [.int q35, .int (jrem (jrem x1 (16 : Int32)) q40)] [.ref (x + ga 1)] (ct_X5_memberOf hq62) rfl (by decide) rfl (Nat.le_of_ble_eq_true rfl) z_k0 dX5_simulateTurn_62 ?_
      refine z_iload_n C dX5_simulateTurn_65 2 rfl ?_
      refine z_iconst C (2 : Int32) dX5_simulateTurn_66 (by decide) ?_
      obtain ⟨c67, hf⟩ := chk_some hf
      refine z_irem C dX5_simulateTurn_67 c67 ?_
      refine z_iconst C (1 : Int32) dX5_simulateTurn_68 (by decide) ?_
      refine z_icmp_ne C 76 dX5_simulateTurn_69 (by decide) (fun c69 => ?_) (fun c69 => ?_)
      · replace hf := iN c69 hf
        refine z_iconst C (0 : Int32) dX5_simulateTurn_76 (by decide) ?_
        exact z_sub [] rfl (w_X5_simulateTurn_b77 C hf)
      · replace hf := ip c69 hf
        refine z_iconst C (1 : Int32) dX5_simulateTurn_72 (by decide) ?_
        refine z_goto C 77 dX5_simulateTurn_73 (by decide) ?_
        exact z_sub [] rfl (w_X5_simulateTurn_b77 C hf)
  · replace hf := ip c12 hf
    refine z_aload_n C dX5_simulateTurn_15 1 rfl ?_
    refine gf_X5_23 C dX5_simulateTurn_16 ?_
    refine z_iconst C (2 : Int32) dX5_simulateTurn_19 (by decide) ?_
    refine z_iload_n C dX5_simulateTurn_20 0 rfl ?_
    refine z_iconst C (3 : Int32) dX5_simulateTurn_21 (by decide) ?_
    obtain ⟨c22, hf⟩ := chk_some hf
    refine z_irem C dX5_simulateTurn_22 c22 ?_
    refine z_iadd C dX5_simulateTurn_23 ?_
    refine z_iload_n C dX5_simulateTurn_24 0 rfl ?_
    refine z_i2l C dX5_simulateTurn_25 ?_
    obtain ⟨q26, hq26, hf⟩ := bd_some hf
    refine z_heap (pC_G (i := 1) (by decide)) ?_
    refine iv_X5_103 C [.int ((2 : Int32) + (jrem (x1 / (16 : Int32)) (3 : Int32))), .long ((x1 / (16 : Int32)).toInt64)] [] (ct_X0_startRound hq26) pG_o rfl (by decide) rfl (Nat.le_of_ble_eq_true rfl) z_k0 dX5_simulateTurn_26 ?_
    refine z_heap (pC_G' (i := 1) (by decide) _) ?_
    refine z_pop C dX5_simulateTurn_29 rfl ?_
    obtain rfl := Option.some.inj hf
    exact z_return C dX5_simulateTurn_30
/-! X5_simulate: depth 6 -/
def f_X5_simulate_b12 (n : Nat) (y1 : Int64) (x3 : Int32)   (c : CS) : Option (Int32 × CS × Int32) :=
  some ((1 : Int32), c, (0 : Int32))
set_option maxRecDepth 100000 in
set_option maxHeartbeats 4000000 in
theorem w_X5_simulate_b12 {E : zE} {X : zX} {h0 : Hp} {x : Nat} {n : Nat} {y1 : Int64} {x3 : Int32}   (C : zC E X RX5 cX5_simulate 7 (some .int) 6) (CX : zCx X)  {c : CS} {r : (Int32 × CS × Int32)} (hf : f_X5_simulate_b12 n y1 x3 c = some r) : zW E X 7 0 0 (vx_MQ (xb X) (zQr E r.1 (some (.int r.2.2)) (pC E h0 x r.2.1)) (zXC E (pC E h0 x r.2.1) r.1) (xa X) (xs X) 1 6 (zA E)) 12 (pC E h0 x c) [] [] := by
  unfold f_X5_simulate_b12 at hf
  obtain rfl := Option.some.inj hf
  exact z_throwS (text := "not 1 to 200 turns") C CX (1 : Int32) rfl (by decide) (by decide +kernel) (by decide) (by decide +kernel) kl_X5_43 ini_IllegalArgumentException (by decide +kernel) (by decide +kernel) (by decide +kernel) (Nat.le_of_ble_eq_true rfl) dX5_simulate_12 dX5_simulate_15 dX5_simulate_16 dX5_simulate_18 dX5_simulate_21
def f_X5_simulate_h39 (n : Nat) (y1 : Int64) (x3 : Int32)  (K39 : CS → Int64 → Int32 → Option (Int32 × CS × Int32)) (c : CS) (y4 : Int64) (x6 : Int32) : Option (Int32 × CS × Int32) :=
  if x3 ≤ x6 then ((f_X0_roundsSoFar (c.2.2 1)).bind (fun q77 => (f_X0_roundsSoFar (c.2.2 0)).bind (fun q84 => (f_X0_line (c.2.2 1)).bind (fun q102 => (f_X2_size (c.2.2 1)).bind (fun q105 => (f_X0_heapSize (c.2.2 1)).bind (fun q114 => some ((0 : Int32), c, ((((10000 : Int32) * (q77 - q84)) + ((100 : Int32) * q105)) + q114)))))))) else (stt (((y4 * (6364136223846793005 : Int64)) + (1442695040888963407 : Int64))) (fun v1 => (f_X5_simulateTurn n c ((jlushr v1 (33 : Int32)).toInt32)).bind (fun q64 => K39 q64 v1 (x6 + 1))))
set_option maxRecDepth 100000 in
set_option maxHeartbeats 4000000 in
theorem w_X5_simulate_h39 {E : zE} {X : zX} {h0 : Hp} {x : Nat} {n : Nat} {y1 : Int64} {x3 : Int32}   (C : zC E X RX5 cX5_simulate 7 (some .int) 6) (CX : zCx X)  : ∀ (q : Nat) (c : CS) (y4 : Int64) (x6 : Int32) (r : (Int32 × CS × Int32)), lo3 (f_X5_simulate_h39 n y1 x3) q c y4 x6 = some r → zW E X 7 0 0 (vx_MQ (xb X) (zQr E r.1 (some (.int r.2.2)) (pC E h0 x r.2.1)) (zXC E (pC E h0 x r.2.1) r.1) (xa X) (xs X) 1 6 (zA E)) 39 (pC E h0 x c) [(0, .ref x), (3, .int x3), (4, .long y4), (6, .int x6)] [] := by
  refine lo3_ind _ ?_
  intro K39 hK39 c y4 x6 r hf
  unfold f_X5_simulate_h39 at hf
  refine z_iload C dX5_simulate_39 3 rfl ?_
  refine z_iload_n C dX5_simulate_41 1 rfl ?_
  refine z_icmp_ge C 73 dX5_simulate_42 (by decide) (fun c42 => ?_) (fun c42 => ?_)
  · replace hf := ip c42 hf
    refine z_aload_n C dX5_simulate_73 0 rfl ?_
    refine gf_X5_23 C dX5_simulate_74 ?_
    obtain ⟨q77, hq77, hf⟩ := bd_some hf
    refine z_heap (pC_G (i := 1) (by decide)) ?_
    refine iv_X5_182 C [] [] (ct_X0_roundsSoFar hq77) pG_o rfl (by decide) rfl (Nat.le_of_ble_eq_true rfl) z_k0 dX5_simulate_77 ?_
    refine z_heap (pC_G (i := 1) (by decide)).symm ?_
    refine z_aload_n C dX5_simulate_80 0 rfl ?_
    refine gf_X5_19 C dX5_simulate_81 ?_
    obtain ⟨q84, hq84, hf⟩ := bd_some hf
    refine z_heap (pC_G (i := 0) (by decide)) ?_
    refine iv_X5_182 C [] [.int q77] (ct_X0_roundsSoFar hq84) pG_o rfl (by decide) rfl (Nat.le_of_ble_eq_true rfl) z_k0 dX5_simulate_84 ?_
    refine z_heap (pC_G (i := 0) (by decide)).symm ?_
    refine z_isub C dX5_simulate_87 ?_
    refine z_istore (lv' := [(6, .int (q77 - q84)), (0, .ref x), (3, .int x3), (4, .long y4)]) C dX5_simulate_88 (by decide) rfl ?_
    refine z_sipush C (10000 : Int32) dX5_simulate_90 (by decide) ?_
    refine z_iload C dX5_simulate_93 0 rfl ?_
    refine z_imul C dX5_simulate_95 ?_
    refine z_bipush C (100 : Int32) dX5_simulate_96 (by decide) ?_
    refine z_aload_n C dX5_simulate_98 1 rfl ?_
    refine gf_X5_23 C dX5_simulate_99 ?_
    obtain ⟨q102, hq102, hf⟩ := bd_some hf
    refine z_heap (pC_G (i := 1) (by decide)) ?_
    refine iv_X5_137 C [] [.int (100 : Int32), .int ((10000 : Int32) * (q77 - q84))] (ct_X0_line hq102) pG_o rfl (by decide) rfl (Nat.le_of_ble_eq_true rfl) z_k0 dX5_simulate_102 ?_
    refine z_heap (pC_G (i := 1) (by decide)).symm ?_
    obtain ⟨q105, hq105, hf⟩ := bd_some hf
    refine z_heap (pC_G (i := 1) (by decide)) ?_
    refine iv_X5_141 C [] [.int (100 : Int32), .int ((10000 : Int32) * (q77 - q84))] (ct_X2_size hq105) pG_l rfl (by decide) rfl (Nat.le_of_ble_eq_true rfl) z_k0 dX5_simulate_105 ?_
    refine z_heap (pC_G (i := 1) (by decide)).symm ?_
    refine z_imul C dX5_simulate_108 ?_
    refine z_iadd C dX5_simulate_109 ?_
    refine z_aload_n C dX5_simulate_110 1 rfl ?_
    refine gf_X5_23 C dX5_simulate_111 ?_
    obtain ⟨q114, hq114, hf⟩ := bd_some hf
    refine z_heap (pC_G (i := 1) (by decide)) ?_
    refine iv_X5_263 C [] [.int (((10000 : Int32) * (q77 - q84)) + ((100 : Int32) * q105))] (ct_X0_heapSize hq114) pG_o rfl (by decide) rfl (Nat.le_of_ble_eq_true rfl) z_k0 dX5_simulate_114 ?_
    refine z_heap (pC_G (i := 1) (by decide)).symm ?_
    refine z_iadd C dX5_simulate_117 ?_
    obtain rfl := Option.some.inj hf
    exact z_xireturn C dX5_simulate_118
  · replace hf := iN c42 hf
    refine z_lload C dX5_simulate_45 2 rfl ?_
    refine z_ldc2 C (6364136223846793005 : Int64) dX5_simulate_47 cn_X5_255 ?_
    refine z_lmul C dX5_simulate_50 ?_
    refine z_ldc2 C (1442695040888963407 : Int64) dX5_simulate_51 cn_X5_257 ?_
    refine z_ladd C dX5_simulate_54 ?_
    obtain ⟨v1, ev1, hf⟩ := st_some hf
    refine z_stk (congrArg (fun z => Value.long z :: []) ev1.symm) ?_
    refine z_lstore (lv' := [(4, .long v1), (0, .ref x), (3, .int x3), (6, .int x6)]) C dX5_simulate_55 (by decide) rfl ?_
    refine z_aload_n C dX5_simulate_57 1 rfl ?_
    refine z_lload C dX5_simulate_58 0 rfl ?_
    refine z_bipush C (33 : Int32) dX5_simulate_60 (by decide) ?_
    refine z_lushr C dX5_simulate_62 ?_
    refine z_l2i C dX5_simulate_63 ?_
    obtain ⟨q64, hq64, hf⟩ := bd_some hf
    refine iv_X5_259 C [.int ((jlushr v1 (33 : Int32)).toInt32)] [] (ct_X5_simulateTurn hq64) pC_o rfl (by decide) rfl (Nat.le_of_ble_eq_true rfl) z_k0 dX5_simulate_64 ?_
    refine z_iinc (lv' := [(6, .int (x6 + 1)), (4, .long v1), (0, .ref x), (3, .int x3)]) C dX5_simulate_67 3 (x6 + 1) rfl rfl (by decide) rfl ?_
    refine z_goto C 39 dX5_simulate_70 (by decide) ?_
    exact z_sub [2, 3, 1, 0] rfl (hK39 _ _ _ _ hf)
def f_X5_simulate (n : Nat) (c : CS) (y1 : Int64) (x3 : Int32) : Option (Int32 × CS × Int32) :=
  if x3 < (1 : Int32) then (f_X5_simulate_b12 n y1 x3 c) else (if x3 ≤ (200 : Int32) then (chk (1 < 18 ∧ 0 < 18 ∧ 1 ≠ 0) ((f_X0_becomeLike (c.2.2 0) (c.2.2 1)).bind (fun q30 => lo3 (f_X5_simulate_h39 n y1 x3) n (cG c 1 q30) y1 (0 : Int32)))) else (f_X5_simulate_b12 n y1 x3 c))
set_option maxRecDepth 100000 in
set_option maxHeartbeats 4000000 in
theorem ct_X5_simulate {E : zE} {l : Launch} {h0 : Hp} {x : Nat} {n : Nat} {c : CS} {y1 : Int64} {x3 : Int32} {r : (Int32 × CS × Int32)} (hst : l.stackTraces = false) (hf : f_X5_simulate n c y1 x3 = some r) : zMX E l 6 yX5_simulate cX5_simulate 7 (some .int) [.ref x, .long y1, .int x3] (pC E h0 x c) r.1 (some (.int r.2.2)) (pC E h0 x r.2.1) := by
  refine zMX_of (lv := [(0, .ref x), (1, .long y1), (3, .int x3)]) hst (by decide +kernel) (Nat.le_of_ble_eq_true rfl) rfl (fun X hX C CX => ?_)
  subst hX
  replace C : zC E X RX5 cX5_simulate 7 (some .int) 6 := C
  unfold f_X5_simulate at hf
  refine z_iload_n C dX5_simulate_0 2 rfl ?_
  refine z_iconst C (1 : Int32) dX5_simulate_1 (by decide) ?_
  refine z_icmp_lt C 12 dX5_simulate_2 (by decide) (fun c2 => ?_) (fun c2 => ?_)
  · replace hf := ip c2 hf
    exact z_sub [] rfl (w_X5_simulate_b12 C CX hf)
  · replace hf := iN c2 hf
    refine z_iload_n C dX5_simulate_5 2 rfl ?_
    refine z_sipush C (200 : Int32) dX5_simulate_6 (by decide) ?_
    refine z_icmp_le C 22 dX5_simulate_9 (by decide) (fun c9 => ?_) (fun c9 => ?_)
    · replace hf := ip c9 hf
      refine z_aload_n C dX5_simulate_22 0 rfl ?_
      refine gf_X5_23 C dX5_simulate_23 ?_
      refine z_aload_n C dX5_simulate_26 0 rfl ?_
      refine gf_X5_19 C dX5_simulate_27 ?_
      obtain ⟨hk30, hf⟩ := chk_some hf
      obtain ⟨q30, hq30, hf⟩ := bd_some hf
      refine z_heap (pC_G2 hk30.1 hk30.2.1) ?_
      refine iv_X5_233 C [.ref (x + ga 0)] [] (ct_X0_becomeLike (ga_apart hk30.1 hk30.2.1 hk30.2.2 x) hq30) pG_o rfl (by decide) rfl (Nat.le_of_ble_eq_true rfl) z_k0 dX5_simulate_30 ?_
      refine z_heap (pC_G2' hk30.1 hk30.2.1 _) ?_
      refine z_lload_n C dX5_simulate_33 1 rfl ?_
      refine z_lstore (lv' := [(4, .long y1), (0, .ref x), (1, .long y1), (3, .int x3)]) C dX5_simulate_34 (by decide) rfl ?_
      refine z_iconst C (0 : Int32) dX5_simulate_36 (by decide) ?_
      refine z_istore (lv' := [(6, .int (0 : Int32)), (4, .long y1), (0, .ref x), (1, .long y1), (3, .int x3)]) C dX5_simulate_37 (by decide) rfl ?_
      exact z_sub [2, 4, 1, 0] rfl (w_X5_simulate_h39 C CX n _ _ _ _ hf)
    · replace hf := iN c9 hf
      exact z_sub [] rfl (w_X5_simulate_b12 C CX hf)
/-! X5_slotOf: depth 1 -/
def f_X5_slotOf (c : CS) (x1 : Int32) : Option Nat :=
  if x1 = 0 then (some 0) else (some 1)
set_option maxRecDepth 100000 in
set_option maxHeartbeats 4000000 in
theorem ct_X5_slotOf {E : zE} {l : Launch} {h0 : Hp} {x : Nat} {c : CS} {x1 : Int32} {r : Nat}  (hf : f_X5_slotOf c x1 = some r) : zM E l 1 yX5_slotOf cX5_slotOf 2 (some (.object "SpiralDominoes$Slot")) [.ref x, .int x1] (pC E h0 x c) (some (.ref (x + sa r))) (pC E h0 x c) := by
  refine zM_of (lv := [(0, .ref x), (1, .int x1)]) (by decide +kernel) (Nat.le_of_ble_eq_true rfl) rfl (fun X hX C => ?_)
  subst hX
  replace C : zC E X RX5 cX5_slotOf 2 (some (.object "SpiralDominoes$Slot")) 1 := C
  unfold f_X5_slotOf at hf
  refine z_iload_n C dX5_slotOf_0 1 rfl ?_
  refine z_if_ne C 11 dX5_slotOf_1 (by decide) (fun c1 => ?_) (fun c1 => ?_)
  · replace hf := iN c1 hf
    refine z_aload_n C dX5_slotOf_11 0 rfl ?_
    refine gf_X5_40 C dX5_slotOf_12 ?_
    obtain rfl := Option.some.inj hf
    exact z_areturn C (Or.inr ⟨_, rfl⟩) dX5_slotOf_15
  · replace hf := ip c1 hf
    refine z_aload_n C dX5_slotOf_4 0 rfl ?_
    refine gf_X5_36 C dX5_slotOf_5 ?_
    refine z_goto C 15 dX5_slotOf_8 (by decide) ?_
    obtain rfl := Option.some.inj hf
    exact z_areturn C (Or.inr ⟨_, rfl⟩) dX5_slotOf_15
/-! X5_save: depth 6 -/
def f_X5_save_b9 (x1 : Int32)   (c : CS) : Option (Int32 × CS × Int32) :=
  some ((3 : Int32), c, (0 : Int32))
set_option maxRecDepth 100000 in
set_option maxHeartbeats 4000000 in
theorem w_X5_save_b9 {E : zE} {X : zX} {h0 : Hp} {x : Nat} {x1 : Int32}   (C : zC E X RX5 cX5_save 2 (some .int) 6) (CX : zCx X)  {c : CS} {r : (Int32 × CS × Int32)} (hf : f_X5_save_b9 x1 c = some r) : zW E X 2 0 0 (vx_MQ (xb X) (zQr E r.1 (some (.int r.2.2)) (pC E h0 x r.2.1)) (zXC E (pC E h0 x r.2.1) r.1) (xa X) (xs X) 1 6 (zA E)) 9 (pC E h0 x c) [] [] := by
  unfold f_X5_save_b9 at hf
  obtain rfl := Option.some.inj hf
  exact z_throwSW (text := "no such save slot") C CX (3 : Int32) rfl (by decide) (by decide +kernel) (by decide) (by decide +kernel) kl_X5_128 ini_IndexOutOfBoundsException (by decide +kernel) (by decide +kernel) (by decide +kernel) (Nat.le_of_ble_eq_true rfl) dX5_save_9 dX5_save_12 dX5_save_13 dX5_save_16 dX5_save_19
def f_X5_save (c : CS) (x1 : Int32) : Option (Int32 × CS × Int32) :=
  if x1 < 0 then (f_X5_save_b9 x1 c) else (if x1 < (2 : Int32) then ((f_X5_slotOf c x1).bind (fun q22 => chk (q22 = 0 ∨ q22 = 1) ((f_X3_keep q22 c).bind (fun q29 => (f_X0_roundsSoFar (q29.2.2 0)).bind (fun q36 => some ((0 : Int32), q29, q36)))))) else (f_X5_save_b9 x1 c))
set_option maxRecDepth 100000 in
set_option maxHeartbeats 4000000 in
theorem ct_X5_save {E : zE} {l : Launch} {h0 : Hp} {x : Nat} {c : CS} {x1 : Int32} {r : (Int32 × CS × Int32)} (hst : l.stackTraces = false) (hf : f_X5_save c x1 = some r) : zMX E l 6 yX5_save cX5_save 2 (some .int) [.ref x, .int x1] (pC E h0 x c) r.1 (some (.int r.2.2)) (pC E h0 x r.2.1) := by
  refine zMX_of (lv := [(0, .ref x), (1, .int x1)]) hst (by decide +kernel) (Nat.le_of_ble_eq_true rfl) rfl (fun X hX C CX => ?_)
  subst hX
  replace C : zC E X RX5 cX5_save 2 (some .int) 6 := C
  unfold f_X5_save at hf
  refine z_iload_n C dX5_save_0 1 rfl ?_
  refine z_if_lt C 9 dX5_save_1 (by decide) (fun c1 => ?_) (fun c1 => ?_)
  · replace hf := ip c1 hf
    exact z_sub [] rfl (w_X5_save_b9 C CX hf)
  · replace hf := iN c1 hf
    refine z_iload_n C dX5_save_4 1 rfl ?_
    refine z_iconst C (2 : Int32) dX5_save_5 (by decide) ?_
    refine z_icmp_lt C 20 dX5_save_6 (by decide) (fun c6 => ?_) (fun c6 => ?_)
    · replace hf := ip c6 hf
      refine z_aload_n C dX5_save_20 0 rfl ?_
      refine z_iload_n C dX5_save_21 1 rfl ?_
      obtain ⟨q22, hq22, hf⟩ := bd_some hf
      refine iv_X5_276 C [.int x1] [] (ct_X5_slotOf hq22) pC_o rfl (by decide) rfl (Nat.le_of_ble_eq_true rfl) z_k0 dX5_save_22 ?_
      obtain ⟨hs22, hf⟩ := chk_some hf
      refine z_aload_n C dX5_save_25 0 rfl ?_
      refine gf_X5_19 C dX5_save_26 ?_
      obtain ⟨q29, hq29, hf⟩ := bd_some hf
      refine iv_X5_280 C [.ref (x + ga 0)] [] (ct_X3_keep hs22 hq29) (pC_sl hs22) rfl (by decide) rfl (Nat.le_of_ble_eq_true rfl) z_k0 dX5_save_29 ?_
      refine z_aload_n C dX5_save_32 0 rfl ?_
      refine gf_X5_19 C dX5_save_33 ?_
      obtain ⟨q36, hq36, hf⟩ := bd_some hf
      refine z_heap (pC_G (i := 0) (by decide)) ?_
      refine iv_X5_182 C [] [] (ct_X0_roundsSoFar hq36) pG_o rfl (by decide) rfl (Nat.le_of_ble_eq_true rfl) z_k0 dX5_save_36 ?_
      refine z_heap (pC_G (i := 0) (by decide)).symm ?_
      obtain rfl := Option.some.inj hf
      exact z_xireturn C dX5_save_39
    · replace hf := iN c6 hf
      exact z_sub [] rfl (w_X5_save_b9 C CX hf)
/-! X5_restore: depth 6 -/
def f_X5_restore_b9 (x1 : Int32)   (c : CS) : Option (Int32 × CS × Int32) :=
  some ((3 : Int32), c, (0 : Int32))
set_option maxRecDepth 100000 in
set_option maxHeartbeats 4000000 in
theorem w_X5_restore_b9 {E : zE} {X : zX} {h0 : Hp} {x : Nat} {x1 : Int32}   (C : zC E X RX5 cX5_restore 2 (some .int) 6) (CX : zCx X)  {c : CS} {r : (Int32 × CS × Int32)} (hf : f_X5_restore_b9 x1 c = some r) : zW E X 2 0 0 (vx_MQ (xb X) (zQr E r.1 (some (.int r.2.2)) (pC E h0 x r.2.1)) (zXC E (pC E h0 x r.2.1) r.1) (xa X) (xs X) 1 6 (zA E)) 9 (pC E h0 x c) [] [] := by
  unfold f_X5_restore_b9 at hf
  obtain rfl := Option.some.inj hf
  exact z_throwSW (text := "no such save slot") C CX (3 : Int32) rfl (by decide) (by decide +kernel) (by decide) (by decide +kernel) kl_X5_128 ini_IndexOutOfBoundsException (by decide +kernel) (by decide +kernel) (by decide +kernel) (Nat.le_of_ble_eq_true rfl) dX5_restore_9 dX5_restore_12 dX5_restore_13 dX5_restore_16 dX5_restore_19
def f_X5_restore (c : CS) (x1 : Int32) : Option (Int32 × CS × Int32) :=
  if x1 < 0 then (f_X5_restore_b9 x1 c) else (if x1 < (2 : Int32) then ((f_X5_slotOf c x1).bind (fun q22 => chk (q22 = 0 ∨ q22 = 1) ((f_X3_isFull q22 c).bind (fun q25 => if q25 = 0 then (some ((2 : Int32), c, (0 : Int32))) else ((f_X5_slotOf c x1).bind (fun q44 => chk (q44 = 0 ∨ q44 = 1) ((f_X3_giveBack q44 c).bind (fun q51 => (f_X1_forget q51).bind (fun q58 => (f_X0_roundsSoFar (q58.2.2 0)).bind (fun q65 => some ((0 : Int32), q58, q65))))))))))) else (f_X5_restore_b9 x1 c))
set_option maxRecDepth 100000 in
set_option maxHeartbeats 4000000 in
theorem ct_X5_restore {E : zE} {l : Launch} {h0 : Hp} {x : Nat} {c : CS} {x1 : Int32} {r : (Int32 × CS × Int32)} (hst : l.stackTraces = false) (hf : f_X5_restore c x1 = some r) : zMX E l 6 yX5_restore cX5_restore 2 (some .int) [.ref x, .int x1] (pC E h0 x c) r.1 (some (.int r.2.2)) (pC E h0 x r.2.1) := by
  refine zMX_of (lv := [(0, .ref x), (1, .int x1)]) hst (by decide +kernel) (Nat.le_of_ble_eq_true rfl) rfl (fun X hX C CX => ?_)
  subst hX
  replace C : zC E X RX5 cX5_restore 2 (some .int) 6 := C
  unfold f_X5_restore at hf
  refine z_iload_n C dX5_restore_0 1 rfl ?_
  refine z_if_lt C 9 dX5_restore_1 (by decide) (fun c1 => ?_) (fun c1 => ?_)
  · replace hf := ip c1 hf
    exact z_sub [] rfl (w_X5_restore_b9 C CX hf)
  · replace hf := iN c1 hf
    refine z_iload_n C dX5_restore_4 1 rfl ?_
    refine z_iconst C (2 : Int32) dX5_restore_5 (by decide) ?_
    refine z_icmp_lt C 20 dX5_restore_6 (by decide) (fun c6 => ?_) (fun c6 => ?_)
    · replace hf := ip c6 hf
      refine z_aload_n C dX5_restore_20 0 rfl ?_
      refine z_iload_n C dX5_restore_21 1 rfl ?_
      obtain ⟨q22, hq22, hf⟩ := bd_some hf
      refine iv_X5_276 C [.int x1] [] (ct_X5_slotOf hq22) pC_o rfl (by decide) rfl (Nat.le_of_ble_eq_true rfl) z_k0 dX5_restore_22 ?_
      obtain ⟨hs22, hf⟩ := chk_some hf
      obtain ⟨q25, hq25, hf⟩ := bd_some hf
      refine iv_X5_283 C [] [] (ct_X3_isFull hs22 hq25) (pC_sl hs22) rfl (by decide) rfl (Nat.le_of_ble_eq_true rfl) z_k0 dX5_restore_25 ?_
      refine z_if_ne C 42 dX5_restore_28 (by decide) (fun c28 => ?_) (fun c28 => ?_)
      · replace hf := iN c28 hf
        refine z_aload_n C dX5_restore_42 0 rfl ?_
        refine z_iload_n C dX5_restore_43 1 rfl ?_
        obtain ⟨q44, hq44, hf⟩ := bd_some hf
        refine iv_X5_276 C [.int x1] [] (ct_X5_slotOf hq44) pC_o rfl (by decide) rfl (Nat.le_of_ble_eq_true rfl) z_k0 dX5_restore_44 ?_
        obtain ⟨hs44, hf⟩ := chk_some hf
        refine z_aload_n C dX5_restore_47 0 rfl ?_
        refine gf_X5_19 C dX5_restore_48 ?_
        obtain ⟨q51, hq51, hf⟩ := bd_some hf
        refine iv_X5_286 C [.ref (x + ga 0)] [] (ct_X3_giveBack hs44 hq51) (pC_sl hs44) rfl (by decide) rfl (Nat.le_of_ble_eq_true rfl) z_k0 dX5_restore_51 ?_
        refine z_aload_n C dX5_restore_54 0 rfl ?_
        refine gf_X5_29 C dX5_restore_55 ?_
        obtain ⟨q58, hq58, hf⟩ := bd_some hf
        refine iv_X5_75 C [] [] (ct_X1_forget hq58) pC_h rfl (by decide) rfl (Nat.le_of_ble_eq_true rfl) z_k0 dX5_restore_58 ?_
        refine z_aload_n C dX5_restore_61 0 rfl ?_
        refine gf_X5_19 C dX5_restore_62 ?_
        obtain ⟨q65, hq65, hf⟩ := bd_some hf
        refine z_heap (pC_G (i := 0) (by decide)) ?_
        refine iv_X5_182 C [] [] (ct_X0_roundsSoFar hq65) pG_o rfl (by decide) rfl (Nat.le_of_ble_eq_true rfl) z_k0 dX5_restore_65 ?_
        refine z_heap (pC_G (i := 0) (by decide)).symm ?_
        obtain rfl := Option.some.inj hf
        exact z_xireturn C dX5_restore_68
      · replace hf := ip c28 hf
        obtain rfl := Option.some.inj hf
        exact z_throwSW (text := "nothing has been saved") C CX (2 : Int32) rfl (by decide) (by decide +kernel) (by decide) (by decide +kernel) kl_X5_54 ini_IllegalStateException (by decide +kernel) (by decide +kernel) (by decide +kernel) (Nat.le_of_ble_eq_true rfl) dX5_restore_31 dX5_restore_34 dX5_restore_35 dX5_restore_38 dX5_restore_41
    · replace hf := iN c6 hf
      exact z_sub [] rfl (w_X5_restore_b9 C CX hf)
