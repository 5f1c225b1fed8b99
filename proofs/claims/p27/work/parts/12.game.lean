/-! X0_becomeNew: depth 3 -/
def f_X0_becomeNew (n : Nat) (G : GS) : Option GS :=
  stt (gS (gS (gS (gS G 0 (0 : Int32)) 1 (0 : Int32)) 2 (0 : Int32)) 3 (0 : Int32)) (fun Gn1 => stt (gS (gS (gS (gS Gn1 4 (0 : Int32)) 5 (0 : Int32)) 6 (0 : Int32)) 7 (28 : Int32)) (fun Gn2 => (f_J7_fill_53178 n 28 (Gn2.2.2 1) (-1 : Int32)).bind (fun q46 => (f_J7_fill_53178 n 4 ((gA Gn2 1 q46).2.2 2) (0 : Int32)).bind (fun q54 => (f_J7_fill_53178 n 4 ((gA (gA Gn2 1 q46) 2 q54).2.2 3) (0 : Int32)).bind (fun q62 => (f_X2_becomeEmpty n (gA (gA (gA Gn2 1 q46) 2 q54) 3 q62)).bind (fun q69 => some q69))))))
set_option maxRecDepth 100000 in
set_option maxHeartbeats 4000000 in
theorem ct_X0_becomeNew {E : zE} {l : Launch} {h0 : Hp} {g : Nat} {n : Nat} {G : GS} {r : GS}  (hf : f_X0_becomeNew n G = some r) : zM E l 3 yX0_becomeNew cX0_becomeNew 1 none [.ref g] (pG E h0 g G) none (pG E h0 g r) := by
  refine zM_of (lv := [(0, .ref g)]) (by decide +kernel) (Nat.le_of_ble_eq_true rfl) rfl (fun X hX C => ?_)
  subst hX
  replace C : zC E X RX0 cX0_becomeNew 1 none 3 := C
  unfold f_X0_becomeNew at hf
  refine z_aload_n C dX0_becomeNew_0 0 rfl ?_
  refine z_iconst C (0 : Int32) dX0_becomeNew_1 (by decide) ?_
  refine pf_X0_34 C dX0_becomeNew_2 ?_
  refine z_aload_n C dX0_becomeNew_5 0 rfl ?_
  refine z_iconst C (0 : Int32) dX0_becomeNew_6 (by decide) ?_
  refine pf_X0_38 C dX0_becomeNew_7 ?_
  refine z_aload_n C dX0_becomeNew_10 0 rfl ?_
  refine z_iconst C (0 : Int32) dX0_becomeNew_11 (by decide) ?_
  refine pf_X0_41 C dX0_becomeNew_12 ?_
  refine z_aload_n C dX0_becomeNew_15 0 rfl ?_
  refine z_iconst C (0 : Int32) dX0_becomeNew_16 (by decide) ?_
  refine pf_X0_44 C dX0_becomeNew_17 ?_
  obtain ⟨Gn1, eGn1, hf⟩ := st_some hf
  refine z_heap (congrArg (fun z => (pG E h0 g z)) eGn1.symm) ?_
  refine z_aload_n C dX0_becomeNew_20 0 rfl ?_
  refine z_iconst C (0 : Int32) dX0_becomeNew_21 (by decide) ?_
  refine pf_X0_47 C dX0_becomeNew_22 ?_
  refine z_aload_n C dX0_becomeNew_25 0 rfl ?_
  refine z_iconst C (0 : Int32) dX0_becomeNew_26 (by decide) ?_
  refine pf_X0_50 C dX0_becomeNew_27 ?_
  refine z_aload_n C dX0_becomeNew_30 0 rfl ?_
  refine z_iconst C (0 : Int32) dX0_becomeNew_31 (by decide) ?_
  refine pf_X0_53 C dX0_becomeNew_32 ?_
  refine z_aload_n C dX0_becomeNew_35 0 rfl ?_
  refine z_bipush C (28 : Int32) dX0_becomeNew_36 (by decide) ?_
  refine pf_X0_56 C dX0_becomeNew_38 ?_
  obtain ⟨Gn2, eGn2, hf⟩ := st_some hf
  refine z_heap (congrArg (fun z => (pG E h0 g z)) eGn2.symm) ?_
  refine z_aload_n C dX0_becomeNew_41 0 rfl ?_
  refine gf_X0_15 C dX0_becomeNew_42 ?_
  refine z_iconst C (-1 : Int32) dX0_becomeNew_45 (by decide) ?_
  obtain ⟨q46, hq46, hf⟩ := bd_some hf
  refine z_heap (pI_of pG_a1) ?_
  refine iv_X0_59 C [.ref (g + 2), .int (-1 : Int32)] [] (ct_J7_fill_53178 (by decide) hq46) rfl (by decide) rfl (Nat.le_of_ble_eq_true rfl) z_k0 dX0_becomeNew_46 ?_
  refine z_heap (pG_w1 _) ?_
  refine z_aload_n C dX0_becomeNew_49 0 rfl ?_
  refine gf_X0_18 C dX0_becomeNew_50 ?_
  refine z_iconst C (0 : Int32) dX0_becomeNew_53 (by decide) ?_
  obtain ⟨q54, hq54, hf⟩ := bd_some hf
  refine z_heap (pI_of pG_a2) ?_
  refine iv_X0_59 C [.ref (g + 3), .int (0 : Int32)] [] (ct_J7_fill_53178 (by decide) hq54) rfl (by decide) rfl (Nat.le_of_ble_eq_true rfl) z_k0 dX0_becomeNew_54 ?_
  refine z_heap (pG_w2 _) ?_
  refine z_aload_n C dX0_becomeNew_57 0 rfl ?_
  refine gf_X0_21 C dX0_becomeNew_58 ?_
  refine z_iconst C (0 : Int32) dX0_becomeNew_61 (by decide) ?_
  obtain ⟨q62, hq62, hf⟩ := bd_some hf
  refine z_heap (pI_of pG_a3) ?_
  refine iv_X0_59 C [.ref (g + 4), .int (0 : Int32)] [] (ct_J7_fill_53178 (by decide) hq62) rfl (by decide) rfl (Nat.le_of_ble_eq_true rfl) z_k0 dX0_becomeNew_62 ?_
  refine z_heap (pG_w3 _) ?_
  refine z_aload_n C dX0_becomeNew_65 0 rfl ?_
  refine gf_X0_27 C dX0_becomeNew_66 ?_
  obtain ⟨q69, hq69, hf⟩ := bd_some hf
  refine iv_X0_65 C [] [] (ct_X2_becomeEmpty hq69) pG_l rfl (by decide) rfl (Nat.le_of_ble_eq_true rfl) z_k0 dX0_becomeNew_69 ?_
  obtain rfl := Option.some.inj hf
  exact z_return C dX0_becomeNew_72
/-! X0_line: depth 1 -/
def f_X0_line (G : GS) : Option Unit :=
  some ()
set_option maxRecDepth 100000 in
set_option maxHeartbeats 4000000 in
theorem ct_X0_line {E : zE} {l : Launch} {h0 : Hp} {g : Nat} {G : GS} {r : Unit}  (hf : f_X0_line G = some r) : zM E l 1 yX0_line cX0_line 1 (some (.object "SpiralDominoes$Line")) [.ref g] (pG E h0 g G) (some (.ref (g + 5))) (pG E h0 g G) := by
  refine zM_of (lv := [(0, .ref g)]) (by decide +kernel) (Nat.le_of_ble_eq_true rfl) rfl (fun X hX C => ?_)
  subst hX
  replace C : zC E X RX0 cX0_line 1 (some (.object "SpiralDominoes$Line")) 1 := C
  unfold f_X0_line at hf
  refine z_aload_n C dX0_line_0 0 rfl ?_
  refine gf_X0_27 C dX0_line_1 ?_
  obtain rfl := Option.some.inj hf
  exact z_areturn C (Or.inr ⟨_, rfl⟩) dX0_line_4
/-! X0_roundsSoFar: depth 1 -/
def f_X0_roundsSoFar (G : GS) : Option Int32 :=
  some (G.1 0)
set_option maxRecDepth 100000 in
set_option maxHeartbeats 4000000 in
theorem ct_X0_roundsSoFar {E : zE} {l : Launch} {h0 : Hp} {g : Nat} {G : GS} {r : Int32}  (hf : f_X0_roundsSoFar G = some r) : zM E l 1 yX0_roundsSoFar cX0_roundsSoFar 1 (some .int) [.ref g] (pG E h0 g G) (some (.int r)) (pG E h0 g G) := by
  refine zM_of (lv := [(0, .ref g)]) (by decide +kernel) (Nat.le_of_ble_eq_true rfl) rfl (fun X hX C => ?_)
  subst hX
  replace C : zC E X RX0 cX0_roundsSoFar 1 (some .int) 1 := C
  unfold f_X0_roundsSoFar at hf
  refine z_aload_n C dX0_roundsSoFar_0 0 rfl ?_
  refine gf_X0_34 C dX0_roundsSoFar_1 ?_
  obtain rfl := Option.some.inj hf
  exact z_ireturn C dX0_roundsSoFar_4
/-! X0_isPlayed: depth 1 -/
def f_X0_isPlayed (G : GS) : Option Int32 :=
  if (G.1 3) = (1 : Int32) then (some (1 : Int32)) else (some (0 : Int32))
set_option maxRecDepth 100000 in
set_option maxHeartbeats 4000000 in
theorem ct_X0_isPlayed {E : zE} {l : Launch} {h0 : Hp} {g : Nat} {G : GS} {r : Int32}  (hf : f_X0_isPlayed G = some r) : zM E l 1 yX0_isPlayed cX0_isPlayed 1 (some .boolean) [.ref g] (pG E h0 g G) (some (.int r)) (pG E h0 g G) := by
  refine zM_of (lv := [(0, .ref g)]) (by decide +kernel) (Nat.le_of_ble_eq_true rfl) rfl (fun X hX C => ?_)
  subst hX
  replace C : zC E X RX0 cX0_isPlayed 1 (some .boolean) 1 := C
  unfold f_X0_isPlayed at hf
  refine z_aload_n C dX0_isPlayed_0 0 rfl ?_
  refine gf_X0_44 C dX0_isPlayed_1 ?_
  refine z_iconst C (1 : Int32) dX0_isPlayed_4 (by decide) ?_
  refine z_icmp_ne C 12 dX0_isPlayed_5 (by decide) (fun c5 => ?_) (fun c5 => ?_)
  · replace hf := iN c5 hf
    refine z_iconst C (0 : Int32) dX0_isPlayed_12 (by decide) ?_
    obtain rfl := Option.some.inj hf
    exact z_zreturn (v := (0 : Int32)) C (by decide) dX0_isPlayed_13
  · replace hf := ip c5 hf
    refine z_iconst C (1 : Int32) dX0_isPlayed_8 (by decide) ?_
    refine z_goto C 13 dX0_isPlayed_9 (by decide) ?_
    obtain rfl := Option.some.inj hf
    exact z_zreturn (v := (1 : Int32)) C (by decide) dX0_isPlayed_13
/-! X0_playerToMove: depth 2 -/
def f_X0_playerToMove (G : GS) : Option Int32 :=
  (f_X0_isPlayed G).bind (fun q1 => if q1 = 0 then (some (-1 : Int32)) else (some (G.1 5)))
set_option maxRecDepth 100000 in
set_option maxHeartbeats 4000000 in
theorem ct_X0_playerToMove {E : zE} {l : Launch} {h0 : Hp} {g : Nat} {G : GS} {r : Int32}  (hf : f_X0_playerToMove G = some r) : zM E l 2 yX0_playerToMove cX0_playerToMove 1 (some .int) [.ref g] (pG E h0 g G) (some (.int r)) (pG E h0 g G) := by
  refine zM_of (lv := [(0, .ref g)]) (by decide +kernel) (Nat.le_of_ble_eq_true rfl) rfl (fun X hX C => ?_)
  subst hX
  replace C : zC E X RX0 cX0_playerToMove 1 (some .int) 2 := C
  unfold f_X0_playerToMove at hf
  refine z_aload_n C dX0_playerToMove_0 0 rfl ?_
  obtain ⟨q1, hq1, hf⟩ := bd_some hf
  refine iv_X0_78 C [] [] (ct_X0_isPlayed hq1) pG_o rfl (by decide) rfl (Nat.le_of_ble_eq_true rfl) z_k0 dX0_playerToMove_1 ?_
  refine z_if_eq C 14 dX0_playerToMove_4 (by decide) (fun c4 => ?_) (fun c4 => ?_)
  · replace hf := ip c4 hf
    refine z_iconst C (-1 : Int32) dX0_playerToMove_14 (by decide) ?_
    obtain rfl := Option.some.inj hf
    exact z_ireturn C dX0_playerToMove_15
  · replace hf := iN c4 hf
    refine z_aload_n C dX0_playerToMove_7 0 rfl ?_
    refine gf_X0_50 C dX0_playerToMove_8 ?_
    refine z_goto C 15 dX0_playerToMove_11 (by decide) ?_
    obtain rfl := Option.some.inj hf
    exact z_ireturn C dX0_playerToMove_15
/-! X0_heapSize: depth 1 -/
def f_X0_heapSize (G : GS) : Option Int32 :=
  some ((28 : Int32) - (G.1 7))
set_option maxRecDepth 100000 in
set_option maxHeartbeats 4000000 in
theorem ct_X0_heapSize {E : zE} {l : Launch} {h0 : Hp} {g : Nat} {G : GS} {r : Int32}  (hf : f_X0_heapSize G = some r) : zM E l 1 yX0_heapSize cX0_heapSize 1 (some .int) [.ref g] (pG E h0 g G) (some (.int r)) (pG E h0 g G) := by
  refine zM_of (lv := [(0, .ref g)]) (by decide +kernel) (Nat.le_of_ble_eq_true rfl) rfl (fun X hX C => ?_)
  subst hX
  replace C : zC E X RX0 cX0_heapSize 1 (some .int) 1 := C
  unfold f_X0_heapSize at hf
  refine z_bipush C (28 : Int32) dX0_heapSize_0 (by decide) ?_
  refine z_aload_n C dX0_heapSize_2 0 rfl ?_
  refine gf_X0_56 C dX0_heapSize_3 ?_
  refine z_isub C dX0_heapSize_6 ?_
  obtain rfl := Option.some.inj hf
  exact z_ireturn C dX0_heapSize_7
/-! X0_numberOfGame: depth 3 -/
def f_X0_numberOfGame (n : Nat) (G : GS) (x1 : Int32) : Option Int32 :=
  if x1 = (0 : Int32) then (some (G.1 0)) else (if x1 = (1 : Int32) then (some (G.1 3)) else (if x1 = (2 : Int32) then (some (G.1 4)) else (if x1 = (3 : Int32) then ((f_X0_playerToMove G).bind (fun q76 => some q76)) else (if x1 = (4 : Int32) then ((f_X0_heapSize G).bind (fun q81 => some q81)) else (if x1 = (5 : Int32) then ((f_X2_size G).bind (fun q89 => some q89)) else (if x1 = (6 : Int32) then ((f_X2_endOfNow G).bind (fun q97 => some q97)) else (if x1 = (7 : Int32) then ((f_X2_directionOfNow G).bind (fun q105 => some q105)) else (if x1 = (8 : Int32) then (some (G.1 6)) else (if x1 = (9 : Int32) then ((f_X2_pips n G).bind (fun q118 => some q118)) else (if x1 = (10 : Int32) then (some (G.1 1)) else (some (G.1 2))))))))))))
set_option maxRecDepth 100000 in
set_option maxHeartbeats 4000000 in
theorem ct_X0_numberOfGame {E : zE} {l : Launch} {h0 : Hp} {g : Nat} {n : Nat} {G : GS} {x1 : Int32} {r : Int32}  (hf : f_X0_numberOfGame n G x1 = some r) : zM E l 3 yX0_numberOfGame cX0_numberOfGame 2 (some .int) [.ref g, .int x1] (pG E h0 g G) (some (.int r)) (pG E h0 g G) := by
  refine zM_of (lv := [(0, .ref g), (1, .int x1)]) (by decide +kernel) (Nat.le_of_ble_eq_true rfl) rfl (fun X hX C => ?_)
  subst hX
  replace C : zC E X RX0 cX0_numberOfGame 2 (some .int) 3 := C
  unfold f_X0_numberOfGame at hf
  refine z_iload_n C dX0_numberOfGame_0 1 rfl ?_
  by_cases e1_0 : x1 = (0 : Int32)
  · replace hf := ip e1_0 hf
    refine z_stk (congrArg (fun z => Value.int z :: []) e1_0) ?_
    refine z_tableIn C 59 60 dX0_numberOfGame_1 (by decide) (by decide) (by decide) (by decide) ?_
    refine z_aload_n C dX0_numberOfGame_60 0 rfl ?_
    refine gf_X0_34 C dX0_numberOfGame_61 ?_
    obtain rfl := Option.some.inj hf
    exact z_ireturn C dX0_numberOfGame_64
  replace hf := iN e1_0 hf
  by_cases e1_1 : x1 = (1 : Int32)
  · replace hf := ip e1_1 hf
    refine z_stk (congrArg (fun z => Value.int z :: []) e1_1) ?_
    refine z_tableIn C 64 65 dX0_numberOfGame_1 (by decide) (by decide) (by decide) (by decide) ?_
    refine z_aload_n C dX0_numberOfGame_65 0 rfl ?_
    refine gf_X0_44 C dX0_numberOfGame_66 ?_
    obtain rfl := Option.some.inj hf
    exact z_ireturn C dX0_numberOfGame_69
  replace hf := iN e1_1 hf
  by_cases e1_2 : x1 = (2 : Int32)
  · replace hf := ip e1_2 hf
    refine z_stk (congrArg (fun z => Value.int z :: []) e1_2) ?_
    refine z_tableIn C 69 70 dX0_numberOfGame_1 (by decide) (by decide) (by decide) (by decide) ?_
    refine z_aload_n C dX0_numberOfGame_70 0 rfl ?_
    refine gf_X0_47 C dX0_numberOfGame_71 ?_
    obtain rfl := Option.some.inj hf
    exact z_ireturn C dX0_numberOfGame_74
  replace hf := iN e1_2 hf
  by_cases e1_3 : x1 = (3 : Int32)
  · replace hf := ip e1_3 hf
    refine z_stk (congrArg (fun z => Value.int z :: []) e1_3) ?_
    refine z_tableIn C 74 75 dX0_numberOfGame_1 (by decide) (by decide) (by decide) (by decide) ?_
    refine z_aload_n C dX0_numberOfGame_75 0 rfl ?_
    obtain ⟨q76, hq76, hf⟩ := bd_some hf
    refine iv_X0_82 C [] [] (ct_X0_playerToMove hq76) pG_o rfl (by decide) rfl (Nat.le_of_ble_eq_true rfl) z_k0 dX0_numberOfGame_76 ?_
    obtain rfl := Option.some.inj hf
    exact z_ireturn C dX0_numberOfGame_79
  replace hf := iN e1_3 hf
  by_cases e1_4 : x1 = (4 : Int32)
  · replace hf := ip e1_4 hf
    refine z_stk (congrArg (fun z => Value.int z :: []) e1_4) ?_
    refine z_tableIn C 79 80 dX0_numberOfGame_1 (by decide) (by decide) (by decide) (by decide) ?_
    refine z_aload_n C dX0_numberOfGame_80 0 rfl ?_
    obtain ⟨q81, hq81, hf⟩ := bd_some hf
    refine iv_X0_86 C [] [] (ct_X0_heapSize hq81) pG_o rfl (by decide) rfl (Nat.le_of_ble_eq_true rfl) z_k0 dX0_numberOfGame_81 ?_
    obtain rfl := Option.some.inj hf
    exact z_ireturn C dX0_numberOfGame_84
  replace hf := iN e1_4 hf
  by_cases e1_5 : x1 = (5 : Int32)
  · replace hf := ip e1_5 hf
    refine z_stk (congrArg (fun z => Value.int z :: []) e1_5) ?_
    refine z_tableIn C 84 85 dX0_numberOfGame_1 (by decide) (by decide) (by decide) (by decide) ?_
    refine z_aload_n C dX0_numberOfGame_85 0 rfl ?_
    refine gf_X0_27 C dX0_numberOfGame_86 ?_
    obtain ⟨q89, hq89, hf⟩ := bd_some hf
    refine iv_X0_89 C [] [] (ct_X2_size hq89) pG_l rfl (by decide) rfl (Nat.le_of_ble_eq_true rfl) z_k0 dX0_numberOfGame_89 ?_
    obtain rfl := Option.some.inj hf
    exact z_ireturn C dX0_numberOfGame_92
  replace hf := iN e1_5 hf
  by_cases e1_6 : x1 = (6 : Int32)
  · replace hf := ip e1_6 hf
    refine z_stk (congrArg (fun z => Value.int z :: []) e1_6) ?_
    refine z_tableIn C 92 93 dX0_numberOfGame_1 (by decide) (by decide) (by decide) (by decide) ?_
    refine z_aload_n C dX0_numberOfGame_93 0 rfl ?_
    refine gf_X0_27 C dX0_numberOfGame_94 ?_
    obtain ⟨q97, hq97, hf⟩ := bd_some hf
    refine iv_X0_92 C [] [] (ct_X2_endOfNow hq97) pG_l rfl (by decide) rfl (Nat.le_of_ble_eq_true rfl) z_k0 dX0_numberOfGame_97 ?_
    obtain rfl := Option.some.inj hf
    exact z_ireturn C dX0_numberOfGame_100
  replace hf := iN e1_6 hf
  by_cases e1_7 : x1 = (7 : Int32)
  · replace hf := ip e1_7 hf
    refine z_stk (congrArg (fun z => Value.int z :: []) e1_7) ?_
    refine z_tableIn C 100 101 dX0_numberOfGame_1 (by decide) (by decide) (by decide) (by decide) ?_
    refine z_aload_n C dX0_numberOfGame_101 0 rfl ?_
    refine gf_X0_27 C dX0_numberOfGame_102 ?_
    obtain ⟨q105, hq105, hf⟩ := bd_some hf
    refine iv_X0_95 C [] [] (ct_X2_directionOfNow hq105) pG_l rfl (by decide) rfl (Nat.le_of_ble_eq_true rfl) z_k0 dX0_numberOfGame_105 ?_
    obtain rfl := Option.some.inj hf
    exact z_ireturn C dX0_numberOfGame_108
  replace hf := iN e1_7 hf
  by_cases e1_8 : x1 = (8 : Int32)
  · replace hf := ip e1_8 hf
    refine z_stk (congrArg (fun z => Value.int z :: []) e1_8) ?_
    refine z_tableIn C 108 109 dX0_numberOfGame_1 (by decide) (by decide) (by decide) (by decide) ?_
    refine z_aload_n C dX0_numberOfGame_109 0 rfl ?_
    refine gf_X0_53 C dX0_numberOfGame_110 ?_
    obtain rfl := Option.some.inj hf
    exact z_ireturn C dX0_numberOfGame_113
  replace hf := iN e1_8 hf
  by_cases e1_9 : x1 = (9 : Int32)
  · replace hf := ip e1_9 hf
    refine z_stk (congrArg (fun z => Value.int z :: []) e1_9) ?_
    refine z_tableIn C 113 114 dX0_numberOfGame_1 (by decide) (by decide) (by decide) (by decide) ?_
    refine z_aload_n C dX0_numberOfGame_114 0 rfl ?_
    refine gf_X0_27 C dX0_numberOfGame_115 ?_
    obtain ⟨q118, hq118, hf⟩ := bd_some hf
    refine iv_X0_98 C [] [] (ct_X2_pips hq118) pG_l rfl (by decide) rfl (Nat.le_of_ble_eq_true rfl) z_k0 dX0_numberOfGame_118 ?_
    obtain rfl := Option.some.inj hf
    exact z_ireturn C dX0_numberOfGame_121
  replace hf := iN e1_9 hf
  by_cases e1_10 : x1 = (10 : Int32)
  · replace hf := ip e1_10 hf
    refine z_stk (congrArg (fun z => Value.int z :: []) e1_10) ?_
    refine z_tableIn C 121 122 dX0_numberOfGame_1 (by decide) (by decide) (by decide) (by decide) ?_
    refine z_aload_n C dX0_numberOfGame_122 0 rfl ?_
    refine gf_X0_38 C dX0_numberOfGame_123 ?_
    obtain rfl := Option.some.inj hf
    exact z_ireturn C dX0_numberOfGame_126
  replace hf := iN e1_10 hf
  refine z_tableOut C 127 dX0_numberOfGame_1 (by have n0 := ne_toInt (v := (0 : Int32)) (z := 0) (by decide) e1_0; have n1 := ne_toInt (v := (1 : Int32)) (z := 1) (by decide) e1_1; have n2 := ne_toInt (v := (2 : Int32)) (z := 2) (by decide) e1_2; have n3 := ne_toInt (v := (3 : Int32)) (z := 3) (by decide) e1_3; have n4 := ne_toInt (v := (4 : Int32)) (z := 4) (by decide) e1_4; have n5 := ne_toInt (v := (5 : Int32)) (z := 5) (by decide) e1_5; have n6 := ne_toInt (v := (6 : Int32)) (z := 6) (by decide) e1_6; have n7 := ne_toInt (v := (7 : Int32)) (z := 7) (by decide) e1_7; have n8 := ne_toInt (v := (8 : Int32)) (z := 8) (by decide) e1_8; have n9 := ne_toInt (v := (9 : Int32)) (z := 9) (by decide) e1_9; have n10 := ne_toInt (v := (10 : Int32)) (z := 10) (by decide) e1_10; omega) (by decide) ?_
  refine z_aload_n C dX0_numberOfGame_127 0 rfl ?_
  refine gf_X0_41 C dX0_numberOfGame_128 ?_
  obtain rfl := Option.some.inj hf
  exact z_ireturn C dX0_numberOfGame_131
/-! X0_holderOf: depth 2 -/
def f_X0_holderOf (G : GS) (x1 : Int32) : Option Int32 :=
  (f_X5_isTile x1).bind (fun q1 => if q1 = 0 then (some (-1 : Int32)) else (chk (inB x1 28) (some (G.2.2 1 x1.toNatClampNeg))))
set_option maxRecDepth 100000 in
set_option maxHeartbeats 4000000 in
theorem ct_X0_holderOf {E : zE} {l : Launch} {h0 : Hp} {g : Nat} {G : GS} {x1 : Int32} {r : Int32}  (hf : f_X0_holderOf G x1 = some r) : zM E l 2 yX0_holderOf cX0_holderOf 2 (some .int) [.ref g, .int x1] (pG E h0 g G) (some (.int r)) (pG E h0 g G) := by
  refine zM_of (lv := [(0, .ref g), (1, .int x1)]) (by decide +kernel) (Nat.le_of_ble_eq_true rfl) rfl (fun X hX C => ?_)
  subst hX
  replace C : zC E X RX0 cX0_holderOf 2 (some .int) 2 := C
  unfold f_X0_holderOf at hf
  refine z_iload_n C dX0_holderOf_0 1 rfl ?_
  obtain ⟨q1, hq1, hf⟩ := bd_some hf
  refine iv_X0_202 C [.int x1] [] (ct_X5_isTile hq1) rfl (by decide) rfl (Nat.le_of_ble_eq_true rfl) z_k0 dX0_holderOf_1 ?_
  refine z_if_eq C 16 dX0_holderOf_4 (by decide) (fun c4 => ?_) (fun c4 => ?_)
  · replace hf := ip c4 hf
    refine z_iconst C (-1 : Int32) dX0_holderOf_16 (by decide) ?_
    obtain rfl := Option.some.inj hf
    exact z_ireturn C dX0_holderOf_17
  · replace hf := iN c4 hf
    refine z_aload_n C dX0_holderOf_7 0 rfl ?_
    refine gf_X0_15 C dX0_holderOf_8 ?_
    refine z_iload_n C dX0_holderOf_11 1 rfl ?_
    obtain ⟨c12, hf⟩ := chk_some hf
    refine z_iald C pG_a1 c12 dX0_holderOf_12 ?_
    refine z_goto C 17 dX0_holderOf_13 (by decide) ?_
    obtain rfl := Option.some.inj hf
    exact z_ireturn C dX0_holderOf_17
/-! X0_placeInHeap: depth 1 -/
def f_X0_placeInHeap_b33 (n : Nat) (G : GS) (x1 : Int32) (K2 : Int32 → Option Int32)  (x2 : Int32) : Option Int32 :=
  K2 (x2 + 1)
set_option maxRecDepth 100000 in
set_option maxHeartbeats 4000000 in
theorem w_X0_placeInHeap_b33 {E : zE} {X : zX} {h0 : Hp} {g : Nat} {n : Nat} {G : GS} {x1 : Int32} {K2 : Int32 → Option Int32}  (C : zC E X RX0 cX0_placeInHeap 3 (some .int) 1)  (hK2 : ∀ (x2 : Int32) (r : Int32), K2 x2 = some r → zW E X 3 0 0 (MQ (xb X) (zQ E (some (.int r)) (pG E h0 g G)) (xa X) (xs X) 0 0 (zA E)) 2 (pG E h0 g G) [(0, .ref g), (1, .int x1), (2, .int x2)] []) {x2 : Int32} {r : Int32} (hf : f_X0_placeInHeap_b33 n G x1 K2 x2 = some r) : zW E X 3 0 0 (MQ (xb X) (zQ E (some (.int r)) (pG E h0 g G)) (xa X) (xs X) 0 0 (zA E)) 33 (pG E h0 g G) [(0, .ref g), (1, .int x1), (2, .int x2)] [] := by
  unfold f_X0_placeInHeap_b33 at hf
  refine z_iinc (lv' := [(2, .int (x2 + 1)), (0, .ref g), (1, .int x1)]) C dX0_placeInHeap_33 2 (x2 + 1) rfl rfl (by decide) rfl ?_
  refine z_goto C 2 dX0_placeInHeap_36 (by decide) ?_
  exact z_sub [1, 2, 0] rfl (hK2 _ _ hf)
def f_X0_placeInHeap_h2 (n : Nat) (G : GS) (x1 : Int32)  (K2 : Int32 → Option Int32) (x2 : Int32) : Option Int32 :=
  if (28 : Int32) ≤ x2 then (some (-1 : Int32)) else (if x2 < (G.1 7) then (f_X0_placeInHeap_b33 n G x1 K2 x2) else (chk (inB x2 28) (if (G.2.2 0 x2.toNatClampNeg) = x1 then (some (x2 - (G.1 7))) else (f_X0_placeInHeap_b33 n G x1 K2 x2))))
set_option maxRecDepth 100000 in
set_option maxHeartbeats 4000000 in
theorem w_X0_placeInHeap_h2 {E : zE} {X : zX} {h0 : Hp} {g : Nat} {n : Nat} {G : GS} {x1 : Int32}   (C : zC E X RX0 cX0_placeInHeap 3 (some .int) 1)   : ∀ (q : Nat) (x2 : Int32) (r : Int32), lo1 (f_X0_placeInHeap_h2 n G x1) q x2 = some r → zW E X 3 0 0 (MQ (xb X) (zQ E (some (.int r)) (pG E h0 g G)) (xa X) (xs X) 0 0 (zA E)) 2 (pG E h0 g G) [(0, .ref g), (1, .int x1), (2, .int x2)] [] := by
  refine lo1_ind _ ?_
  intro K2 hK2 x2 r hf
  unfold f_X0_placeInHeap_h2 at hf
  refine z_iload_n C dX0_placeInHeap_2 2 rfl ?_
  refine z_bipush C (28 : Int32) dX0_placeInHeap_3 (by decide) ?_
  refine z_icmp_ge C 39 dX0_placeInHeap_5 (by decide) (fun c5 => ?_) (fun c5 => ?_)
  · replace hf := ip c5 hf
    refine z_iconst C (-1 : Int32) dX0_placeInHeap_39 (by decide) ?_
    obtain rfl := Option.some.inj hf
    exact z_ireturn C dX0_placeInHeap_40
  · replace hf := iN c5 hf
    refine z_iload_n C dX0_placeInHeap_8 2 rfl ?_
    refine z_aload_n C dX0_placeInHeap_9 0 rfl ?_
    refine gf_X0_56 C dX0_placeInHeap_10 ?_
    refine z_icmp_lt C 33 dX0_placeInHeap_13 (by decide) (fun c13 => ?_) (fun c13 => ?_)
    · replace hf := ip c13 hf
      exact z_sub [0, 1, 2] rfl (w_X0_placeInHeap_b33 C hK2 hf)
    · replace hf := iN c13 hf
      refine z_aload_n C dX0_placeInHeap_16 0 rfl ?_
      refine gf_X0_9 C dX0_placeInHeap_17 ?_
      refine z_iload_n C dX0_placeInHeap_20 2 rfl ?_
      obtain ⟨c21, hf⟩ := chk_some hf
      refine z_iald C pG_a0 c21 dX0_placeInHeap_21 ?_
      refine z_iload_n C dX0_placeInHeap_22 1 rfl ?_
      refine z_icmp_ne C 33 dX0_placeInHeap_23 (by decide) (fun c23 => ?_) (fun c23 => ?_)
      · replace hf := iN c23 hf
        exact z_sub [0, 1, 2] rfl (w_X0_placeInHeap_b33 C hK2 hf)
      · replace hf := ip c23 hf
        refine z_iload_n C dX0_placeInHeap_26 2 rfl ?_
        refine z_aload_n C dX0_placeInHeap_27 0 rfl ?_
        refine gf_X0_56 C dX0_placeInHeap_28 ?_
        refine z_isub C dX0_placeInHeap_31 ?_
        obtain rfl := Option.some.inj hf
        exact z_ireturn C dX0_placeInHeap_32
def f_X0_placeInHeap (n : Nat) (G : GS) (x1 : Int32) : Option Int32 :=
  lo1 (f_X0_placeInHeap_h2 n G x1) n (0 : Int32)
set_option maxRecDepth 100000 in
set_option maxHeartbeats 4000000 in
theorem ct_X0_placeInHeap {E : zE} {l : Launch} {h0 : Hp} {g : Nat} {n : Nat} {G : GS} {x1 : Int32} {r : Int32}  (hf : f_X0_placeInHeap n G x1 = some r) : zM E l 1 yX0_placeInHeap cX0_placeInHeap 3 (some .int) [.ref g, .int x1] (pG E h0 g G) (some (.int r)) (pG E h0 g G) := by
  refine zM_of (lv := [(0, .ref g), (1, .int x1)]) (by decide +kernel) (Nat.le_of_ble_eq_true rfl) rfl (fun X hX C => ?_)
  subst hX
  replace C : zC E X RX0 cX0_placeInHeap 3 (some .int) 1 := C
  unfold f_X0_placeInHeap at hf
  refine z_iconst C (0 : Int32) dX0_placeInHeap_0 (by decide) ?_
  refine z_istore_n (lv' := [(2, .int (0 : Int32)), (0, .ref g), (1, .int x1)]) C dX0_placeInHeap_1 (by decide) rfl ?_
  exact z_sub [1, 2, 0] rfl (w_X0_placeInHeap_h2 C n _ _ hf)
/-! X0_numberOfTile: depth 3 -/
def f_X0_numberOfTile (n : Nat) (G : GS) (x1 : Int32) (x2 : Int32) : Option Int32 :=
  if x2 = (0 : Int32) then ((f_X5_lowOf x1).bind (fun q33 => some q33)) else (if x2 = (1 : Int32) then ((f_X5_highOf x1).bind (fun q38 => some q38)) else (if x2 = (2 : Int32) then ((f_X0_holderOf G x1).bind (fun q44 => some q44)) else (if x2 = (3 : Int32) then ((f_X2_placeOf n G x1).bind (fun q53 => some q53)) else ((f_X0_placeInHeap n G x1).bind (fun q59 => some q59)))))
set_option maxRecDepth 100000 in
set_option maxHeartbeats 4000000 in
theorem ct_X0_numberOfTile {E : zE} {l : Launch} {h0 : Hp} {g : Nat} {n : Nat} {G : GS} {x1 : Int32} {x2 : Int32} {r : Int32}  (hf : f_X0_numberOfTile n G x1 x2 = some r) : zM E l 3 yX0_numberOfTile cX0_numberOfTile 3 (some .int) [.ref g, .int x1, .int x2] (pG E h0 g G) (some (.int r)) (pG E h0 g G) := by
  refine zM_of (lv := [(0, .ref g), (1, .int x1), (2, .int x2)]) (by decide +kernel) (Nat.le_of_ble_eq_true rfl) rfl (fun X hX C => ?_)
  subst hX
  replace C : zC E X RX0 cX0_numberOfTile 3 (some .int) 3 := C
  unfold f_X0_numberOfTile at hf
  refine z_iload_n C dX0_numberOfTile_0 2 rfl ?_
  by_cases e1_0 : x2 = (0 : Int32)
  · replace hf := ip e1_0 hf
    refine z_stk (congrArg (fun z => Value.int z :: []) e1_0) ?_
    refine z_tableIn C 31 32 dX0_numberOfTile_1 (by decide) (by decide) (by decide) (by decide) ?_
    refine z_iload_n C dX0_numberOfTile_32 1 rfl ?_
    obtain ⟨q33, hq33, hf⟩ := bd_some hf
    refine iv_X0_101 C [.int x1] [] (ct_X5_lowOf hq33) rfl (by decide) rfl (Nat.le_of_ble_eq_true rfl) z_k0 dX0_numberOfTile_33 ?_
    obtain rfl := Option.some.inj hf
    exact z_ireturn C dX0_numberOfTile_36
  replace hf := iN e1_0 hf
  by_cases e1_1 : x2 = (1 : Int32)
  · replace hf := ip e1_1 hf
    refine z_stk (congrArg (fun z => Value.int z :: []) e1_1) ?_
    refine z_tableIn C 36 37 dX0_numberOfTile_1 (by decide) (by decide) (by decide) (by decide) ?_
    refine z_iload_n C dX0_numberOfTile_37 1 rfl ?_
    obtain ⟨q38, hq38, hf⟩ := bd_some hf
    refine iv_X0_105 C [.int x1] [] (ct_X5_highOf hq38) rfl (by decide) rfl (Nat.le_of_ble_eq_true rfl) z_k0 dX0_numberOfTile_38 ?_
    obtain rfl := Option.some.inj hf
    exact z_ireturn C dX0_numberOfTile_41
  replace hf := iN e1_1 hf
  by_cases e1_2 : x2 = (2 : Int32)
  · replace hf := ip e1_2 hf
    refine z_stk (congrArg (fun z => Value.int z :: []) e1_2) ?_
    refine z_tableIn C 41 42 dX0_numberOfTile_1 (by decide) (by decide) (by decide) (by decide) ?_
    refine z_aload_n C dX0_numberOfTile_42 0 rfl ?_
    refine z_iload_n C dX0_numberOfTile_43 1 rfl ?_
    obtain ⟨q44, hq44, hf⟩ := bd_some hf
    refine iv_X0_108 C [.int x1] [] (ct_X0_holderOf hq44) pG_o rfl (by decide) rfl (Nat.le_of_ble_eq_true rfl) z_k0 dX0_numberOfTile_44 ?_
    obtain rfl := Option.some.inj hf
    exact z_ireturn C dX0_numberOfTile_47
  replace hf := iN e1_2 hf
  by_cases e1_3 : x2 = (3 : Int32)
  · replace hf := ip e1_3 hf
    refine z_stk (congrArg (fun z => Value.int z :: []) e1_3) ?_
    refine z_tableIn C 47 48 dX0_numberOfTile_1 (by decide) (by decide) (by decide) (by decide) ?_
    refine z_aload_n C dX0_numberOfTile_48 0 rfl ?_
    refine gf_X0_27 C dX0_numberOfTile_49 ?_
    refine z_iload_n C dX0_numberOfTile_52 1 rfl ?_
    obtain ⟨q53, hq53, hf⟩ := bd_some hf
    refine iv_X0_111 C [.int x1] [] (ct_X2_placeOf hq53) pG_l rfl (by decide) rfl (Nat.le_of_ble_eq_true rfl) z_k0 dX0_numberOfTile_53 ?_
    obtain rfl := Option.some.inj hf
    exact z_ireturn C dX0_numberOfTile_56
  replace hf := iN e1_3 hf
  refine z_tableOut C 57 dX0_numberOfTile_1 (by have n0 := ne_toInt (v := (0 : Int32)) (z := 0) (by decide) e1_0; have n1 := ne_toInt (v := (1 : Int32)) (z := 1) (by decide) e1_1; have n2 := ne_toInt (v := (2 : Int32)) (z := 2) (by decide) e1_2; have n3 := ne_toInt (v := (3 : Int32)) (z := 3) (by decide) e1_3; omega) (by decide) ?_
  refine z_aload_n C dX0_numberOfTile_57 0 rfl ?_
  refine z_iload_n C dX0_numberOfTile_58 1 rfl ?_
  obtain ⟨q59, hq59, hf⟩ := bd_some hf
  refine iv_X0_114 C [.int x1] [] (ct_X0_placeInHeap hq59) pG_o rfl (by decide) rfl (Nat.le_of_ble_eq_true rfl) z_k0 dX0_numberOfTile_59 ?_
  obtain rfl := Option.some.inj hf
  exact z_ireturn C dX0_numberOfTile_62
/-! X0_pipsOf: depth 1 -/
def f_X0_pipsOf_b34 (n : Nat) (G : GS) (x1 : Int32) (K4 : Int32 → Int32 → Option Int32)  (x2 : Int32) (x3 : Int32) : Option Int32 :=
  K4 x2 (x3 + 1)
set_option maxRecDepth 100000 in
set_option maxHeartbeats 4000000 in
theorem w_X0_pipsOf_b34 {E : zE} {X : zX} {h0 : Hp} {g : Nat} {n : Nat} {G : GS} {x1 : Int32} {K4 : Int32 → Int32 → Option Int32}  (C : zC E X RX0 cX0_pipsOf 4 (some .int) 1)  (hK4 : ∀ (x2 : Int32) (x3 : Int32) (r : Int32), K4 x2 x3 = some r → zW E X 4 0 0 (MQ (xb X) (zQ E (some (.int r)) (pG E h0 g G)) (xa X) (xs X) 0 0 (zA E)) 4 (pG E h0 g G) [(0, .ref g), (1, .int x1), (2, .int x2), (3, .int x3)] []) {x2 : Int32} {x3 : Int32} {r : Int32} (hf : f_X0_pipsOf_b34 n G x1 K4 x2 x3 = some r) : zW E X 4 0 0 (MQ (xb X) (zQ E (some (.int r)) (pG E h0 g G)) (xa X) (xs X) 0 0 (zA E)) 34 (pG E h0 g G) [(0, .ref g), (1, .int x1), (2, .int x2), (3, .int x3)] [] := by
  unfold f_X0_pipsOf_b34 at hf
  refine z_iinc (lv' := [(3, .int (x3 + 1)), (0, .ref g), (1, .int x1), (2, .int x2)]) C dX0_pipsOf_34 3 (x3 + 1) rfl rfl (by decide) rfl ?_
  refine z_goto C 4 dX0_pipsOf_37 (by decide) ?_
  exact z_sub [1, 2, 3, 0] rfl (hK4 _ _ _ hf)
def f_X0_pipsOf_h4 (n : Nat) (G : GS) (x1 : Int32)  (K4 : Int32 → Int32 → Option Int32) (x2 : Int32) (x3 : Int32) : Option Int32 :=
  if (28 : Int32) ≤ x3 then (some x2) else (chk (inB x3 28) (if (G.2.2 1 x3.toNatClampNeg) = x1 then (chk (inB x3 28) (chk (inB x3 28) (stt ((x2 + ((lowT x3.toNatClampNeg) + (highT x3.toNatClampNeg)))) (fun v1 => f_X0_pipsOf_b34 n G x1 K4 v1 x3)))) else (f_X0_pipsOf_b34 n G x1 K4 x2 x3)))
set_option maxRecDepth 100000 in
set_option maxHeartbeats 4000000 in
theorem w_X0_pipsOf_h4 {E : zE} {X : zX} {h0 : Hp} {g : Nat} {n : Nat} {G : GS} {x1 : Int32}   (C : zC E X RX0 cX0_pipsOf 4 (some .int) 1)   : ∀ (q : Nat) (x2 : Int32) (x3 : Int32) (r : Int32), lo2 (f_X0_pipsOf_h4 n G x1) q x2 x3 = some r → zW E X 4 0 0 (MQ (xb X) (zQ E (some (.int r)) (pG E h0 g G)) (xa X) (xs X) 0 0 (zA E)) 4 (pG E h0 g G) [(0, .ref g), (1, .int x1), (2, .int x2), (3, .int x3)] [] := by
  refine lo2_ind _ ?_
  intro K4 hK4 x2 x3 r hf
  unfold f_X0_pipsOf_h4 at hf
  refine z_iload_n C dX0_pipsOf_4 3 rfl ?_
  refine z_bipush C (28 : Int32) dX0_pipsOf_5 (by decide) ?_
  refine z_icmp_ge C 40 dX0_pipsOf_7 (by decide) (fun c7 => ?_) (fun c7 => ?_)
  · replace hf := ip c7 hf
    refine z_iload_n C dX0_pipsOf_40 2 rfl ?_
    obtain rfl := Option.some.inj hf
    exact z_ireturn C dX0_pipsOf_41
  · replace hf := iN c7 hf
    refine z_aload_n C dX0_pipsOf_10 0 rfl ?_
    refine gf_X0_15 C dX0_pipsOf_11 ?_
    refine z_iload_n C dX0_pipsOf_14 3 rfl ?_
    obtain ⟨c15, hf⟩ := chk_some hf
    refine z_iald C pG_a1 c15 dX0_pipsOf_15 ?_
    refine z_iload_n C dX0_pipsOf_16 1 rfl ?_
    refine z_icmp_ne C 34 dX0_pipsOf_17 (by decide) (fun c17 => ?_) (fun c17 => ?_)
    · replace hf := iN c17 hf
      exact z_sub [0, 1, 2, 3] rfl (w_X0_pipsOf_b34 C hK4 hf)
    · replace hf := ip c17 hf
      refine z_iload_n C dX0_pipsOf_20 2 rfl ?_
      refine z_getsLowN C (by decide +kernel) dX0_pipsOf_21 ?_
      refine z_iload_n C dX0_pipsOf_24 3 rfl ?_
      obtain ⟨c25, hf⟩ := chk_some hf
      refine z_tldLow C c25 dX0_pipsOf_25 ?_
      refine z_getsHighN C (by decide +kernel) dX0_pipsOf_26 ?_
      refine z_iload_n C dX0_pipsOf_29 3 rfl ?_
      obtain ⟨c30, hf⟩ := chk_some hf
      refine z_tldHigh C c30 dX0_pipsOf_30 ?_
      refine z_iadd C dX0_pipsOf_31 ?_
      refine z_iadd C dX0_pipsOf_32 ?_
      obtain ⟨v1, ev1, hf⟩ := st_some hf
      refine z_stk (congrArg (fun z => Value.int z :: []) ev1.symm) ?_
      refine z_istore_n (lv' := [(2, .int v1), (0, .ref g), (1, .int x1), (3, .int x3)]) C dX0_pipsOf_33 (by decide) rfl ?_
      exact z_sub [1, 2, 0, 3] rfl (w_X0_pipsOf_b34 C hK4 hf)
def f_X0_pipsOf (n : Nat) (G : GS) (x1 : Int32) : Option Int32 :=
  lo2 (f_X0_pipsOf_h4 n G x1) n (0 : Int32) (0 : Int32)
set_option maxRecDepth 100000 in
set_option maxHeartbeats 4000000 in
theorem ct_X0_pipsOf {E : zE} {l : Launch} {h0 : Hp} {g : Nat} {n : Nat} {G : GS} {x1 : Int32} {r : Int32}  (hf : f_X0_pipsOf n G x1 = some r) : zM E l 1 yX0_pipsOf cX0_pipsOf 4 (some .int) [.ref g, .int x1] (pG E h0 g G) (some (.int r)) (pG E h0 g G) := by
  refine zM_of (lv := [(0, .ref g), (1, .int x1)]) (by decide +kernel) (Nat.le_of_ble_eq_true rfl) rfl (fun X hX C => ?_)
  subst hX
  replace C : zC E X RX0 cX0_pipsOf 4 (some .int) 1 := C
  unfold f_X0_pipsOf at hf
  refine z_iconst C (0 : Int32) dX0_pipsOf_0 (by decide) ?_
  refine z_istore_n (lv' := [(2, .int (0 : Int32)), (0, .ref g), (1, .int x1)]) C dX0_pipsOf_1 (by decide) rfl ?_
  refine z_iconst C (0 : Int32) dX0_pipsOf_2 (by decide) ?_
  refine z_istore_n (lv' := [(3, .int (0 : Int32)), (2, .int (0 : Int32)), (0, .ref g), (1, .int x1)]) C dX0_pipsOf_3 (by decide) rfl ?_
  exact z_sub [2, 3, 1, 0] rfl (w_X0_pipsOf_h4 C n _ _ _ hf)
/-! X0_handOf: depth 1 -/
def f_X0_handOf_b26 (n : Nat) (G : GS) (x1 : Int32) (K4 : Int32 → Int32 → Option Int32)  (x2 : Int32) (x3 : Int32) : Option Int32 :=
  K4 x2 (x3 + 1)
set_option maxRecDepth 100000 in
set_option maxHeartbeats 4000000 in
theorem w_X0_handOf_b26 {E : zE} {X : zX} {h0 : Hp} {g : Nat} {n : Nat} {G : GS} {x1 : Int32} {K4 : Int32 → Int32 → Option Int32}  (C : zC E X RX0 cX0_handOf 4 (some .int) 1)  (hK4 : ∀ (x2 : Int32) (x3 : Int32) (r : Int32), K4 x2 x3 = some r → zW E X 4 0 0 (MQ (xb X) (zQ E (some (.int r)) (pG E h0 g G)) (xa X) (xs X) 0 0 (zA E)) 4 (pG E h0 g G) [(0, .ref g), (1, .int x1), (2, .int x2), (3, .int x3)] []) {x2 : Int32} {x3 : Int32} {r : Int32} (hf : f_X0_handOf_b26 n G x1 K4 x2 x3 = some r) : zW E X 4 0 0 (MQ (xb X) (zQ E (some (.int r)) (pG E h0 g G)) (xa X) (xs X) 0 0 (zA E)) 26 (pG E h0 g G) [(0, .ref g), (1, .int x1), (2, .int x2), (3, .int x3)] [] := by
  unfold f_X0_handOf_b26 at hf
  refine z_iinc (lv' := [(3, .int (x3 + 1)), (0, .ref g), (1, .int x1), (2, .int x2)]) C dX0_handOf_26 3 (x3 + 1) rfl rfl (by decide) rfl ?_
  refine z_goto C 4 dX0_handOf_29 (by decide) ?_
  exact z_sub [1, 2, 3, 0] rfl (hK4 _ _ _ hf)
def f_X0_handOf_h4 (n : Nat) (G : GS) (x1 : Int32)  (K4 : Int32 → Int32 → Option Int32) (x2 : Int32) (x3 : Int32) : Option Int32 :=
  if (28 : Int32) ≤ x3 then (some x2) else (chk (inB x3 28) (if (G.2.2 1 x3.toNatClampNeg) = x1 then (f_X0_handOf_b26 n G x1 K4 (x2 ||| (jshl (1 : Int32) x3)) x3) else (f_X0_handOf_b26 n G x1 K4 x2 x3)))
set_option maxRecDepth 100000 in
set_option maxHeartbeats 4000000 in
theorem w_X0_handOf_h4 {E : zE} {X : zX} {h0 : Hp} {g : Nat} {n : Nat} {G : GS} {x1 : Int32}   (C : zC E X RX0 cX0_handOf 4 (some .int) 1)   : ∀ (q : Nat) (x2 : Int32) (x3 : Int32) (r : Int32), lo2 (f_X0_handOf_h4 n G x1) q x2 x3 = some r → zW E X 4 0 0 (MQ (xb X) (zQ E (some (.int r)) (pG E h0 g G)) (xa X) (xs X) 0 0 (zA E)) 4 (pG E h0 g G) [(0, .ref g), (1, .int x1), (2, .int x2), (3, .int x3)] [] := by
  refine lo2_ind _ ?_
  intro K4 hK4 x2 x3 r hf
  unfold f_X0_handOf_h4 at hf
  refine z_iload_n C dX0_handOf_4 3 rfl ?_
  refine z_bipush C (28 : Int32) dX0_handOf_5 (by decide) ?_
  refine z_icmp_ge C 32 dX0_handOf_7 (by decide) (fun c7 => ?_) (fun c7 => ?_)
  · replace hf := ip c7 hf
    refine z_iload_n C dX0_handOf_32 2 rfl ?_
    obtain rfl := Option.some.inj hf
    exact z_ireturn C dX0_handOf_33
  · replace hf := iN c7 hf
    refine z_aload_n C dX0_handOf_10 0 rfl ?_
    refine gf_X0_15 C dX0_handOf_11 ?_
    refine z_iload_n C dX0_handOf_14 3 rfl ?_
    obtain ⟨c15, hf⟩ := chk_some hf
    refine z_iald C pG_a1 c15 dX0_handOf_15 ?_
    refine z_iload_n C dX0_handOf_16 1 rfl ?_
    refine z_icmp_ne C 26 dX0_handOf_17 (by decide) (fun c17 => ?_) (fun c17 => ?_)
    · replace hf := iN c17 hf
      exact z_sub [0, 1, 2, 3] rfl (w_X0_handOf_b26 C hK4 hf)
    · replace hf := ip c17 hf
      refine z_iload_n C dX0_handOf_20 2 rfl ?_
      refine z_iconst C (1 : Int32) dX0_handOf_21 (by decide) ?_
      refine z_iload_n C dX0_handOf_22 3 rfl ?_
      refine z_ishl C dX0_handOf_23 ?_
      refine z_ior C dX0_handOf_24 ?_
      refine z_istore_n (lv' := [(2, .int (x2 ||| (jshl (1 : Int32) x3))), (0, .ref g), (1, .int x1), (3, .int x3)]) C dX0_handOf_25 (by decide) rfl ?_
      exact z_sub [1, 2, 0, 3] rfl (w_X0_handOf_b26 C hK4 hf)
def f_X0_handOf (n : Nat) (G : GS) (x1 : Int32) : Option Int32 :=
  lo2 (f_X0_handOf_h4 n G x1) n (0 : Int32) (0 : Int32)
set_option maxRecDepth 100000 in
set_option maxHeartbeats 4000000 in
theorem ct_X0_handOf {E : zE} {l : Launch} {h0 : Hp} {g : Nat} {n : Nat} {G : GS} {x1 : Int32} {r : Int32}  (hf : f_X0_handOf n G x1 = some r) : zM E l 1 yX0_handOf cX0_handOf 4 (some .int) [.ref g, .int x1] (pG E h0 g G) (some (.int r)) (pG E h0 g G) := by
  refine zM_of (lv := [(0, .ref g), (1, .int x1)]) (by decide +kernel) (Nat.le_of_ble_eq_true rfl) rfl (fun X hX C => ?_)
  subst hX
  replace C : zC E X RX0 cX0_handOf 4 (some .int) 1 := C
  unfold f_X0_handOf at hf
  refine z_iconst C (0 : Int32) dX0_handOf_0 (by decide) ?_
  refine z_istore_n (lv' := [(2, .int (0 : Int32)), (0, .ref g), (1, .int x1)]) C dX0_handOf_1 (by decide) rfl ?_
  refine z_iconst C (0 : Int32) dX0_handOf_2 (by decide) ?_
  refine z_istore_n (lv' := [(3, .int (0 : Int32)), (2, .int (0 : Int32)), (0, .ref g), (1, .int x1)]) C dX0_handOf_3 (by decide) rfl ?_
  exact z_sub [2, 3, 1, 0] rfl (w_X0_handOf_h4 C n _ _ _ hf)
/-! X0_tilesOf: depth 2 -/
def f_X0_tilesOf (n : Nat) (G : GS) (x1 : Int32) : Option Int32 :=
  (f_X0_handOf n G x1).bind (fun q2 => (f_J6_bitCount_0f7a4 q2).bind (fun q5 => some q5))
set_option maxRecDepth 100000 in
set_option maxHeartbeats 4000000 in
theorem ct_X0_tilesOf {E : zE} {l : Launch} {h0 : Hp} {g : Nat} {n : Nat} {G : GS} {x1 : Int32} {r : Int32}  (hf : f_X0_tilesOf n G x1 = some r) : zM E l 2 yX0_tilesOf cX0_tilesOf 2 (some .int) [.ref g, .int x1] (pG E h0 g G) (some (.int r)) (pG E h0 g G) := by
  refine zM_of (lv := [(0, .ref g), (1, .int x1)]) (by decide +kernel) (Nat.le_of_ble_eq_true rfl) rfl (fun X hX C => ?_)
  subst hX
  replace C : zC E X RX0 cX0_tilesOf 2 (some .int) 2 := C
  unfold f_X0_tilesOf at hf
  refine z_aload_n C dX0_tilesOf_0 0 rfl ?_
  refine z_iload_n C dX0_tilesOf_1 1 rfl ?_
  obtain ⟨q2, hq2, hf⟩ := bd_some hf
  refine iv_X0_127 C [.int x1] [] (ct_X0_handOf hq2) pG_o rfl (by decide) rfl (Nat.le_of_ble_eq_true rfl) z_k0 dX0_tilesOf_2 ?_
  obtain ⟨q5, hq5, hf⟩ := bd_some hf
  refine iv_X0_130 C [.int q2] [] (ct_J6_bitCount_0f7a4 hq5) rfl (by decide) rfl (Nat.le_of_ble_eq_true rfl) z_k0 dX0_tilesOf_5 ?_
  obtain rfl := Option.some.inj hf
  exact z_ireturn C dX0_tilesOf_8
/-! X0_numberOfPlayer: depth 3 -/
def f_X0_numberOfPlayer (n : Nat) (G : GS) (x1 : Int32) (x2 : Int32) : Option Int32 :=
  (f_X5_isPlayer x1).bind (fun q1 => if q1 = 0 then (some (-1 : Int32)) else (if x2 = (0 : Int32) then ((f_X0_tilesOf n G x1).bind (fun q38 => some q38)) else (if x2 = (1 : Int32) then ((f_X0_pipsOf n G x1).bind (fun q44 => some q44)) else (if x2 = (2 : Int32) then (chk (inB x1 4) (some (G.2.2 2 x1.toNatClampNeg))) else (chk (inB x1 4) (some (G.2.2 3 x1.toNatClampNeg)))))))
set_option maxRecDepth 100000 in
set_option maxHeartbeats 4000000 in
theorem ct_X0_numberOfPlayer {E : zE} {l : Launch} {h0 : Hp} {g : Nat} {n : Nat} {G : GS} {x1 : Int32} {x2 : Int32} {r : Int32}  (hf : f_X0_numberOfPlayer n G x1 x2 = some r) : zM E l 3 yX0_numberOfPlayer cX0_numberOfPlayer 3 (some .int) [.ref g, .int x1, .int x2] (pG E h0 g G) (some (.int r)) (pG E h0 g G) := by
  refine zM_of (lv := [(0, .ref g), (1, .int x1), (2, .int x2)]) (by decide +kernel) (Nat.le_of_ble_eq_true rfl) rfl (fun X hX C => ?_)
  subst hX
  replace C : zC E X RX0 cX0_numberOfPlayer 3 (some .int) 3 := C
  unfold f_X0_numberOfPlayer at hf
  refine z_iload_n C dX0_numberOfPlayer_0 1 rfl ?_
  obtain ⟨q1, hq1, hf⟩ := bd_some hf
  refine iv_X0_117 C [.int x1] [] (ct_X5_isPlayer hq1) rfl (by decide) rfl (Nat.le_of_ble_eq_true rfl) z_k0 dX0_numberOfPlayer_1 ?_
  refine z_if_ne C 9 dX0_numberOfPlayer_4 (by decide) (fun c4 => ?_) (fun c4 => ?_)
  · replace hf := iN c4 hf
    refine z_iload_n C dX0_numberOfPlayer_9 2 rfl ?_
    by_cases e10_0 : x2 = (0 : Int32)
    · replace hf := ip e10_0 hf
      refine z_stk (congrArg (fun z => Value.int z :: []) e10_0) ?_
      refine z_tableIn C 26 36 dX0_numberOfPlayer_10 (by decide) (by decide) (by decide) (by decide) ?_
      refine z_aload_n C dX0_numberOfPlayer_36 0 rfl ?_
      refine z_iload_n C dX0_numberOfPlayer_37 1 rfl ?_
      obtain ⟨q38, hq38, hf⟩ := bd_some hf
      refine iv_X0_121 C [.int x1] [] (ct_X0_tilesOf hq38) pG_o rfl (by decide) rfl (Nat.le_of_ble_eq_true rfl) z_k0 dX0_numberOfPlayer_38 ?_
      obtain rfl := Option.some.inj hf
      exact z_ireturn C dX0_numberOfPlayer_41
    replace hf := iN e10_0 hf
    by_cases e10_1 : x2 = (1 : Int32)
    · replace hf := ip e10_1 hf
      refine z_stk (congrArg (fun z => Value.int z :: []) e10_1) ?_
      refine z_tableIn C 32 42 dX0_numberOfPlayer_10 (by decide) (by decide) (by decide) (by decide) ?_
      refine z_aload_n C dX0_numberOfPlayer_42 0 rfl ?_
      refine z_iload_n C dX0_numberOfPlayer_43 1 rfl ?_
      obtain ⟨q44, hq44, hf⟩ := bd_some hf
      refine iv_X0_124 C [.int x1] [] (ct_X0_pipsOf hq44) pG_o rfl (by decide) rfl (Nat.le_of_ble_eq_true rfl) z_k0 dX0_numberOfPlayer_44 ?_
      obtain rfl := Option.some.inj hf
      exact z_ireturn C dX0_numberOfPlayer_47
    replace hf := iN e10_1 hf
    by_cases e10_2 : x2 = (2 : Int32)
    · replace hf := ip e10_2 hf
      refine z_stk (congrArg (fun z => Value.int z :: []) e10_2) ?_
      refine z_tableIn C 38 48 dX0_numberOfPlayer_10 (by decide) (by decide) (by decide) (by decide) ?_
      refine z_aload_n C dX0_numberOfPlayer_48 0 rfl ?_
      refine gf_X0_18 C dX0_numberOfPlayer_49 ?_
      refine z_iload_n C dX0_numberOfPlayer_52 1 rfl ?_
      obtain ⟨c53, hf⟩ := chk_some hf
      refine z_iald C pG_a2 c53 dX0_numberOfPlayer_53 ?_
      obtain rfl := Option.some.inj hf
      exact z_ireturn C dX0_numberOfPlayer_54
    replace hf := iN e10_2 hf
    refine z_tableOut C 55 dX0_numberOfPlayer_10 (by have n0 := ne_toInt (v := (0 : Int32)) (z := 0) (by decide) e10_0; have n1 := ne_toInt (v := (1 : Int32)) (z := 1) (by decide) e10_1; have n2 := ne_toInt (v := (2 : Int32)) (z := 2) (by decide) e10_2; omega) (by decide) ?_
    refine z_aload_n C dX0_numberOfPlayer_55 0 rfl ?_
    refine gf_X0_21 C dX0_numberOfPlayer_56 ?_
    refine z_iload_n C dX0_numberOfPlayer_59 1 rfl ?_
    obtain ⟨c60, hf⟩ := chk_some hf
    refine z_iald C pG_a3 c60 dX0_numberOfPlayer_60 ?_
    obtain rfl := Option.some.inj hf
    exact z_ireturn C dX0_numberOfPlayer_61
  · replace hf := ip c4 hf
    refine z_iconst C (-1 : Int32) dX0_numberOfPlayer_7 (by decide) ?_
    obtain rfl := Option.some.inj hf
    exact z_ireturn C dX0_numberOfPlayer_8
/-! X0_giveTo: depth 2 -/
def f_X0_giveTo (G : GS) (x1 : Int32) (x2 : Int32) : Option GS :=
  (f_X5_isTile x1).bind (fun q1 => if q1 = 0 then (some G) else (chk (inB x1 28) (some (gA G 1 (upd (G.2.2 1) x1.toNatClampNeg x2)))))
set_option maxRecDepth 100000 in
set_option maxHeartbeats 4000000 in
theorem ct_X0_giveTo {E : zE} {l : Launch} {h0 : Hp} {g : Nat} {G : GS} {x1 : Int32} {x2 : Int32} {r : GS}  (hf : f_X0_giveTo G x1 x2 = some r) : zM E l 2 yX0_giveTo cX0_giveTo 3 none [.ref g, .int x1, .int x2] (pG E h0 g G) none (pG E h0 g r) := by
  refine zM_of (lv := [(0, .ref g), (1, .int x1), (2, .int x2)]) (by decide +kernel) (Nat.le_of_ble_eq_true rfl) rfl (fun X hX C => ?_)
  subst hX
  replace C : zC E X RX0 cX0_giveTo 3 none 2 := C
  unfold f_X0_giveTo at hf
  refine z_iload_n C dX0_giveTo_0 1 rfl ?_
  obtain ⟨q1, hq1, hf⟩ := bd_some hf
  refine iv_X0_202 C [.int x1] [] (ct_X5_isTile hq1) rfl (by decide) rfl (Nat.le_of_ble_eq_true rfl) z_k0 dX0_giveTo_1 ?_
  refine z_if_eq C 14 dX0_giveTo_4 (by decide) (fun c4 => ?_) (fun c4 => ?_)
  · replace hf := ip c4 hf
    obtain rfl := Option.some.inj hf
    exact z_return C dX0_giveTo_14
  · replace hf := iN c4 hf
    refine z_aload_n C dX0_giveTo_7 0 rfl ?_
    refine gf_X0_15 C dX0_giveTo_8 ?_
    refine z_iload_n C dX0_giveTo_11 1 rfl ?_
    refine z_iload_n C dX0_giveTo_12 2 rfl ?_
    obtain ⟨c13, hf⟩ := chk_some hf
    refine z_iast C pG_a1 c13 dX0_giveTo_13 _ (pG_w1 _) ?_
    obtain rfl := Option.some.inj hf
    exact z_return C dX0_giveTo_14
/-! X0_shuffle: depth 1 -/
def f_X0_shuffle_h27 (n : Nat) (y1 : Int64)  (K27 : GS → Int64 → Int32 → Option GS) (G : GS) (y3 : Int64) (x5 : Int32) : Option GS :=
  if x5 < (1 : Int32) then (some G) else (stt (((y3 * (6364136223846793005 : Int64)) + (1442695040888963407 : Int64))) (fun v1 => chk (¬ (x5 + (1 : Int32)) = 0) (stt ((jrem ((jlushr v1 (33 : Int32)).toInt32) (x5 + (1 : Int32)))) (fun v2 => chk (inB x5 28) (chk (inB v2 28) (chk (inB x5 28) (chk (inB v2 28) (stt (gA (gA G 0 (upd (G.2.2 0) x5.toNatClampNeg (G.2.2 0 v2.toNatClampNeg))) 0 (upd ((gA G 0 (upd (G.2.2 0) x5.toNatClampNeg (G.2.2 0 v2.toNatClampNeg))).2.2 0) v2.toNatClampNeg (G.2.2 0 x5.toNatClampNeg))) (fun Gn3 => K27 Gn3 v1 (x5 + (-1)))))))))))
set_option maxRecDepth 100000 in
set_option maxHeartbeats 4000000 in
theorem w_X0_shuffle_h27 {E : zE} {X : zX} {h0 : Hp} {g : Nat} {n : Nat} {y1 : Int64}   (C : zC E X RX0 cX0_shuffle 8 none 1)   : ∀ (q : Nat) (G : GS) (y3 : Int64) (x5 : Int32) (r : GS), lo3 (f_X0_shuffle_h27 n y1) q G y3 x5 = some r → zW E X 8 0 0 (MQ (xb X) (zQ E none (pG E h0 g r)) (xa X) (xs X) 0 0 (zA E)) 27 (pG E h0 g G) [(0, .ref g), (3, .long y3), (5, .int x5)] [] := by
  refine lo3_ind _ ?_
  intro K27 hK27 G y3 x5 r hf
  unfold f_X0_shuffle_h27 at hf
  refine z_iload C dX0_shuffle_27 2 rfl ?_
  refine z_iconst C (1 : Int32) dX0_shuffle_29 (by decide) ?_
  refine z_icmp_lt C 93 dX0_shuffle_30 (by decide) (fun c30 => ?_) (fun c30 => ?_)
  · replace hf := ip c30 hf
    obtain rfl := Option.some.inj hf
    exact z_return C dX0_shuffle_93
  · replace hf := iN c30 hf
    refine z_lload_n C dX0_shuffle_33 1 rfl ?_
    refine z_ldc2 C (6364136223846793005 : Int64) dX0_shuffle_34 cn_X0_143 ?_
    refine z_lmul C dX0_shuffle_37 ?_
    refine z_ldc2 C (1442695040888963407 : Int64) dX0_shuffle_38 cn_X0_145 ?_
    refine z_ladd C dX0_shuffle_41 ?_
    obtain ⟨v1, ev1, hf⟩ := st_some hf
    refine z_stk (congrArg (fun z => Value.long z :: []) ev1.symm) ?_
    refine z_lstore_n (lv' := [(3, .long v1), (0, .ref g), (5, .int x5)]) C dX0_shuffle_42 (by decide) rfl ?_
    refine z_lload_n C dX0_shuffle_43 0 rfl ?_
    refine z_bipush C (33 : Int32) dX0_shuffle_44 (by decide) ?_
    refine z_lushr C dX0_shuffle_46 ?_
    refine z_l2i C dX0_shuffle_47 ?_
    refine z_iload C dX0_shuffle_48 2 rfl ?_
    refine z_iconst C (1 : Int32) dX0_shuffle_50 (by decide) ?_
    refine z_iadd C dX0_shuffle_51 ?_
    obtain ⟨c52, hf⟩ := chk_some hf
    refine z_irem C dX0_shuffle_52 c52 ?_
    obtain ⟨v2, ev2, hf⟩ := st_some hf
    refine z_stk (congrArg (fun z => Value.int z :: []) ev2.symm) ?_
    refine z_istore (lv' := [(6, .int v2), (3, .long v1), (0, .ref g), (5, .int x5)]) C dX0_shuffle_53 (by decide) rfl ?_
    refine z_aload_n C dX0_shuffle_55 2 rfl ?_
    refine gf_X0_9 C dX0_shuffle_56 ?_
    refine z_iload C dX0_shuffle_59 3 rfl ?_
    obtain ⟨c61, hf⟩ := chk_some hf
    refine z_iald C pG_a0 c61 dX0_shuffle_61 ?_
    refine z_istore (lv' := [(7, .int (G.2.2 0 x5.toNatClampNeg)), (6, .int v2), (3, .long v1), (0, .ref g), (5, .int x5)]) C dX0_shuffle_62 (by decide) rfl ?_
    refine z_aload_n C dX0_shuffle_64 3 rfl ?_
    refine gf_X0_9 C dX0_shuffle_65 ?_
    refine z_iload C dX0_shuffle_68 4 rfl ?_
    refine z_aload_n C dX0_shuffle_70 3 rfl ?_
    refine gf_X0_9 C dX0_shuffle_71 ?_
    refine z_iload C dX0_shuffle_74 1 rfl ?_
    obtain ⟨c76, hf⟩ := chk_some hf
    refine z_iald C pG_a0 c76 dX0_shuffle_76 ?_
    obtain ⟨c77, hf⟩ := chk_some hf
    refine z_iast C pG_a0 c77 dX0_shuffle_77 _ (pG_w0 _) ?_
    refine z_aload_n C dX0_shuffle_78 3 rfl ?_
    refine gf_X0_9 C dX0_shuffle_79 ?_
    refine z_iload C dX0_shuffle_82 1 rfl ?_
    refine z_iload C dX0_shuffle_84 0 rfl ?_
    obtain ⟨c86, hf⟩ := chk_some hf
    refine z_iast C pG_a0 c86 dX0_shuffle_86 _ (pG_w0 _) ?_
    obtain ⟨Gn3, eGn3, hf⟩ := st_some hf
    refine z_heap (congrArg (fun z => (pG E h0 g z)) eGn3.symm) ?_
    refine z_iinc (lv' := [(5, .int (x5 + (-1))), (7, .int (G.2.2 0 x5.toNatClampNeg)), (6, .int v2), (3, .long v1), (0, .ref g)]) C dX0_shuffle_87 4 (x5 + (-1)) rfl rfl (by decide) rfl ?_
    refine z_goto C 27 dX0_shuffle_90 (by decide) ?_
    exact z_sub [4, 3, 0] rfl (hK27 _ _ _ _ hf)
def f_X0_shuffle_h2 (n : Nat) (y1 : Int64)  (K2 : GS → Int32 → Option GS) (G : GS) (x3 : Int32) : Option GS :=
  if (28 : Int32) ≤ x3 then (lo3 (f_X0_shuffle_h27 n y1) n G y1 (27 : Int32)) else (chk (inB x3 28) (K2 (gA G 0 (upd (G.2.2 0) x3.toNatClampNeg x3)) (x3 + 1)))
set_option maxRecDepth 100000 in
set_option maxHeartbeats 4000000 in
theorem w_X0_shuffle_h2 {E : zE} {X : zX} {h0 : Hp} {g : Nat} {n : Nat} {y1 : Int64}   (C : zC E X RX0 cX0_shuffle 8 none 1)   : ∀ (q : Nat) (G : GS) (x3 : Int32) (r : GS), lo2 (f_X0_shuffle_h2 n y1) q G x3 = some r → zW E X 8 0 0 (MQ (xb X) (zQ E none (pG E h0 g r)) (xa X) (xs X) 0 0 (zA E)) 2 (pG E h0 g G) [(0, .ref g), (1, .long y1), (3, .int x3)] [] := by
  refine lo2_ind _ ?_
  intro K2 hK2 G x3 r hf
  unfold f_X0_shuffle_h2 at hf
  refine z_iload_n C dX0_shuffle_2 2 rfl ?_
  refine z_bipush C (28 : Int32) dX0_shuffle_3 (by decide) ?_
  refine z_icmp_ge C 21 dX0_shuffle_5 (by decide) (fun c5 => ?_) (fun c5 => ?_)
  · replace hf := ip c5 hf
    refine z_lload_n C dX0_shuffle_21 1 rfl ?_
    refine z_lstore_n (lv' := [(3, .long y1), (0, .ref g), (1, .long y1)]) C dX0_shuffle_22 (by decide) rfl ?_
    refine z_bipush C (27 : Int32) dX0_shuffle_23 (by decide) ?_
    refine z_istore (lv' := [(5, .int (27 : Int32)), (3, .long y1), (0, .ref g), (1, .long y1)]) C dX0_shuffle_25 (by decide) rfl ?_
    exact z_sub [2, 1, 0] rfl (w_X0_shuffle_h27 C n _ _ _ _ hf)
  · replace hf := iN c5 hf
    refine z_aload_n C dX0_shuffle_8 0 rfl ?_
    refine gf_X0_9 C dX0_shuffle_9 ?_
    refine z_iload_n C dX0_shuffle_12 2 rfl ?_
    refine z_iload_n C dX0_shuffle_13 2 rfl ?_
    obtain ⟨c14, hf⟩ := chk_some hf
    refine z_iast C pG_a0 c14 dX0_shuffle_14 _ (pG_w0 _) ?_
    refine z_iinc (lv' := [(3, .int (x3 + 1)), (0, .ref g), (1, .long y1)]) C dX0_shuffle_15 2 (x3 + 1) rfl rfl (by decide) rfl ?_
    refine z_goto C 2 dX0_shuffle_18 (by decide) ?_
    exact z_sub [1, 2, 0] rfl (hK2 _ _ _ hf)
def f_X0_shuffle (n : Nat) (G : GS) (y1 : Int64) : Option GS :=
  lo2 (f_X0_shuffle_h2 n y1) n G (0 : Int32)
set_option maxRecDepth 100000 in
set_option maxHeartbeats 4000000 in
theorem ct_X0_shuffle {E : zE} {l : Launch} {h0 : Hp} {g : Nat} {n : Nat} {G : GS} {y1 : Int64} {r : GS}  (hf : f_X0_shuffle n G y1 = some r) : zM E l 1 yX0_shuffle cX0_shuffle 8 none [.ref g, .long y1] (pG E h0 g G) none (pG E h0 g r) := by
  refine zM_of (lv := [(0, .ref g), (1, .long y1)]) (by decide +kernel) (Nat.le_of_ble_eq_true rfl) rfl (fun X hX C => ?_)
  subst hX
  replace C : zC E X RX0 cX0_shuffle 8 none 1 := C
  unfold f_X0_shuffle at hf
  refine z_iconst C (0 : Int32) dX0_shuffle_0 (by decide) ?_
  refine z_istore_n (lv' := [(3, .int (0 : Int32)), (0, .ref g), (1, .long y1)]) C dX0_shuffle_1 (by decide) rfl ?_
  exact z_sub [1, 2, 0] rfl (w_X0_shuffle_h2 C n _ _ _ hf)
/-! X0_startRound: depth 3 -/
def f_X0_startRound_b72 (n : Nat) (x1 : Int32) (y2 : Int64)   (G : GS) : Option ((GS) × Int32) :=
  (f_X2_becomeEmpty n G).bind (fun q76 => chk (¬ x1 = 0) (stt (gS (gS (gS (gS q76 4 x1) 5 (jrem ((gS q76 4 x1).1 0) x1)) 6 (0 : Int32)) 3 (1 : Int32)) (fun Gn1 => some (gS Gn1 0 ((Gn1.1 0) + (1 : Int32)), (1 : Int32)))))
set_option maxRecDepth 100000 in
set_option maxHeartbeats 4000000 in
theorem w_X0_startRound_b72 {E : zE} {X : zX} {h0 : Hp} {g : Nat} {n : Nat} {x1 : Int32} {y2 : Int64}   (C : zC E X RX0 cX0_startRound 5 (some .boolean) 3)   {G : GS} {r : ((GS) × Int32)} (hf : f_X0_startRound_b72 n x1 y2 G = some r) : zW E X 5 0 0 (MQ (xb X) (zQ E (some (.int r.2)) (pG E h0 g r.1)) (xa X) (xs X) 0 0 (zA E)) 72 (pG E h0 g G) [(0, .ref g), (1, .int x1)] [] := by
  unfold f_X0_startRound_b72 at hf
  refine z_aload_n C dX0_startRound_72 0 rfl ?_
  refine gf_X0_27 C dX0_startRound_73 ?_
  obtain ⟨q76, hq76, hf⟩ := bd_some hf
  refine iv_X0_65 C [] [] (ct_X2_becomeEmpty hq76) pG_l rfl (by decide) rfl (Nat.le_of_ble_eq_true rfl) z_k0 dX0_startRound_76 ?_
  refine z_aload_n C dX0_startRound_79 0 rfl ?_
  refine z_iload_n C dX0_startRound_80 1 rfl ?_
  refine pf_X0_47 C dX0_startRound_81 ?_
  refine z_aload_n C dX0_startRound_84 0 rfl ?_
  refine z_aload_n C dX0_startRound_85 0 rfl ?_
  refine gf_X0_34 C dX0_startRound_86 ?_
  refine z_iload_n C dX0_startRound_89 1 rfl ?_
  obtain ⟨c90, hf⟩ := chk_some hf
  refine z_irem C dX0_startRound_90 c90 ?_
  refine pf_X0_50 C dX0_startRound_91 ?_
  refine z_aload_n C dX0_startRound_94 0 rfl ?_
  refine z_iconst C (0 : Int32) dX0_startRound_95 (by decide) ?_
  refine pf_X0_53 C dX0_startRound_96 ?_
  refine z_aload_n C dX0_startRound_99 0 rfl ?_
  refine z_iconst C (1 : Int32) dX0_startRound_100 (by decide) ?_
  refine pf_X0_44 C dX0_startRound_101 ?_
  obtain ⟨Gn1, eGn1, hf⟩ := st_some hf
  refine z_heap (congrArg (fun z => (pG E h0 g z)) eGn1.symm) ?_
  refine z_aload_n C dX0_startRound_104 0 rfl ?_
  refine z_dup C dX0_startRound_105 rfl ?_
  refine gf_X0_34 C dX0_startRound_106 ?_
  refine z_iconst C (1 : Int32) dX0_startRound_109 (by decide) ?_
  refine z_iadd C dX0_startRound_110 ?_
  refine pf_X0_34 C dX0_startRound_111 ?_
  refine z_iconst C (1 : Int32) dX0_startRound_114 (by decide) ?_
  obtain rfl := Option.some.inj hf
  exact z_zreturn (v := (1 : Int32)) C (by decide) dX0_startRound_115
def f_X0_startRound_h35 (n : Nat) (x1 : Int32) (y2 : Int64)  (K35 : GS → Int32 → Option ((GS) × Int32)) (G : GS) (x4 : Int32) : Option ((GS) × Int32) :=
  if (G.1 7) ≤ x4 then (f_X0_startRound_b72 n x1 y2 G) else (if (28 : Int32) ≤ x4 then (f_X0_startRound_b72 n x1 y2 G) else (chk (inB x4 28) (chk (¬ (5 : Int32) = 0) ((f_X0_giveTo G (G.2.2 0 x4.toNatClampNeg) (x4 / (5 : Int32))).bind (fun q63 => K35 q63 (x4 + 1))))))
set_option maxRecDepth 100000 in
set_option maxHeartbeats 4000000 in
theorem w_X0_startRound_h35 {E : zE} {X : zX} {h0 : Hp} {g : Nat} {n : Nat} {x1 : Int32} {y2 : Int64}   (C : zC E X RX0 cX0_startRound 5 (some .boolean) 3)   : ∀ (q : Nat) (G : GS) (x4 : Int32) (r : ((GS) × Int32)), lo2 (f_X0_startRound_h35 n x1 y2) q G x4 = some r → zW E X 5 0 0 (MQ (xb X) (zQ E (some (.int r.2)) (pG E h0 g r.1)) (xa X) (xs X) 0 0 (zA E)) 35 (pG E h0 g G) [(0, .ref g), (1, .int x1), (4, .int x4)] [] := by
  refine lo2_ind _ ?_
  intro K35 hK35 G x4 r hf
  unfold f_X0_startRound_h35 at hf
  refine z_iload C dX0_startRound_35 2 rfl ?_
  refine z_aload_n C dX0_startRound_37 0 rfl ?_
  refine gf_X0_56 C dX0_startRound_38 ?_
  refine z_icmp_ge C 72 dX0_startRound_41 (by decide) (fun c41 => ?_) (fun c41 => ?_)
  · replace hf := ip c41 hf
    exact z_sub [0, 1] rfl (w_X0_startRound_b72 C hf)
  · replace hf := iN c41 hf
    refine z_iload C dX0_startRound_44 2 rfl ?_
    refine z_bipush C (28 : Int32) dX0_startRound_46 (by decide) ?_
    refine z_icmp_ge C 72 dX0_startRound_48 (by decide) (fun c48 => ?_) (fun c48 => ?_)
    · replace hf := ip c48 hf
      exact z_sub [0, 1] rfl (w_X0_startRound_b72 C hf)
    · replace hf := iN c48 hf
      refine z_aload_n C dX0_startRound_51 0 rfl ?_
      refine z_aload_n C dX0_startRound_52 0 rfl ?_
      refine gf_X0_9 C dX0_startRound_53 ?_
      refine z_iload C dX0_startRound_56 2 rfl ?_
      obtain ⟨c58, hf⟩ := chk_some hf
      refine z_iald C pG_a0 c58 dX0_startRound_58 ?_
      refine z_iload C dX0_startRound_59 2 rfl ?_
      refine z_iconst C (5 : Int32) dX0_startRound_61 (by decide) ?_
      obtain ⟨c62, hf⟩ := chk_some hf
      refine z_idiv C dX0_startRound_62 c62 ?_
      obtain ⟨q63, hq63, hf⟩ := bd_some hf
      refine iv_X0_139 C [.int (G.2.2 0 x4.toNatClampNeg), .int (x4 / (5 : Int32))] [] (ct_X0_giveTo hq63) pG_o rfl (by decide) rfl (Nat.le_of_ble_eq_true rfl) z_k0 dX0_startRound_63 ?_
      refine z_iinc (lv' := [(4, .int (x4 + 1)), (0, .ref g), (1, .int x1)]) C dX0_startRound_66 2 (x4 + 1) rfl rfl (by decide) rfl ?_
      refine z_goto C 35 dX0_startRound_69 (by decide) ?_
      exact z_sub [1, 2, 0] rfl (hK35 _ _ _ hf)
def f_X0_startRound (n : Nat) (G : GS) (x1 : Int32) (y2 : Int64) : Option ((GS) × Int32) :=
  if x1 < (2 : Int32) then (some (G, (0 : Int32))) else (if x1 ≤ (4 : Int32) then ((f_X0_shuffle n G y2).bind (fun q14 => (f_J7_fill_53178 n 28 (q14.2.2 1) (-1 : Int32)).bind (fun q22 => lo2 (f_X0_startRound_h35 n x1 y2) n (gS (gA q14 1 q22) 7 (x1 * (5 : Int32))) (0 : Int32)))) else (some (G, (0 : Int32))))
set_option maxRecDepth 100000 in
set_option maxHeartbeats 4000000 in
theorem ct_X0_startRound {E : zE} {l : Launch} {h0 : Hp} {g : Nat} {n : Nat} {G : GS} {x1 : Int32} {y2 : Int64} {r : ((GS) × Int32)}  (hf : f_X0_startRound n G x1 y2 = some r) : zM E l 3 yX0_startRound cX0_startRound 5 (some .boolean) [.ref g, .int x1, .long y2] (pG E h0 g G) (some (.int r.2)) (pG E h0 g r.1) := by
  refine zM_of (lv := [(0, .ref g), (1, .int x1), (2, .long y2)]) (by decide +kernel) (Nat.le_of_ble_eq_true rfl) rfl (fun X hX C => ?_)
  subst hX
  replace C : zC E X RX0 cX0_startRound 5 (some .boolean) 3 := C
  unfold f_X0_startRound at hf
  refine z_iload_n C dX0_startRound_0 1 rfl ?_
  refine z_iconst C (2 : Int32) dX0_startRound_1 (by decide) ?_
  refine z_icmp_lt C 10 dX0_startRound_2 (by decide) (fun c2 => ?_) (fun c2 => ?_)
  · replace hf := ip c2 hf
    refine z_iconst C (0 : Int32) dX0_startRound_10 (by decide) ?_
    obtain rfl := Option.some.inj hf
    exact z_zreturn (v := (0 : Int32)) C (by decide) dX0_startRound_11
  · replace hf := iN c2 hf
    refine z_iload_n C dX0_startRound_5 1 rfl ?_
    refine z_iconst C (4 : Int32) dX0_startRound_6 (by decide) ?_
    refine z_icmp_le C 12 dX0_startRound_7 (by decide) (fun c7 => ?_) (fun c7 => ?_)
    · replace hf := ip c7 hf
      refine z_aload_n C dX0_startRound_12 0 rfl ?_
      refine z_lload_n C dX0_startRound_13 2 rfl ?_
      obtain ⟨q14, hq14, hf⟩ := bd_some hf
      refine iv_X0_135 C [.long y2] [] (ct_X0_shuffle hq14) pG_o rfl (by decide) rfl (Nat.le_of_ble_eq_true rfl) z_k0 dX0_startRound_14 ?_
      refine z_aload_n C dX0_startRound_17 0 rfl ?_
      refine gf_X0_15 C dX0_startRound_18 ?_
      refine z_iconst C (-1 : Int32) dX0_startRound_21 (by decide) ?_
      obtain ⟨q22, hq22, hf⟩ := bd_some hf
      refine z_heap (pI_of pG_a1) ?_
      refine iv_X0_59 C [.ref (g + 2), .int (-1 : Int32)] [] (ct_J7_fill_53178 (by decide) hq22) rfl (by decide) rfl (Nat.le_of_ble_eq_true rfl) z_k0 dX0_startRound_22 ?_
      refine z_heap (pG_w1 _) ?_
      refine z_aload_n C dX0_startRound_25 0 rfl ?_
      refine z_iload_n C dX0_startRound_26 1 rfl ?_
      refine z_iconst C (5 : Int32) dX0_startRound_27 (by decide) ?_
      refine z_imul C dX0_startRound_28 ?_
      refine pf_X0_56 C dX0_startRound_29 ?_
      refine z_iconst C (0 : Int32) dX0_startRound_32 (by decide) ?_
      refine z_istore (lv' := [(4, .int (0 : Int32)), (0, .ref g), (1, .int x1), (2, .long y2)]) C dX0_startRound_33 (by decide) rfl ?_
      exact z_sub [1, 2, 0] rfl (w_X0_startRound_h35 C n _ _ _ hf)
    · replace hf := iN c7 hf
      refine z_iconst C (0 : Int32) dX0_startRound_10 (by decide) ?_
      obtain rfl := Option.some.inj hf
      exact z_zreturn (v := (0 : Int32)) C (by decide) dX0_startRound_11
/-! X0_reasonAgainst: depth 3 -/
def f_X0_reasonAgainst (G : GS) (x1 : Int32) : Option Int32 :=
  (f_X0_isPlayed G).bind (fun q1 => if q1 = 0 then (some (-1 : Int32)) else ((f_X0_holderOf G x1).bind (fun q11 => if q11 = (G.1 5) then ((f_X2_fits G x1).bind (fun q28 => if q28 = 0 then (some (2 : Int32)) else ((f_X2_hasRoom G).bind (fun q40 => if q40 = 0 then (some (3 : Int32)) else (some (0 : Int32)))))) else (some (1 : Int32)))))
set_option maxRecDepth 100000 in
set_option maxHeartbeats 4000000 in
theorem ct_X0_reasonAgainst {E : zE} {l : Launch} {h0 : Hp} {g : Nat} {G : GS} {x1 : Int32} {r : Int32}  (hf : f_X0_reasonAgainst G x1 = some r) : zM E l 3 yX0_reasonAgainst cX0_reasonAgainst 2 (some .int) [.ref g, .int x1] (pG E h0 g G) (some (.int r)) (pG E h0 g G) := by
  refine zM_of (lv := [(0, .ref g), (1, .int x1)]) (by decide +kernel) (Nat.le_of_ble_eq_true rfl) rfl (fun X hX C => ?_)
  subst hX
  replace C : zC E X RX0 cX0_reasonAgainst 2 (some .int) 3 := C
  unfold f_X0_reasonAgainst at hf
  refine z_aload_n C dX0_reasonAgainst_0 0 rfl ?_
  obtain ⟨q1, hq1, hf⟩ := bd_some hf
  refine iv_X0_78 C [] [] (ct_X0_isPlayed hq1) pG_o rfl (by decide) rfl (Nat.le_of_ble_eq_true rfl) z_k0 dX0_reasonAgainst_1 ?_
  refine z_if_ne C 9 dX0_reasonAgainst_4 (by decide) (fun c4 => ?_) (fun c4 => ?_)
  · replace hf := iN c4 hf
    refine z_aload_n C dX0_reasonAgainst_9 0 rfl ?_
    refine z_iload_n C dX0_reasonAgainst_10 1 rfl ?_
    obtain ⟨q11, hq11, hf⟩ := bd_some hf
    refine iv_X0_108 C [.int x1] [] (ct_X0_holderOf hq11) pG_o rfl (by decide) rfl (Nat.le_of_ble_eq_true rfl) z_k0 dX0_reasonAgainst_11 ?_
    refine z_aload_n C dX0_reasonAgainst_14 0 rfl ?_
    refine gf_X0_50 C dX0_reasonAgainst_15 ?_
    refine z_icmp_eq C 23 dX0_reasonAgainst_18 (by decide) (fun c18 => ?_) (fun c18 => ?_)
    · replace hf := ip c18 hf
      refine z_aload_n C dX0_reasonAgainst_23 0 rfl ?_
      refine gf_X0_27 C dX0_reasonAgainst_24 ?_
      refine z_iload_n C dX0_reasonAgainst_27 1 rfl ?_
      obtain ⟨q28, hq28, hf⟩ := bd_some hf
      refine iv_X0_147 C [.int x1] [] (ct_X2_fits hq28) pG_l rfl (by decide) rfl (Nat.le_of_ble_eq_true rfl) z_k0 dX0_reasonAgainst_28 ?_
      refine z_if_ne C 36 dX0_reasonAgainst_31 (by decide) (fun c31 => ?_) (fun c31 => ?_)
      · replace hf := iN c31 hf
        refine z_aload_n C dX0_reasonAgainst_36 0 rfl ?_
        refine gf_X0_27 C dX0_reasonAgainst_37 ?_
        obtain ⟨q40, hq40, hf⟩ := bd_some hf
        refine iv_X0_150 C [] [] (ct_X2_hasRoom hq40) pG_l rfl (by decide) rfl (Nat.le_of_ble_eq_true rfl) z_k0 dX0_reasonAgainst_40 ?_
        refine z_if_eq C 50 dX0_reasonAgainst_43 (by decide) (fun c43 => ?_) (fun c43 => ?_)
        · replace hf := ip c43 hf
          refine z_iconst C (3 : Int32) dX0_reasonAgainst_50 (by decide) ?_
          obtain rfl := Option.some.inj hf
          exact z_ireturn C dX0_reasonAgainst_51
        · replace hf := iN c43 hf
          refine z_iconst C (0 : Int32) dX0_reasonAgainst_46 (by decide) ?_
          refine z_goto C 51 dX0_reasonAgainst_47 (by decide) ?_
          obtain rfl := Option.some.inj hf
          exact z_ireturn C dX0_reasonAgainst_51
      · replace hf := ip c31 hf
        refine z_iconst C (2 : Int32) dX0_reasonAgainst_34 (by decide) ?_
        obtain rfl := Option.some.inj hf
        exact z_ireturn C dX0_reasonAgainst_35
    · replace hf := iN c18 hf
      refine z_iconst C (1 : Int32) dX0_reasonAgainst_21 (by decide) ?_
      obtain rfl := Option.some.inj hf
      exact z_ireturn C dX0_reasonAgainst_22
  · replace hf := ip c4 hf
    refine z_iconst C (-1 : Int32) dX0_reasonAgainst_7 (by decide) ?_
    obtain rfl := Option.some.inj hf
    exact z_ireturn C dX0_reasonAgainst_8
/-! X0_goToNextPlayer: depth 1 -/
def f_X0_goToNextPlayer_b24    (G : GS) (s0 : Int32) : Option GS :=
  some (gS G 5 s0)
set_option maxRecDepth 100000 in
set_option maxHeartbeats 4000000 in
theorem w_X0_goToNextPlayer_b24 {E : zE} {X : zX} {h0 : Hp} {g : Nat}    (C : zC E X RX0 cX0_goToNextPlayer 1 none 1)   {G : GS} {s0 : Int32} {r : GS} (hf : f_X0_goToNextPlayer_b24  G s0 = some r) : zW E X 1 0 0 (MQ (xb X) (zQ E none (pG E h0 g r)) (xa X) (xs X) 0 0 (zA E)) 24 (pG E h0 g G) [] [.int s0, .ref g] := by
  unfold f_X0_goToNextPlayer_b24 at hf
  refine pf_X0_50 C dX0_goToNextPlayer_24 ?_
  obtain rfl := Option.some.inj hf
  exact z_return C dX0_goToNextPlayer_27
def f_X0_goToNextPlayer (G : GS) : Option GS :=
  if (G.1 4) ≤ ((G.1 5) + (1 : Int32)) then (f_X0_goToNextPlayer_b24  G (0 : Int32)) else (f_X0_goToNextPlayer_b24  G ((G.1 5) + (1 : Int32)))
set_option maxRecDepth 100000 in
set_option maxHeartbeats 4000000 in
theorem ct_X0_goToNextPlayer {E : zE} {l : Launch} {h0 : Hp} {g : Nat} {G : GS} {r : GS}  (hf : f_X0_goToNextPlayer G = some r) : zM E l 1 yX0_goToNextPlayer cX0_goToNextPlayer 1 none [.ref g] (pG E h0 g G) none (pG E h0 g r) := by
  refine zM_of (lv := [(0, .ref g)]) (by decide +kernel) (Nat.le_of_ble_eq_true rfl) rfl (fun X hX C => ?_)
  subst hX
  replace C : zC E X RX0 cX0_goToNextPlayer 1 none 1 := C
  unfold f_X0_goToNextPlayer at hf
  refine z_aload_n C dX0_goToNextPlayer_0 0 rfl ?_
  refine z_aload_n C dX0_goToNextPlayer_1 0 rfl ?_
  refine gf_X0_50 C dX0_goToNextPlayer_2 ?_
  refine z_iconst C (1 : Int32) dX0_goToNextPlayer_5 (by decide) ?_
  refine z_iadd C dX0_goToNextPlayer_6 ?_
  refine z_aload_n C dX0_goToNextPlayer_7 0 rfl ?_
  refine gf_X0_47 C dX0_goToNextPlayer_8 ?_
  refine z_icmp_ge C 23 dX0_goToNextPlayer_11 (by decide) (fun c11 => ?_) (fun c11 => ?_)
  · replace hf := ip c11 hf
    refine z_iconst C (0 : Int32) dX0_goToNextPlayer_23 (by decide) ?_
    exact z_sub [] rfl (w_X0_goToNextPlayer_b24 C hf)
  · replace hf := iN c11 hf
    refine z_aload_n C dX0_goToNextPlayer_14 0 rfl ?_
    refine gf_X0_50 C dX0_goToNextPlayer_15 ?_
    refine z_iconst C (1 : Int32) dX0_goToNextPlayer_18 (by decide) ?_
    refine z_iadd C dX0_goToNextPlayer_19 ?_
    refine z_goto C 24 dX0_goToNextPlayer_20 (by decide) ?_
    exact z_sub [] rfl (w_X0_goToNextPlayer_b24 C hf)
/-! X0_winRound: depth 2 -/
def f_X0_winRound_b61 (n : Nat) (x1 : Int32)   (G : GS) : Option GS :=
  some (gS G 3 (2 : Int32))
set_option maxRecDepth 100000 in
set_option maxHeartbeats 4000000 in
theorem w_X0_winRound_b61 {E : zE} {X : zX} {h0 : Hp} {g : Nat} {n : Nat} {x1 : Int32}   (C : zC E X RX0 cX0_winRound 4 none 2)   {G : GS} {r : GS} (hf : f_X0_winRound_b61 n x1 G = some r) : zW E X 4 0 0 (MQ (xb X) (zQ E none (pG E h0 g r)) (xa X) (xs X) 0 0 (zA E)) 61 (pG E h0 g G) [(0, .ref g)] [] := by
  unfold f_X0_winRound_b61 at hf
  refine z_aload_n C dX0_winRound_61 0 rfl ?_
  refine z_iconst C (2 : Int32) dX0_winRound_62 (by decide) ?_
  refine pf_X0_44 C dX0_winRound_63 ?_
  obtain rfl := Option.some.inj hf
  exact z_return C dX0_winRound_66
def f_X0_winRound_h11 (n : Nat) (x1 : Int32)  (K11 : GS → Int32 → Int32 → Option GS) (G : GS) (x2 : Int32) (x3 : Int32) : Option GS :=
  if (G.1 4) ≤ x3 then (chk (inB x1 4) ((f_X0_pipsOf n G x1).bind (fun q44 => chk (inB x1 4) (stt (gA G 2 (upd (G.2.2 2) x1.toNatClampNeg ((G.2.2 2 x1.toNatClampNeg) + (x2 - ((2 : Int32) * q44))))) (fun Gn1 => chk (inB x1 4) (chk (inB x1 4) (stt (gA Gn1 3 (upd (Gn1.2.2 3) x1.toNatClampNeg ((Gn1.2.2 3 x1.toNatClampNeg) + (1 : Int32)))) (fun Gn2 => f_X0_winRound_b61 n x1 Gn2)))))))) else ((f_X0_pipsOf n G x3).bind (fun q22 => K11 G (x2 + q22) (x3 + 1)))
set_option maxRecDepth 100000 in
set_option maxHeartbeats 4000000 in
theorem w_X0_winRound_h11 {E : zE} {X : zX} {h0 : Hp} {g : Nat} {n : Nat} {x1 : Int32}   (C : zC E X RX0 cX0_winRound 4 none 2)   : ∀ (q : Nat) (G : GS) (x2 : Int32) (x3 : Int32) (r : GS), lo3 (f_X0_winRound_h11 n x1) q G x2 x3 = some r → zW E X 4 0 0 (MQ (xb X) (zQ E none (pG E h0 g r)) (xa X) (xs X) 0 0 (zA E)) 11 (pG E h0 g G) [(0, .ref g), (1, .int x1), (2, .int x2), (3, .int x3)] [] := by
  refine lo3_ind _ ?_
  intro K11 hK11 G x2 x3 r hf
  unfold f_X0_winRound_h11 at hf
  refine z_iload_n C dX0_winRound_11 3 rfl ?_
  refine z_aload_n C dX0_winRound_12 0 rfl ?_
  refine gf_X0_47 C dX0_winRound_13 ?_
  refine z_icmp_ge C 33 dX0_winRound_16 (by decide) (fun c16 => ?_) (fun c16 => ?_)
  · replace hf := ip c16 hf
    refine z_aload_n C dX0_winRound_33 0 rfl ?_
    refine gf_X0_18 C dX0_winRound_34 ?_
    refine z_iload_n C dX0_winRound_37 1 rfl ?_
    refine z_dup2 C dX0_winRound_38 rfl rfl ?_
    obtain ⟨c39, hf⟩ := chk_some hf
    refine z_iald C pG_a2 c39 dX0_winRound_39 ?_
    refine z_iload_n C dX0_winRound_40 2 rfl ?_
    refine z_iconst C (2 : Int32) dX0_winRound_41 (by decide) ?_
    refine z_aload_n C dX0_winRound_42 0 rfl ?_
    refine z_iload_n C dX0_winRound_43 1 rfl ?_
    obtain ⟨q44, hq44, hf⟩ := bd_some hf
    refine iv_X0_124 C [.int x1] [.int (2 : Int32), .int x2, .int (G.2.2 2 x1.toNatClampNeg), .int x1, .ref (g + 3)] (ct_X0_pipsOf hq44) pG_o rfl (by decide) rfl (Nat.le_of_ble_eq_true rfl) z_k0 dX0_winRound_44 ?_
    refine z_imul C dX0_winRound_47 ?_
    refine z_isub C dX0_winRound_48 ?_
    refine z_iadd C dX0_winRound_49 ?_
    obtain ⟨c50, hf⟩ := chk_some hf
    refine z_iast C pG_a2 c50 dX0_winRound_50 _ (pG_w2 _) ?_
    obtain ⟨Gn1, eGn1, hf⟩ := st_some hf
    refine z_heap (congrArg (fun z => (pG E h0 g z)) eGn1.symm) ?_
    refine z_aload_n C dX0_winRound_51 0 rfl ?_
    refine gf_X0_21 C dX0_winRound_52 ?_
    refine z_iload_n C dX0_winRound_55 1 rfl ?_
    refine z_dup2 C dX0_winRound_56 rfl rfl ?_
    obtain ⟨c57, hf⟩ := chk_some hf
    refine z_iald C pG_a3 c57 dX0_winRound_57 ?_
    refine z_iconst C (1 : Int32) dX0_winRound_58 (by decide) ?_
    refine z_iadd C dX0_winRound_59 ?_
    obtain ⟨c60, hf⟩ := chk_some hf
    refine z_iast C pG_a3 c60 dX0_winRound_60 _ (pG_w3 _) ?_
    obtain ⟨Gn2, eGn2, hf⟩ := st_some hf
    refine z_heap (congrArg (fun z => (pG E h0 g z)) eGn2.symm) ?_
    exact z_sub [0] rfl (w_X0_winRound_b61 C hf)
  · replace hf := iN c16 hf
    refine z_iload_n C dX0_winRound_19 2 rfl ?_
    refine z_aload_n C dX0_winRound_20 0 rfl ?_
    refine z_iload_n C dX0_winRound_21 3 rfl ?_
    obtain ⟨q22, hq22, hf⟩ := bd_some hf
    refine iv_X0_124 C [.int x3] [.int x2] (ct_X0_pipsOf hq22) pG_o rfl (by decide) rfl (Nat.le_of_ble_eq_true rfl) z_k0 dX0_winRound_22 ?_
    refine z_iadd C dX0_winRound_25 ?_
    refine z_istore_n (lv' := [(2, .int (x2 + q22)), (0, .ref g), (1, .int x1), (3, .int x3)]) C dX0_winRound_26 (by decide) rfl ?_
    refine z_iinc (lv' := [(3, .int (x3 + 1)), (2, .int (x2 + q22)), (0, .ref g), (1, .int x1)]) C dX0_winRound_27 3 (x3 + 1) rfl rfl (by decide) rfl ?_
    refine z_goto C 11 dX0_winRound_30 (by decide) ?_
    exact z_sub [2, 3, 1, 0] rfl (hK11 _ _ _ _ hf)
def f_X0_winRound (n : Nat) (G : GS) (x1 : Int32) : Option GS :=
  (f_X5_isPlayer x1).bind (fun q1 => if q1 = 0 then (f_X0_winRound_b61 n x1 G) else (lo3 (f_X0_winRound_h11 n x1) n G (0 : Int32) (0 : Int32)))
set_option maxRecDepth 100000 in
set_option maxHeartbeats 4000000 in
theorem ct_X0_winRound {E : zE} {l : Launch} {h0 : Hp} {g : Nat} {n : Nat} {G : GS} {x1 : Int32} {r : GS}  (hf : f_X0_winRound n G x1 = some r) : zM E l 2 yX0_winRound cX0_winRound 4 none [.ref g, .int x1] (pG E h0 g G) none (pG E h0 g r) := by
  refine zM_of (lv := [(0, .ref g), (1, .int x1)]) (by decide +kernel) (Nat.le_of_ble_eq_true rfl) rfl (fun X hX C => ?_)
  subst hX
  replace C : zC E X RX0 cX0_winRound 4 none 2 := C
  unfold f_X0_winRound at hf
  refine z_iload_n C dX0_winRound_0 1 rfl ?_
  obtain ⟨q1, hq1, hf⟩ := bd_some hf
  refine iv_X0_117 C [.int x1] [] (ct_X5_isPlayer hq1) rfl (by decide) rfl (Nat.le_of_ble_eq_true rfl) z_k0 dX0_winRound_1 ?_
  refine z_if_eq C 61 dX0_winRound_4 (by decide) (fun c4 => ?_) (fun c4 => ?_)
  · replace hf := ip c4 hf
    exact z_sub [0] rfl (w_X0_winRound_b61 C hf)
  · replace hf := iN c4 hf
    refine z_iconst C (0 : Int32) dX0_winRound_7 (by decide) ?_
    refine z_istore_n (lv' := [(2, .int (0 : Int32)), (0, .ref g), (1, .int x1)]) C dX0_winRound_8 (by decide) rfl ?_
    refine z_iconst C (0 : Int32) dX0_winRound_9 (by decide) ?_
    refine z_istore_n (lv' := [(3, .int (0 : Int32)), (2, .int (0 : Int32)), (0, .ref g), (1, .int x1)]) C dX0_winRound_10 (by decide) rfl ?_
    exact z_sub [2, 3, 1, 0] rfl (w_X0_winRound_h11 C n _ _ _ _ hf)
/-! X0_layIfPossible: depth 4 -/
def f_X0_layIfPossible (n : Nat) (G : GS) (x1 : Int32) (x2 : Int32) : Option ((GS) × Int32) :=
  (f_X0_reasonAgainst G x1).bind (fun q2 => if q2 = 0 then ((f_X2_add G x1 x2).bind (fun q16 => (f_X0_giveTo q16 x1 (-1 : Int32)).bind (fun q22 => (f_X0_tilesOf n (gS (gS q22 2 ((q22.1 2) + (1 : Int32))) 6 (0 : Int32)) ((gS (gS q22 2 ((q22.1 2) + (1 : Int32))) 6 (0 : Int32)).1 5)).bind (fun q45 => if q45 = 0 then ((f_X0_winRound n (gS (gS q22 2 ((q22.1 2) + (1 : Int32))) 6 (0 : Int32)) ((gS (gS q22 2 ((q22.1 2) + (1 : Int32))) 6 (0 : Int32)).1 5)).bind (fun q56 => some (q56, (1 : Int32)))) else ((f_X0_goToNextPlayer (gS (gS q22 2 ((q22.1 2) + (1 : Int32))) 6 (0 : Int32))).bind (fun q63 => some (q63, (1 : Int32)))))))) else (some (G, (0 : Int32))))
set_option maxRecDepth 100000 in
set_option maxHeartbeats 4000000 in
theorem ct_X0_layIfPossible {E : zE} {l : Launch} {h0 : Hp} {g : Nat} {n : Nat} {G : GS} {x1 : Int32} {x2 : Int32} {r : ((GS) × Int32)}  (hf : f_X0_layIfPossible n G x1 x2 = some r) : zM E l 4 yX0_layIfPossible cX0_layIfPossible 3 (some .boolean) [.ref g, .int x1, .int x2] (pG E h0 g G) (some (.int r.2)) (pG E h0 g r.1) := by
  refine zM_of (lv := [(0, .ref g), (1, .int x1), (2, .int x2)]) (by decide +kernel) (Nat.le_of_ble_eq_true rfl) rfl (fun X hX C => ?_)
  subst hX
  replace C : zC E X RX0 cX0_layIfPossible 3 (some .boolean) 4 := C
  unfold f_X0_layIfPossible at hf
  refine z_aload_n C dX0_layIfPossible_0 0 rfl ?_
  refine z_iload_n C dX0_layIfPossible_1 1 rfl ?_
  obtain ⟨q2, hq2, hf⟩ := bd_some hf
  refine iv_X0_153 C [.int x1] [] (ct_X0_reasonAgainst hq2) pG_o rfl (by decide) rfl (Nat.le_of_ble_eq_true rfl) z_k0 dX0_layIfPossible_2 ?_
  refine z_if_eq C 10 dX0_layIfPossible_5 (by decide) (fun c5 => ?_) (fun c5 => ?_)
  · replace hf := ip c5 hf
    refine z_aload_n C dX0_layIfPossible_10 0 rfl ?_
    refine gf_X0_27 C dX0_layIfPossible_11 ?_
    refine z_iload_n C dX0_layIfPossible_14 1 rfl ?_
    refine z_iload_n C dX0_layIfPossible_15 2 rfl ?_
    obtain ⟨q16, hq16, hf⟩ := bd_some hf
    refine iv_X0_160 C [.int x1, .int x2] [] (ct_X2_add hq16) pG_l rfl (by decide) rfl (Nat.le_of_ble_eq_true rfl) z_k0 dX0_layIfPossible_16 ?_
    refine z_aload_n C dX0_layIfPossible_19 0 rfl ?_
    refine z_iload_n C dX0_layIfPossible_20 1 rfl ?_
    refine z_iconst C (-1 : Int32) dX0_layIfPossible_21 (by decide) ?_
    obtain ⟨q22, hq22, hf⟩ := bd_some hf
    refine iv_X0_139 C [.int x1, .int (-1 : Int32)] [] (ct_X0_giveTo hq22) pG_o rfl (by decide) rfl (Nat.le_of_ble_eq_true rfl) z_k0 dX0_layIfPossible_22 ?_
    refine z_aload_n C dX0_layIfPossible_25 0 rfl ?_
    refine z_dup C dX0_layIfPossible_26 rfl ?_
    refine gf_X0_41 C dX0_layIfPossible_27 ?_
    refine z_iconst C (1 : Int32) dX0_layIfPossible_30 (by decide) ?_
    refine z_iadd C dX0_layIfPossible_31 ?_
    refine pf_X0_41 C dX0_layIfPossible_32 ?_
    refine z_aload_n C dX0_layIfPossible_35 0 rfl ?_
    refine z_iconst C (0 : Int32) dX0_layIfPossible_36 (by decide) ?_
    refine pf_X0_53 C dX0_layIfPossible_37 ?_
    refine z_aload_n C dX0_layIfPossible_40 0 rfl ?_
    refine z_aload_n C dX0_layIfPossible_41 0 rfl ?_
    refine gf_X0_50 C dX0_layIfPossible_42 ?_
    obtain ⟨q45, hq45, hf⟩ := bd_some hf
    refine iv_X0_121 C [.int ((gS (gS q22 2 ((q22.1 2) + (1 : Int32))) 6 (0 : Int32)).1 5)] [] (ct_X0_tilesOf hq45) pG_o rfl (by decide) rfl (Nat.le_of_ble_eq_true rfl) z_k0 dX0_layIfPossible_45 ?_
    refine z_if_ne C 62 dX0_layIfPossible_48 (by decide) (fun c48 => ?_) (fun c48 => ?_)
    · replace hf := iN c48 hf
      refine z_aload_n C dX0_layIfPossible_62 0 rfl ?_
      obtain ⟨q63, hq63, hf⟩ := bd_some hf
      refine iv_X0_168 C [] [] (ct_X0_goToNextPlayer hq63) pG_o rfl (by decide) rfl (Nat.le_of_ble_eq_true rfl) z_k0 dX0_layIfPossible_63 ?_
      refine z_iconst C (1 : Int32) dX0_layIfPossible_66 (by decide) ?_
      obtain rfl := Option.some.inj hf
      exact z_zreturn (v := (1 : Int32)) C (by decide) dX0_layIfPossible_67
    · replace hf := ip c48 hf
      refine z_aload_n C dX0_layIfPossible_51 0 rfl ?_
      refine z_aload_n C dX0_layIfPossible_52 0 rfl ?_
      refine gf_X0_50 C dX0_layIfPossible_53 ?_
      obtain ⟨q56, hq56, hf⟩ := bd_some hf
      refine iv_X0_164 C [.int ((gS (gS q22 2 ((q22.1 2) + (1 : Int32))) 6 (0 : Int32)).1 5)] [] (ct_X0_winRound hq56) pG_o rfl (by decide) rfl (Nat.le_of_ble_eq_true rfl) z_k0 dX0_layIfPossible_56 ?_
      refine z_goto C 66 dX0_layIfPossible_59 (by decide) ?_
      refine z_iconst C (1 : Int32) dX0_layIfPossible_66 (by decide) ?_
      obtain rfl := Option.some.inj hf
      exact z_zreturn (v := (1 : Int32)) C (by decide) dX0_layIfPossible_67
  · replace hf := iN c5 hf
    refine z_iconst C (0 : Int32) dX0_layIfPossible_8 (by decide) ?_
    obtain rfl := Option.some.inj hf
    exact z_zreturn (v := (0 : Int32)) C (by decide) dX0_layIfPossible_9
/-! X0_layOrRefuse: depth 5 -/
def f_X0_layOrRefuse (n : Nat) (G : GS) (x1 : Int32) (x2 : Int32) : Option ((GS) × Int32) :=
  (f_X0_reasonAgainst G x1).bind (fun q2 => (f_X0_layIfPossible n G x1 x2).bind (fun q9 => if q9.2 = 0 then (some (gS q9.1 1 ((q9.1.1 1) + (1 : Int32)), q2)) else (some (q9.1, q2))))
set_option maxRecDepth 100000 in
set_option maxHeartbeats 4000000 in
theorem ct_X0_layOrRefuse {E : zE} {l : Launch} {h0 : Hp} {g : Nat} {n : Nat} {G : GS} {x1 : Int32} {x2 : Int32} {r : ((GS) × Int32)}  (hf : f_X0_layOrRefuse n G x1 x2 = some r) : zM E l 5 yX0_layOrRefuse cX0_layOrRefuse 4 (some .int) [.ref g, .int x1, .int x2] (pG E h0 g G) (some (.int r.2)) (pG E h0 g r.1) := by
  refine zM_of (lv := [(0, .ref g), (1, .int x1), (2, .int x2)]) (by decide +kernel) (Nat.le_of_ble_eq_true rfl) rfl (fun X hX C => ?_)
  subst hX
  replace C : zC E X RX0 cX0_layOrRefuse 4 (some .int) 5 := C
  unfold f_X0_layOrRefuse at hf
  refine z_aload_n C dX0_layOrRefuse_0 0 rfl ?_
  refine z_iload_n C dX0_layOrRefuse_1 1 rfl ?_
  obtain ⟨q2, hq2, hf⟩ := bd_some hf
  refine iv_X0_153 C [.int x1] [] (ct_X0_reasonAgainst hq2) pG_o rfl (by decide) rfl (Nat.le_of_ble_eq_true rfl) z_k0 dX0_layOrRefuse_2 ?_
  refine z_istore_n (lv' := [(3, .int q2), (0, .ref g), (1, .int x1), (2, .int x2)]) C dX0_layOrRefuse_5 (by decide) rfl ?_
  refine z_aload_n C dX0_layOrRefuse_6 1 rfl ?_
  refine z_iload_n C dX0_layOrRefuse_7 2 rfl ?_
  refine z_iload_n C dX0_layOrRefuse_8 3 rfl ?_
  obtain ⟨q9, hq9, hf⟩ := bd_some hf
  refine iv_X0_156 C [.int x1, .int x2] [] (ct_X0_layIfPossible hq9) pG_o rfl (by decide) rfl (Nat.le_of_ble_eq_true rfl) z_k0 dX0_layOrRefuse_9 ?_
  refine z_if_ne C 25 dX0_layOrRefuse_12 (by decide) (fun c12 => ?_) (fun c12 => ?_)
  · replace hf := iN c12 hf
    refine z_iload_n C dX0_layOrRefuse_25 0 rfl ?_
    obtain rfl := Option.some.inj hf
    exact z_ireturn C dX0_layOrRefuse_26
  · replace hf := ip c12 hf
    refine z_aload_n C dX0_layOrRefuse_15 1 rfl ?_
    refine z_dup C dX0_layOrRefuse_16 rfl ?_
    refine gf_X0_38 C dX0_layOrRefuse_17 ?_
    refine z_iconst C (1 : Int32) dX0_layOrRefuse_20 (by decide) ?_
    refine z_iadd C dX0_layOrRefuse_21 ?_
    refine pf_X0_38 C dX0_layOrRefuse_22 ?_
    refine z_iload_n C dX0_layOrRefuse_25 0 rfl ?_
    obtain rfl := Option.some.inj hf
    exact z_ireturn C dX0_layOrRefuse_26
/-! X0_heaviestPlayable: depth 4 -/
def f_X0_heaviestPlayable_b36 (n : Nat) (G : GS) (K4 : Int32 → Int32 → Option Int32)  (x1 : Int32) (x2 : Int32) : Option Int32 :=
  K4 x1 (x2 + 1)
set_option maxRecDepth 100000 in
set_option maxHeartbeats 4000000 in
theorem w_X0_heaviestPlayable_b36 {E : zE} {X : zX} {h0 : Hp} {g : Nat} {n : Nat} {G : GS} {K4 : Int32 → Int32 → Option Int32}  (C : zC E X RX0 cX0_heaviestPlayable 3 (some .int) 4)  (hK4 : ∀ (x1 : Int32) (x2 : Int32) (r : Int32), K4 x1 x2 = some r → zW E X 3 0 0 (MQ (xb X) (zQ E (some (.int r)) (pG E h0 g G)) (xa X) (xs X) 0 0 (zA E)) 4 (pG E h0 g G) [(0, .ref g), (1, .int x1), (2, .int x2)] []) {x1 : Int32} {x2 : Int32} {r : Int32} (hf : f_X0_heaviestPlayable_b36 n G K4 x1 x2 = some r) : zW E X 3 0 0 (MQ (xb X) (zQ E (some (.int r)) (pG E h0 g G)) (xa X) (xs X) 0 0 (zA E)) 36 (pG E h0 g G) [(0, .ref g), (1, .int x1), (2, .int x2)] [] := by
  unfold f_X0_heaviestPlayable_b36 at hf
  refine z_iinc (lv' := [(2, .int (x2 + 1)), (0, .ref g), (1, .int x1)]) C dX0_heaviestPlayable_36 2 (x2 + 1) rfl rfl (by decide) rfl ?_
  refine z_goto C 4 dX0_heaviestPlayable_39 (by decide) ?_
  exact z_sub [1, 2, 0] rfl (hK4 _ _ _ hf)
def f_X0_heaviestPlayable_b34 (n : Nat) (G : GS) (K4 : Int32 → Int32 → Option Int32)  (x2 : Int32) : Option Int32 :=
  f_X0_heaviestPlayable_b36 n G K4 x2 x2
set_option maxRecDepth 100000 in
set_option maxHeartbeats 4000000 in
theorem w_X0_heaviestPlayable_b34 {E : zE} {X : zX} {h0 : Hp} {g : Nat} {n : Nat} {G : GS} {K4 : Int32 → Int32 → Option Int32}  (C : zC E X RX0 cX0_heaviestPlayable 3 (some .int) 4)  (hK4 : ∀ (x1 : Int32) (x2 : Int32) (r : Int32), K4 x1 x2 = some r → zW E X 3 0 0 (MQ (xb X) (zQ E (some (.int r)) (pG E h0 g G)) (xa X) (xs X) 0 0 (zA E)) 4 (pG E h0 g G) [(0, .ref g), (1, .int x1), (2, .int x2)] []) {x2 : Int32} {r : Int32} (hf : f_X0_heaviestPlayable_b34 n G K4 x2 = some r) : zW E X 3 0 0 (MQ (xb X) (zQ E (some (.int r)) (pG E h0 g G)) (xa X) (xs X) 0 0 (zA E)) 34 (pG E h0 g G) [(0, .ref g), (2, .int x2)] [] := by
  unfold f_X0_heaviestPlayable_b34 at hf
  refine z_iload_n C dX0_heaviestPlayable_34 1 rfl ?_
  refine z_istore_n (lv' := [(1, .int x2), (0, .ref g), (2, .int x2)]) C dX0_heaviestPlayable_35 (by decide) rfl ?_
  exact z_sub [1, 0, 2] rfl (w_X0_heaviestPlayable_b36 C hK4 hf)
def f_X0_heaviestPlayable_h4 (n : Nat) (G : GS)  (K4 : Int32 → Int32 → Option Int32) (x1 : Int32) (x2 : Int32) : Option Int32 :=
  if (28 : Int32) ≤ x2 then (some x1) else ((f_X0_reasonAgainst G x2).bind (fun q12 => if q12 = 0 then (if x1 = (-1 : Int32) then (f_X0_heaviestPlayable_b34 n G K4 x2) else ((f_X5_pipsOn x2).bind (fun q24 => (f_X5_pipsOn x1).bind (fun q28 => if q24 ≤ q28 then (f_X0_heaviestPlayable_b36 n G K4 x1 x2) else (f_X0_heaviestPlayable_b34 n G K4 x2))))) else (f_X0_heaviestPlayable_b36 n G K4 x1 x2)))
set_option maxRecDepth 100000 in
set_option maxHeartbeats 4000000 in
theorem w_X0_heaviestPlayable_h4 {E : zE} {X : zX} {h0 : Hp} {g : Nat} {n : Nat} {G : GS}   (C : zC E X RX0 cX0_heaviestPlayable 3 (some .int) 4)   : ∀ (q : Nat) (x1 : Int32) (x2 : Int32) (r : Int32), lo2 (f_X0_heaviestPlayable_h4 n G) q x1 x2 = some r → zW E X 3 0 0 (MQ (xb X) (zQ E (some (.int r)) (pG E h0 g G)) (xa X) (xs X) 0 0 (zA E)) 4 (pG E h0 g G) [(0, .ref g), (1, .int x1), (2, .int x2)] [] := by
  refine lo2_ind _ ?_
  intro K4 hK4 x1 x2 r hf
  unfold f_X0_heaviestPlayable_h4 at hf
  refine z_iload_n C dX0_heaviestPlayable_4 2 rfl ?_
  refine z_bipush C (28 : Int32) dX0_heaviestPlayable_5 (by decide) ?_
  refine z_icmp_ge C 42 dX0_heaviestPlayable_7 (by decide) (fun c7 => ?_) (fun c7 => ?_)
  · replace hf := ip c7 hf
    refine z_iload_n C dX0_heaviestPlayable_42 1 rfl ?_
    obtain rfl := Option.some.inj hf
    exact z_ireturn C dX0_heaviestPlayable_43
  · replace hf := iN c7 hf
    refine z_aload_n C dX0_heaviestPlayable_10 0 rfl ?_
    refine z_iload_n C dX0_heaviestPlayable_11 2 rfl ?_
    obtain ⟨q12, hq12, hf⟩ := bd_some hf
    refine iv_X0_153 C [.int x2] [] (ct_X0_reasonAgainst hq12) pG_o rfl (by decide) rfl (Nat.le_of_ble_eq_true rfl) z_k0 dX0_heaviestPlayable_12 ?_
    refine z_if_ne C 36 dX0_heaviestPlayable_15 (by decide) (fun c15 => ?_) (fun c15 => ?_)
    · replace hf := iN c15 hf
      exact z_sub [0, 1, 2] rfl (w_X0_heaviestPlayable_b36 C hK4 hf)
    · replace hf := ip c15 hf
      refine z_iload_n C dX0_heaviestPlayable_18 1 rfl ?_
      refine z_iconst C (-1 : Int32) dX0_heaviestPlayable_19 (by decide) ?_
      refine z_icmp_eq C 34 dX0_heaviestPlayable_20 (by decide) (fun c20 => ?_) (fun c20 => ?_)
      · replace hf := ip c20 hf
        exact z_sub [0, 2] rfl (w_X0_heaviestPlayable_b34 C hK4 hf)
      · replace hf := iN c20 hf
        refine z_iload_n C dX0_heaviestPlayable_23 2 rfl ?_
        obtain ⟨q24, hq24, hf⟩ := bd_some hf
        refine iv_X0_183 C [.int x2] [] (ct_X5_pipsOn hq24) rfl (by decide) rfl (Nat.le_of_ble_eq_true rfl) z_k0 dX0_heaviestPlayable_24 ?_
        refine z_iload_n C dX0_heaviestPlayable_27 1 rfl ?_
        obtain ⟨q28, hq28, hf⟩ := bd_some hf
        refine iv_X0_183 C [.int x1] [.int q24] (ct_X5_pipsOn hq28) rfl (by decide) rfl (Nat.le_of_ble_eq_true rfl) z_k0 dX0_heaviestPlayable_28 ?_
        refine z_icmp_le C 36 dX0_heaviestPlayable_31 (by decide) (fun c31 => ?_) (fun c31 => ?_)
        · replace hf := ip c31 hf
          exact z_sub [0, 1, 2] rfl (w_X0_heaviestPlayable_b36 C hK4 hf)
        · replace hf := iN c31 hf
          exact z_sub [0, 2] rfl (w_X0_heaviestPlayable_b34 C hK4 hf)
def f_X0_heaviestPlayable (n : Nat) (G : GS) : Option Int32 :=
  lo2 (f_X0_heaviestPlayable_h4 n G) n (-1 : Int32) (0 : Int32)
set_option maxRecDepth 100000 in
set_option maxHeartbeats 4000000 in
theorem ct_X0_heaviestPlayable {E : zE} {l : Launch} {h0 : Hp} {g : Nat} {n : Nat} {G : GS} {r : Int32}  (hf : f_X0_heaviestPlayable n G = some r) : zM E l 4 yX0_heaviestPlayable cX0_heaviestPlayable 3 (some .int) [.ref g] (pG E h0 g G) (some (.int r)) (pG E h0 g G) := by
  refine zM_of (lv := [(0, .ref g)]) (by decide +kernel) (Nat.le_of_ble_eq_true rfl) rfl (fun X hX C => ?_)
  subst hX
  replace C : zC E X RX0 cX0_heaviestPlayable 3 (some .int) 4 := C
  unfold f_X0_heaviestPlayable at hf
  refine z_iconst C (-1 : Int32) dX0_heaviestPlayable_0 (by decide) ?_
  refine z_istore_n (lv' := [(1, .int (-1 : Int32)), (0, .ref g)]) C dX0_heaviestPlayable_1 (by decide) rfl ?_
  refine z_iconst C (0 : Int32) dX0_heaviestPlayable_2 (by decide) ?_
  refine z_istore_n (lv' := [(2, .int (0 : Int32)), (1, .int (-1 : Int32)), (0, .ref g)]) C dX0_heaviestPlayable_3 (by decide) rfl ?_
  exact z_sub [2, 1, 0] rfl (w_X0_heaviestPlayable_h4 C n _ _ _ hf)
/-! X0_layHeaviest: depth 5 -/
def f_X0_layHeaviest_h2 (n : Nat) (x1 : Int32)  (K2 : GS → Int32 → Option ((GS) × Int32)) (G : GS) (x2 : Int32) : Option ((GS) × Int32) :=
  if x1 ≤ x2 then (some (G, (1 : Int32))) else ((f_X0_heaviestPlayable n G).bind (fun q9 => (f_X0_layIfPossible n G q9 (0 : Int32)).bind (fun q13 => if q13.2 = 0 then (some (q13.1, (0 : Int32))) else (K2 q13.1 (x2 + 1)))))
set_option maxRecDepth 100000 in
set_option maxHeartbeats 4000000 in
theorem w_X0_layHeaviest_h2 {E : zE} {X : zX} {h0 : Hp} {g : Nat} {n : Nat} {x1 : Int32}   (C : zC E X RX0 cX0_layHeaviest 3 (some .boolean) 5)   : ∀ (q : Nat) (G : GS) (x2 : Int32) (r : ((GS) × Int32)), lo2 (f_X0_layHeaviest_h2 n x1) q G x2 = some r → zW E X 3 0 0 (MQ (xb X) (zQ E (some (.int r.2)) (pG E h0 g r.1)) (xa X) (xs X) 0 0 (zA E)) 2 (pG E h0 g G) [(0, .ref g), (1, .int x1), (2, .int x2)] [] := by
  refine lo2_ind _ ?_
  intro K2 hK2 G x2 r hf
  unfold f_X0_layHeaviest_h2 at hf
  refine z_iload_n C dX0_layHeaviest_2 2 rfl ?_
  refine z_iload_n C dX0_layHeaviest_3 1 rfl ?_
  refine z_icmp_ge C 27 dX0_layHeaviest_4 (by decide) (fun c4 => ?_) (fun c4 => ?_)
  · replace hf := ip c4 hf
    refine z_iconst C (1 : Int32) dX0_layHeaviest_27 (by decide) ?_
    obtain rfl := Option.some.inj hf
    exact z_zreturn (v := (1 : Int32)) C (by decide) dX0_layHeaviest_28
  · replace hf := iN c4 hf
    refine z_aload_n C dX0_layHeaviest_7 0 rfl ?_
    refine z_aload_n C dX0_layHeaviest_8 0 rfl ?_
    obtain ⟨q9, hq9, hf⟩ := bd_some hf
    refine iv_X0_171 C [] [.ref g] (ct_X0_heaviestPlayable hq9) pG_o rfl (by decide) rfl (Nat.le_of_ble_eq_true rfl) z_k0 dX0_layHeaviest_9 ?_
    refine z_iconst C (0 : Int32) dX0_layHeaviest_12 (by decide) ?_
    obtain ⟨q13, hq13, hf⟩ := bd_some hf
    refine iv_X0_156 C [.int q9, .int (0 : Int32)] [] (ct_X0_layIfPossible hq13) pG_o rfl (by decide) rfl (Nat.le_of_ble_eq_true rfl) z_k0 dX0_layHeaviest_13 ?_
    refine z_if_ne C 21 dX0_layHeaviest_16 (by decide) (fun c16 => ?_) (fun c16 => ?_)
    · replace hf := iN c16 hf
      refine z_iinc (lv' := [(2, .int (x2 + 1)), (0, .ref g), (1, .int x1)]) C dX0_layHeaviest_21 2 (x2 + 1) rfl rfl (by decide) rfl ?_
      refine z_goto C 2 dX0_layHeaviest_24 (by decide) ?_
      exact z_sub [1, 2, 0] rfl (hK2 _ _ _ hf)
    · replace hf := ip c16 hf
      refine z_iconst C (0 : Int32) dX0_layHeaviest_19 (by decide) ?_
      obtain rfl := Option.some.inj hf
      exact z_zreturn (v := (0 : Int32)) C (by decide) dX0_layHeaviest_20
def f_X0_layHeaviest (n : Nat) (G : GS) (x1 : Int32) : Option ((GS) × Int32) :=
  lo2 (f_X0_layHeaviest_h2 n x1) n G (0 : Int32)
set_option maxRecDepth 100000 in
set_option maxHeartbeats 4000000 in
theorem ct_X0_layHeaviest {E : zE} {l : Launch} {h0 : Hp} {g : Nat} {n : Nat} {G : GS} {x1 : Int32} {r : ((GS) × Int32)}  (hf : f_X0_layHeaviest n G x1 = some r) : zM E l 5 yX0_layHeaviest cX0_layHeaviest 3 (some .boolean) [.ref g, .int x1] (pG E h0 g G) (some (.int r.2)) (pG E h0 g r.1) := by
  refine zM_of (lv := [(0, .ref g), (1, .int x1)]) (by decide +kernel) (Nat.le_of_ble_eq_true rfl) rfl (fun X hX C => ?_)
  subst hX
  replace C : zC E X RX0 cX0_layHeaviest 3 (some .boolean) 5 := C
  unfold f_X0_layHeaviest at hf
  refine z_iconst C (0 : Int32) dX0_layHeaviest_0 (by decide) ?_
  refine z_istore_n (lv' := [(2, .int (0 : Int32)), (0, .ref g), (1, .int x1)]) C dX0_layHeaviest_1 (by decide) rfl ?_
  exact z_sub [1, 2, 0] rfl (w_X0_layHeaviest_h2 C n _ _ _ hf)
/-! X0_canTakeFromHeap: depth 2 -/
def f_X0_canTakeFromHeap (G : GS) : Option Int32 :=
  (f_X0_isPlayed G).bind (fun q1 => if q1 = 0 then (some (0 : Int32)) else (if (28 : Int32) ≤ (G.1 7) then (some (0 : Int32)) else (some (1 : Int32))))
set_option maxRecDepth 100000 in
set_option maxHeartbeats 4000000 in
theorem ct_X0_canTakeFromHeap {E : zE} {l : Launch} {h0 : Hp} {g : Nat} {G : GS} {r : Int32}  (hf : f_X0_canTakeFromHeap G = some r) : zM E l 2 yX0_canTakeFromHeap cX0_canTakeFromHeap 1 (some .boolean) [.ref g] (pG E h0 g G) (some (.int r)) (pG E h0 g G) := by
  refine zM_of (lv := [(0, .ref g)]) (by decide +kernel) (Nat.le_of_ble_eq_true rfl) rfl (fun X hX C => ?_)
  subst hX
  replace C : zC E X RX0 cX0_canTakeFromHeap 1 (some .boolean) 2 := C
  unfold f_X0_canTakeFromHeap at hf
  refine z_aload_n C dX0_canTakeFromHeap_0 0 rfl ?_
  obtain ⟨q1, hq1, hf⟩ := bd_some hf
  refine iv_X0_78 C [] [] (ct_X0_isPlayed hq1) pG_o rfl (by decide) rfl (Nat.le_of_ble_eq_true rfl) z_k0 dX0_canTakeFromHeap_1 ?_
  refine z_if_eq C 20 dX0_canTakeFromHeap_4 (by decide) (fun c4 => ?_) (fun c4 => ?_)
  · replace hf := ip c4 hf
    refine z_iconst C (0 : Int32) dX0_canTakeFromHeap_20 (by decide) ?_
    obtain rfl := Option.some.inj hf
    exact z_zreturn (v := (0 : Int32)) C (by decide) dX0_canTakeFromHeap_21
  · replace hf := iN c4 hf
    refine z_aload_n C dX0_canTakeFromHeap_7 0 rfl ?_
    refine gf_X0_56 C dX0_canTakeFromHeap_8 ?_
    refine z_bipush C (28 : Int32) dX0_canTakeFromHeap_11 (by decide) ?_
    refine z_icmp_ge C 20 dX0_canTakeFromHeap_13 (by decide) (fun c13 => ?_) (fun c13 => ?_)
    · replace hf := ip c13 hf
      refine z_iconst C (0 : Int32) dX0_canTakeFromHeap_20 (by decide) ?_
      obtain rfl := Option.some.inj hf
      exact z_zreturn (v := (0 : Int32)) C (by decide) dX0_canTakeFromHeap_21
    · replace hf := iN c13 hf
      refine z_iconst C (1 : Int32) dX0_canTakeFromHeap_16 (by decide) ?_
      refine z_goto C 21 dX0_canTakeFromHeap_17 (by decide) ?_
      obtain rfl := Option.some.inj hf
      exact z_zreturn (v := (1 : Int32)) C (by decide) dX0_canTakeFromHeap_21
/-! X0_takeFromHeap: depth 3 -/
def f_X0_takeFromHeap (G : GS) : Option ((GS) × Int32) :=
  (f_X0_canTakeFromHeap G).bind (fun q1 => if q1 = 0 then (some (G, (-1 : Int32))) else (if 0 ≤ (G.1 7) then (chk (inB (G.1 7) 28) ((f_X0_giveTo (gS G 7 ((G.1 7) + (1 : Int32))) (G.2.2 0 (G.1 7).toNatClampNeg) ((gS G 7 ((G.1 7) + (1 : Int32))).1 5)).bind (fun q42 => some (gS q42 6 (0 : Int32), (G.2.2 0 (G.1 7).toNatClampNeg))))) else (some (G, (-1 : Int32)))))
set_option maxRecDepth 100000 in
set_option maxHeartbeats 4000000 in
theorem ct_X0_takeFromHeap {E : zE} {l : Launch} {h0 : Hp} {g : Nat} {G : GS} {r : ((GS) × Int32)}  (hf : f_X0_takeFromHeap G = some r) : zM E l 3 yX0_takeFromHeap cX0_takeFromHeap 2 (some .int) [.ref g] (pG E h0 g G) (some (.int r.2)) (pG E h0 g r.1) := by
  refine zM_of (lv := [(0, .ref g)]) (by decide +kernel) (Nat.le_of_ble_eq_true rfl) rfl (fun X hX C => ?_)
  subst hX
  replace C : zC E X RX0 cX0_takeFromHeap 2 (some .int) 3 := C
  unfold f_X0_takeFromHeap at hf
  refine z_aload_n C dX0_takeFromHeap_0 0 rfl ?_
  obtain ⟨q1, hq1, hf⟩ := bd_some hf
  refine iv_X0_174 C [] [] (ct_X0_canTakeFromHeap hq1) pG_o rfl (by decide) rfl (Nat.le_of_ble_eq_true rfl) z_k0 dX0_takeFromHeap_1 ?_
  refine z_if_eq C 14 dX0_takeFromHeap_4 (by decide) (fun c4 => ?_) (fun c4 => ?_)
  · replace hf := ip c4 hf
    refine z_iconst C (-1 : Int32) dX0_takeFromHeap_14 (by decide) ?_
    obtain rfl := Option.some.inj hf
    exact z_ireturn C dX0_takeFromHeap_15
  · replace hf := iN c4 hf
    refine z_aload_n C dX0_takeFromHeap_7 0 rfl ?_
    refine gf_X0_56 C dX0_takeFromHeap_8 ?_
    refine z_if_ge C 16 dX0_takeFromHeap_11 (by decide) (fun c11 => ?_) (fun c11 => ?_)
    · replace hf := ip c11 hf
      refine z_aload_n C dX0_takeFromHeap_16 0 rfl ?_
      refine gf_X0_9 C dX0_takeFromHeap_17 ?_
      refine z_aload_n C dX0_takeFromHeap_20 0 rfl ?_
      refine gf_X0_56 C dX0_takeFromHeap_21 ?_
      obtain ⟨c24, hf⟩ := chk_some hf
      refine z_iald C pG_a0 c24 dX0_takeFromHeap_24 ?_
      refine z_istore_n (lv' := [(1, .int (G.2.2 0 (G.1 7).toNatClampNeg)), (0, .ref g)]) C dX0_takeFromHeap_25 (by decide) rfl ?_
      refine z_aload_n C dX0_takeFromHeap_26 1 rfl ?_
      refine z_dup C dX0_takeFromHeap_27 rfl ?_
      refine gf_X0_56 C dX0_takeFromHeap_28 ?_
      refine z_iconst C (1 : Int32) dX0_takeFromHeap_31 (by decide) ?_
      refine z_iadd C dX0_takeFromHeap_32 ?_
      refine pf_X0_56 C dX0_takeFromHeap_33 ?_
      refine z_aload_n C dX0_takeFromHeap_36 1 rfl ?_
      refine z_iload_n C dX0_takeFromHeap_37 0 rfl ?_
      refine z_aload_n C dX0_takeFromHeap_38 1 rfl ?_
      refine gf_X0_50 C dX0_takeFromHeap_39 ?_
      obtain ⟨q42, hq42, hf⟩ := bd_some hf
      refine iv_X0_139 C [.int (G.2.2 0 (G.1 7).toNatClampNeg), .int ((gS G 7 ((G.1 7) + (1 : Int32))).1 5)] [] (ct_X0_giveTo hq42) pG_o rfl (by decide) rfl (Nat.le_of_ble_eq_true rfl) z_k0 dX0_takeFromHeap_42 ?_
      refine z_aload_n C dX0_takeFromHeap_45 1 rfl ?_
      refine z_iconst C (0 : Int32) dX0_takeFromHeap_46 (by decide) ?_
      refine pf_X0_53 C dX0_takeFromHeap_47 ?_
      refine z_iload_n C dX0_takeFromHeap_50 0 rfl ?_
      obtain rfl := Option.some.inj hf
      exact z_ireturn C dX0_takeFromHeap_51
    · replace hf := iN c11 hf
      refine z_iconst C (-1 : Int32) dX0_takeFromHeap_14 (by decide) ?_
      obtain rfl := Option.some.inj hf
      exact z_ireturn C dX0_takeFromHeap_15
/-! X0_canSkipTurn: depth 2 -/
def f_X0_canSkipTurn (G : GS) : Option Int32 :=
  (f_X0_isPlayed G).bind (fun q1 => if q1 = 0 then (some (0 : Int32)) else (if (G.1 7) < (28 : Int32) then (some (0 : Int32)) else (some (1 : Int32))))
set_option maxRecDepth 100000 in
set_option maxHeartbeats 4000000 in
theorem ct_X0_canSkipTurn {E : zE} {l : Launch} {h0 : Hp} {g : Nat} {G : GS} {r : Int32}  (hf : f_X0_canSkipTurn G = some r) : zM E l 2 yX0_canSkipTurn cX0_canSkipTurn 1 (some .boolean) [.ref g] (pG E h0 g G) (some (.int r)) (pG E h0 g G) := by
  refine zM_of (lv := [(0, .ref g)]) (by decide +kernel) (Nat.le_of_ble_eq_true rfl) rfl (fun X hX C => ?_)
  subst hX
  replace C : zC E X RX0 cX0_canSkipTurn 1 (some .boolean) 2 := C
  unfold f_X0_canSkipTurn at hf
  refine z_aload_n C dX0_canSkipTurn_0 0 rfl ?_
  obtain ⟨q1, hq1, hf⟩ := bd_some hf
  refine iv_X0_78 C [] [] (ct_X0_isPlayed hq1) pG_o rfl (by decide) rfl (Nat.le_of_ble_eq_true rfl) z_k0 dX0_canSkipTurn_1 ?_
  refine z_if_eq C 20 dX0_canSkipTurn_4 (by decide) (fun c4 => ?_) (fun c4 => ?_)
  · replace hf := ip c4 hf
    refine z_iconst C (0 : Int32) dX0_canSkipTurn_20 (by decide) ?_
    obtain rfl := Option.some.inj hf
    exact z_zreturn (v := (0 : Int32)) C (by decide) dX0_canSkipTurn_21
  · replace hf := iN c4 hf
    refine z_aload_n C dX0_canSkipTurn_7 0 rfl ?_
    refine gf_X0_56 C dX0_canSkipTurn_8 ?_
    refine z_bipush C (28 : Int32) dX0_canSkipTurn_11 (by decide) ?_
    refine z_icmp_lt C 20 dX0_canSkipTurn_13 (by decide) (fun c13 => ?_) (fun c13 => ?_)
    · replace hf := ip c13 hf
      refine z_iconst C (0 : Int32) dX0_canSkipTurn_20 (by decide) ?_
      obtain rfl := Option.some.inj hf
      exact z_zreturn (v := (0 : Int32)) C (by decide) dX0_canSkipTurn_21
    · replace hf := iN c13 hf
      refine z_iconst C (1 : Int32) dX0_canSkipTurn_16 (by decide) ?_
      refine z_goto C 21 dX0_canSkipTurn_17 (by decide) ?_
      obtain rfl := Option.some.inj hf
      exact z_zreturn (v := (1 : Int32)) C (by decide) dX0_canSkipTurn_21
/-! X0_playerWithFewestPips: depth 2 -/
def f_X0_playerWithFewestPips_b27 (n : Nat) (G : GS) (K4 : Int32 → Int32 → Option Int32)  (x1 : Int32) (x2 : Int32) : Option Int32 :=
  K4 x1 (x2 + 1)
set_option maxRecDepth 100000 in
set_option maxHeartbeats 4000000 in
theorem w_X0_playerWithFewestPips_b27 {E : zE} {X : zX} {h0 : Hp} {g : Nat} {n : Nat} {G : GS} {K4 : Int32 → Int32 → Option Int32}  (C : zC E X RX0 cX0_playerWithFewestPips 3 (some .int) 2)  (hK4 : ∀ (x1 : Int32) (x2 : Int32) (r : Int32), K4 x1 x2 = some r → zW E X 3 0 0 (MQ (xb X) (zQ E (some (.int r)) (pG E h0 g G)) (xa X) (xs X) 0 0 (zA E)) 4 (pG E h0 g G) [(0, .ref g), (1, .int x1), (2, .int x2)] []) {x1 : Int32} {x2 : Int32} {r : Int32} (hf : f_X0_playerWithFewestPips_b27 n G K4 x1 x2 = some r) : zW E X 3 0 0 (MQ (xb X) (zQ E (some (.int r)) (pG E h0 g G)) (xa X) (xs X) 0 0 (zA E)) 27 (pG E h0 g G) [(0, .ref g), (1, .int x1), (2, .int x2)] [] := by
  unfold f_X0_playerWithFewestPips_b27 at hf
  refine z_iinc (lv' := [(2, .int (x2 + 1)), (0, .ref g), (1, .int x1)]) C dX0_playerWithFewestPips_27 2 (x2 + 1) rfl rfl (by decide) rfl ?_
  refine z_goto C 4 dX0_playerWithFewestPips_30 (by decide) ?_
  exact z_sub [1, 2, 0] rfl (hK4 _ _ _ hf)
def f_X0_playerWithFewestPips_h4 (n : Nat) (G : GS)  (K4 : Int32 → Int32 → Option Int32) (x1 : Int32) (x2 : Int32) : Option Int32 :=
  if (G.1 4) ≤ x2 then (some x1) else ((f_X0_pipsOf n G x2).bind (fun q14 => (f_X0_pipsOf n G x1).bind (fun q19 => if q19 ≤ q14 then (f_X0_playerWithFewestPips_b27 n G K4 x1 x2) else (f_X0_playerWithFewestPips_b27 n G K4 x2 x2))))
set_option maxRecDepth 100000 in
set_option maxHeartbeats 4000000 in
theorem w_X0_playerWithFewestPips_h4 {E : zE} {X : zX} {h0 : Hp} {g : Nat} {n : Nat} {G : GS}   (C : zC E X RX0 cX0_playerWithFewestPips 3 (some .int) 2)   : ∀ (q : Nat) (x1 : Int32) (x2 : Int32) (r : Int32), lo2 (f_X0_playerWithFewestPips_h4 n G) q x1 x2 = some r → zW E X 3 0 0 (MQ (xb X) (zQ E (some (.int r)) (pG E h0 g G)) (xa X) (xs X) 0 0 (zA E)) 4 (pG E h0 g G) [(0, .ref g), (1, .int x1), (2, .int x2)] [] := by
  refine lo2_ind _ ?_
  intro K4 hK4 x1 x2 r hf
  unfold f_X0_playerWithFewestPips_h4 at hf
  refine z_iload_n C dX0_playerWithFewestPips_4 2 rfl ?_
  refine z_aload_n C dX0_playerWithFewestPips_5 0 rfl ?_
  refine gf_X0_47 C dX0_playerWithFewestPips_6 ?_
  refine z_icmp_ge C 33 dX0_playerWithFewestPips_9 (by decide) (fun c9 => ?_) (fun c9 => ?_)
  · replace hf := ip c9 hf
    refine z_iload_n C dX0_playerWithFewestPips_33 1 rfl ?_
    obtain rfl := Option.some.inj hf
    exact z_ireturn C dX0_playerWithFewestPips_34
  · replace hf := iN c9 hf
    refine z_aload_n C dX0_playerWithFewestPips_12 0 rfl ?_
    refine z_iload_n C dX0_playerWithFewestPips_13 2 rfl ?_
    obtain ⟨q14, hq14, hf⟩ := bd_some hf
    refine iv_X0_124 C [.int x2] [] (ct_X0_pipsOf hq14) pG_o rfl (by decide) rfl (Nat.le_of_ble_eq_true rfl) z_k0 dX0_playerWithFewestPips_14 ?_
    refine z_aload_n C dX0_playerWithFewestPips_17 0 rfl ?_
    refine z_iload_n C dX0_playerWithFewestPips_18 1 rfl ?_
    obtain ⟨q19, hq19, hf⟩ := bd_some hf
    refine iv_X0_124 C [.int x1] [.int q14] (ct_X0_pipsOf hq19) pG_o rfl (by decide) rfl (Nat.le_of_ble_eq_true rfl) z_k0 dX0_playerWithFewestPips_19 ?_
    refine z_icmp_ge C 27 dX0_playerWithFewestPips_22 (by decide) (fun c22 => ?_) (fun c22 => ?_)
    · replace hf := ip c22 hf
      exact z_sub [0, 1, 2] rfl (w_X0_playerWithFewestPips_b27 C hK4 hf)
    · replace hf := iN c22 hf
      refine z_iload_n C dX0_playerWithFewestPips_25 2 rfl ?_
      refine z_istore_n (lv' := [(1, .int x2), (0, .ref g), (2, .int x2)]) C dX0_playerWithFewestPips_26 (by decide) rfl ?_
      exact z_sub [1, 0, 2] rfl (w_X0_playerWithFewestPips_b27 C hK4 hf)
def f_X0_playerWithFewestPips (n : Nat) (G : GS) : Option Int32 :=
  lo2 (f_X0_playerWithFewestPips_h4 n G) n (0 : Int32) (1 : Int32)
set_option maxRecDepth 100000 in
set_option maxHeartbeats 4000000 in
theorem ct_X0_playerWithFewestPips {E : zE} {l : Launch} {h0 : Hp} {g : Nat} {n : Nat} {G : GS} {r : Int32}  (hf : f_X0_playerWithFewestPips n G = some r) : zM E l 2 yX0_playerWithFewestPips cX0_playerWithFewestPips 3 (some .int) [.ref g] (pG E h0 g G) (some (.int r)) (pG E h0 g G) := by
  refine zM_of (lv := [(0, .ref g)]) (by decide +kernel) (Nat.le_of_ble_eq_true rfl) rfl (fun X hX C => ?_)
  subst hX
  replace C : zC E X RX0 cX0_playerWithFewestPips 3 (some .int) 2 := C
  unfold f_X0_playerWithFewestPips at hf
  refine z_iconst C (0 : Int32) dX0_playerWithFewestPips_0 (by decide) ?_
  refine z_istore_n (lv' := [(1, .int (0 : Int32)), (0, .ref g)]) C dX0_playerWithFewestPips_1 (by decide) rfl ?_
  refine z_iconst C (1 : Int32) dX0_playerWithFewestPips_2 (by decide) ?_
  refine z_istore_n (lv' := [(2, .int (1 : Int32)), (1, .int (0 : Int32)), (0, .ref g)]) C dX0_playerWithFewestPips_3 (by decide) rfl ?_
  exact z_sub [2, 1, 0] rfl (w_X0_playerWithFewestPips_h4 C n _ _ _ hf)
/-! X0_skipTurn: depth 3 -/
def f_X0_skipTurn_b45 (n : Nat)   (G : GS) : Option ((GS) × Int32) :=
  some (G, (G.1 3))
set_option maxRecDepth 100000 in
set_option maxHeartbeats 4000000 in
theorem w_X0_skipTurn_b45 {E : zE} {X : zX} {h0 : Hp} {g : Nat} {n : Nat}   (C : zC E X RX0 cX0_skipTurn 1 (some .int) 3)   {G : GS} {r : ((GS) × Int32)} (hf : f_X0_skipTurn_b45 n G = some r) : zW E X 1 0 0 (MQ (xb X) (zQ E (some (.int r.2)) (pG E h0 g r.1)) (xa X) (xs X) 0 0 (zA E)) 45 (pG E h0 g G) [(0, .ref g)] [] := by
  unfold f_X0_skipTurn_b45 at hf
  refine z_aload_n C dX0_skipTurn_45 0 rfl ?_
  refine gf_X0_44 C dX0_skipTurn_46 ?_
  obtain rfl := Option.some.inj hf
  exact z_ireturn C dX0_skipTurn_49
def f_X0_skipTurn (n : Nat) (G : GS) : Option ((GS) × Int32) :=
  (f_X0_canSkipTurn G).bind (fun q1 => if q1 = 0 then (some (G, (-1 : Int32))) else (if ((gS G 6 ((G.1 6) + (1 : Int32))).1 6) < ((gS G 6 ((G.1 6) + (1 : Int32))).1 4) then ((f_X0_goToNextPlayer (gS G 6 ((G.1 6) + (1 : Int32)))).bind (fun q42 => f_X0_skipTurn_b45 n q42)) else ((f_X0_playerWithFewestPips n (gS G 6 ((G.1 6) + (1 : Int32)))).bind (fun q32 => (f_X0_winRound n (gS G 6 ((G.1 6) + (1 : Int32))) q32).bind (fun q35 => f_X0_skipTurn_b45 n q35)))))
set_option maxRecDepth 100000 in
set_option maxHeartbeats 4000000 in
theorem ct_X0_skipTurn {E : zE} {l : Launch} {h0 : Hp} {g : Nat} {n : Nat} {G : GS} {r : ((GS) × Int32)}  (hf : f_X0_skipTurn n G = some r) : zM E l 3 yX0_skipTurn cX0_skipTurn 1 (some .int) [.ref g] (pG E h0 g G) (some (.int r.2)) (pG E h0 g r.1) := by
  refine zM_of (lv := [(0, .ref g)]) (by decide +kernel) (Nat.le_of_ble_eq_true rfl) rfl (fun X hX C => ?_)
  subst hX
  replace C : zC E X RX0 cX0_skipTurn 1 (some .int) 3 := C
  unfold f_X0_skipTurn at hf
  refine z_aload_n C dX0_skipTurn_0 0 rfl ?_
  obtain ⟨q1, hq1, hf⟩ := bd_some hf
  refine iv_X0_177 C [] [] (ct_X0_canSkipTurn hq1) pG_o rfl (by decide) rfl (Nat.le_of_ble_eq_true rfl) z_k0 dX0_skipTurn_1 ?_
  refine z_if_ne C 9 dX0_skipTurn_4 (by decide) (fun c4 => ?_) (fun c4 => ?_)
  · replace hf := iN c4 hf
    refine z_aload_n C dX0_skipTurn_9 0 rfl ?_
    refine z_dup C dX0_skipTurn_10 rfl ?_
    refine gf_X0_53 C dX0_skipTurn_11 ?_
    refine z_iconst C (1 : Int32) dX0_skipTurn_14 (by decide) ?_
    refine z_iadd C dX0_skipTurn_15 ?_
    refine pf_X0_53 C dX0_skipTurn_16 ?_
    refine z_aload_n C dX0_skipTurn_19 0 rfl ?_
    refine gf_X0_53 C dX0_skipTurn_20 ?_
    refine z_aload_n C dX0_skipTurn_23 0 rfl ?_
    refine gf_X0_47 C dX0_skipTurn_24 ?_
    refine z_icmp_lt C 41 dX0_skipTurn_27 (by decide) (fun c27 => ?_) (fun c27 => ?_)
    · replace hf := ip c27 hf
      refine z_aload_n C dX0_skipTurn_41 0 rfl ?_
      obtain ⟨q42, hq42, hf⟩ := bd_some hf
      refine iv_X0_168 C [] [] (ct_X0_goToNextPlayer hq42) pG_o rfl (by decide) rfl (Nat.le_of_ble_eq_true rfl) z_k0 dX0_skipTurn_42 ?_
      exact z_sub [0] rfl (w_X0_skipTurn_b45 C hf)
    · replace hf := iN c27 hf
      refine z_aload_n C dX0_skipTurn_30 0 rfl ?_
      refine z_aload_n C dX0_skipTurn_31 0 rfl ?_
      obtain ⟨q32, hq32, hf⟩ := bd_some hf
      refine iv_X0_180 C [] [.ref g] (ct_X0_playerWithFewestPips hq32) pG_o rfl (by decide) rfl (Nat.le_of_ble_eq_true rfl) z_k0 dX0_skipTurn_32 ?_
      obtain ⟨q35, hq35, hf⟩ := bd_some hf
      refine iv_X0_164 C [.int q32] [] (ct_X0_winRound hq35) pG_o rfl (by decide) rfl (Nat.le_of_ble_eq_true rfl) z_k0 dX0_skipTurn_35 ?_
      refine z_goto C 45 dX0_skipTurn_38 (by decide) ?_
      exact z_sub [0] rfl (w_X0_skipTurn_b45 C hf)
  · replace hf := ip c4 hf
    refine z_iconst C (-1 : Int32) dX0_skipTurn_7 (by decide) ?_
    obtain rfl := Option.some.inj hf
    exact z_ireturn C dX0_skipTurn_8
/-! X0_playable: depth 4 -/
def f_X0_playable_b24 (n : Nat) (G : GS) (K4 : Int32 → Int32 → Option Int32)  (x1 : Int32) (x2 : Int32) : Option Int32 :=
  K4 x1 (x2 + 1)
set_option maxRecDepth 100000 in
set_option maxHeartbeats 4000000 in
theorem w_X0_playable_b24 {E : zE} {X : zX} {h0 : Hp} {g : Nat} {n : Nat} {G : GS} {K4 : Int32 → Int32 → Option Int32}  (C : zC E X RX0 cX0_playable 3 (some .int) 4)  (hK4 : ∀ (x1 : Int32) (x2 : Int32) (r : Int32), K4 x1 x2 = some r → zW E X 3 0 0 (MQ (xb X) (zQ E (some (.int r)) (pG E h0 g G)) (xa X) (xs X) 0 0 (zA E)) 4 (pG E h0 g G) [(0, .ref g), (1, .int x1), (2, .int x2)] []) {x1 : Int32} {x2 : Int32} {r : Int32} (hf : f_X0_playable_b24 n G K4 x1 x2 = some r) : zW E X 3 0 0 (MQ (xb X) (zQ E (some (.int r)) (pG E h0 g G)) (xa X) (xs X) 0 0 (zA E)) 24 (pG E h0 g G) [(0, .ref g), (1, .int x1), (2, .int x2)] [] := by
  unfold f_X0_playable_b24 at hf
  refine z_iinc (lv' := [(2, .int (x2 + 1)), (0, .ref g), (1, .int x1)]) C dX0_playable_24 2 (x2 + 1) rfl rfl (by decide) rfl ?_
  refine z_goto C 4 dX0_playable_27 (by decide) ?_
  exact z_sub [1, 2, 0] rfl (hK4 _ _ _ hf)
def f_X0_playable_h4 (n : Nat) (G : GS)  (K4 : Int32 → Int32 → Option Int32) (x1 : Int32) (x2 : Int32) : Option Int32 :=
  if (28 : Int32) ≤ x2 then (some x1) else ((f_X0_reasonAgainst G x2).bind (fun q12 => if q12 = 0 then (f_X0_playable_b24 n G K4 (x1 ||| (jshl (1 : Int32) x2)) x2) else (f_X0_playable_b24 n G K4 x1 x2)))
set_option maxRecDepth 100000 in
set_option maxHeartbeats 4000000 in
theorem w_X0_playable_h4 {E : zE} {X : zX} {h0 : Hp} {g : Nat} {n : Nat} {G : GS}   (C : zC E X RX0 cX0_playable 3 (some .int) 4)   : ∀ (q : Nat) (x1 : Int32) (x2 : Int32) (r : Int32), lo2 (f_X0_playable_h4 n G) q x1 x2 = some r → zW E X 3 0 0 (MQ (xb X) (zQ E (some (.int r)) (pG E h0 g G)) (xa X) (xs X) 0 0 (zA E)) 4 (pG E h0 g G) [(0, .ref g), (1, .int x1), (2, .int x2)] [] := by
  refine lo2_ind _ ?_
  intro K4 hK4 x1 x2 r hf
  unfold f_X0_playable_h4 at hf
  refine z_iload_n C dX0_playable_4 2 rfl ?_
  refine z_bipush C (28 : Int32) dX0_playable_5 (by decide) ?_
  refine z_icmp_ge C 30 dX0_playable_7 (by decide) (fun c7 => ?_) (fun c7 => ?_)
  · replace hf := ip c7 hf
    refine z_iload_n C dX0_playable_30 1 rfl ?_
    obtain rfl := Option.some.inj hf
    exact z_ireturn C dX0_playable_31
  · replace hf := iN c7 hf
    refine z_aload_n C dX0_playable_10 0 rfl ?_
    refine z_iload_n C dX0_playable_11 2 rfl ?_
    obtain ⟨q12, hq12, hf⟩ := bd_some hf
    refine iv_X0_153 C [.int x2] [] (ct_X0_reasonAgainst hq12) pG_o rfl (by decide) rfl (Nat.le_of_ble_eq_true rfl) z_k0 dX0_playable_12 ?_
    refine z_if_ne C 24 dX0_playable_15 (by decide) (fun c15 => ?_) (fun c15 => ?_)
    · replace hf := iN c15 hf
      exact z_sub [0, 1, 2] rfl (w_X0_playable_b24 C hK4 hf)
    · replace hf := ip c15 hf
      refine z_iload_n C dX0_playable_18 1 rfl ?_
      refine z_iconst C (1 : Int32) dX0_playable_19 (by decide) ?_
      refine z_iload_n C dX0_playable_20 2 rfl ?_
      refine z_ishl C dX0_playable_21 ?_
      refine z_ior C dX0_playable_22 ?_
      refine z_istore_n (lv' := [(1, .int (x1 ||| (jshl (1 : Int32) x2))), (0, .ref g), (2, .int x2)]) C dX0_playable_23 (by decide) rfl ?_
      exact z_sub [1, 0, 2] rfl (w_X0_playable_b24 C hK4 hf)
def f_X0_playable (n : Nat) (G : GS) : Option Int32 :=
  lo2 (f_X0_playable_h4 n G) n (0 : Int32) (0 : Int32)
set_option maxRecDepth 100000 in
set_option maxHeartbeats 4000000 in
theorem ct_X0_playable {E : zE} {l : Launch} {h0 : Hp} {g : Nat} {n : Nat} {G : GS} {r : Int32}  (hf : f_X0_playable n G = some r) : zM E l 4 yX0_playable cX0_playable 3 (some .int) [.ref g] (pG E h0 g G) (some (.int r)) (pG E h0 g G) := by
  refine zM_of (lv := [(0, .ref g)]) (by decide +kernel) (Nat.le_of_ble_eq_true rfl) rfl (fun X hX C => ?_)
  subst hX
  replace C : zC E X RX0 cX0_playable 3 (some .int) 4 := C
  unfold f_X0_playable at hf
  refine z_iconst C (0 : Int32) dX0_playable_0 (by decide) ?_
  refine z_istore_n (lv' := [(1, .int (0 : Int32)), (0, .ref g)]) C dX0_playable_1 (by decide) rfl ?_
  refine z_iconst C (0 : Int32) dX0_playable_2 (by decide) ?_
  refine z_istore_n (lv' := [(2, .int (0 : Int32)), (1, .int (0 : Int32)), (0, .ref g)]) C dX0_playable_3 (by decide) rfl ?_
  exact z_sub [2, 1, 0] rfl (w_X0_playable_h4 C n _ _ _ hf)
/-! X0_mostBehind: depth 11 -/
def f_X0_mostBehind_b57 (n : Nat) (x0 : Int32) (x1 : Int32) (x2 : Int32) (REC : Int32 → Int32 → Int32 → Option Int32) (K5 : Int32 → Int32 → Option Int32)  (x3 : Int32) (x4 : Int32) : Option Int32 :=
  K5 x3 (x4 + 1)
set_option maxRecDepth 100000 in
set_option maxHeartbeats 4000000 in
theorem w_X0_mostBehind_b57 {E : zE} {X : zX} {e : Nat} {h : Hp} {n : Nat} {x0 : Int32} {x1 : Int32} {x2 : Int32} {REC : Int32 → Int32 → Int32 → Option Int32} {K5 : Int32 → Int32 → Option Int32}  (C : zC E X RX0 cX0_mostBehind 6 (some .int) (e + 3)) (hREC : ∀ (x0 : Int32) (x1 : Int32) (x2 : Int32) (r : Int32) (h : Hp), REC x0 x1 x2 = some r → zM E (xl X) (e + 2) yX0_mostBehind cX0_mostBehind 6 (some .int) [.int x0, .int x1, .int x2] h (some (.int r)) h) (hK5 : ∀ (x3 : Int32) (x4 : Int32) (r : Int32), K5 x3 x4 = some r → zW E X 6 0 0 (MQ (xb X) (zQ E (some (.int r)) h) (xa X) (xs X) 0 0 (zA E)) 5 h [(0, .int x0), (1, .int x1), (2, .int x2), (3, .int x3), (4, .int x4)] []) {x3 : Int32} {x4 : Int32} {r : Int32} (hf : f_X0_mostBehind_b57 n x0 x1 x2 REC K5 x3 x4 = some r) : zW E X 6 0 0 (MQ (xb X) (zQ E (some (.int r)) h) (xa X) (xs X) 0 0 (zA E)) 57 h [(0, .int x0), (1, .int x1), (2, .int x2), (3, .int x3), (4, .int x4)] [] := by
  unfold f_X0_mostBehind_b57 at hf
  refine z_iinc (lv' := [(4, .int (x4 + 1)), (0, .int x0), (1, .int x1), (2, .int x2), (3, .int x3)]) C dX0_mostBehind_57 4 (x4 + 1) rfl rfl (by decide) rfl ?_
  refine z_goto C 5 dX0_mostBehind_60 (by decide) ?_
  exact z_sub [1, 2, 3, 4, 0] rfl (hK5 _ _ _ hf)
def f_X0_mostBehind_h5 (n : Nat) (x0 : Int32) (x1 : Int32) (x2 : Int32) (REC : Int32 → Int32 → Int32 → Option Int32)  (K5 : Int32 → Int32 → Option Int32) (x3 : Int32) (x4 : Int32) : Option Int32 :=
  if (6 : Int32) < x4 then (some x3) else (if x2 ≤ x3 then (some x3) else ((f_X5_tileWith x1 x4).bind (fun q20 => if ((jushr x0 q20) &&& (1 : Int32)) = 0 then (f_X0_mostBehind_b57 n x0 x1 x2 REC K5 x3 x4) else ((REC (x0 &&& ((jshl (1 : Int32) q20) ^^^ (-1 : Int32))) x4 (x2 - (1 : Int32))).bind (fun q49 => f_X0_mostBehind_b57 n x0 x1 x2 REC K5 (jmax x3 ((1 : Int32) + q49)) x4)))))
set_option maxRecDepth 100000 in
set_option maxHeartbeats 4000000 in
theorem w_X0_mostBehind_h5 {E : zE} {X : zX} {e : Nat} {h : Hp} {n : Nat} {x0 : Int32} {x1 : Int32} {x2 : Int32} {REC : Int32 → Int32 → Int32 → Option Int32}   (C : zC E X RX0 cX0_mostBehind 6 (some .int) (e + 3)) (hREC : ∀ (x0 : Int32) (x1 : Int32) (x2 : Int32) (r : Int32) (h : Hp), REC x0 x1 x2 = some r → zM E (xl X) (e + 2) yX0_mostBehind cX0_mostBehind 6 (some .int) [.int x0, .int x1, .int x2] h (some (.int r)) h)  : ∀ (q : Nat) (x3 : Int32) (x4 : Int32) (r : Int32), lo2 (f_X0_mostBehind_h5 n x0 x1 x2 REC) q x3 x4 = some r → zW E X 6 0 0 (MQ (xb X) (zQ E (some (.int r)) h) (xa X) (xs X) 0 0 (zA E)) 5 h [(0, .int x0), (1, .int x1), (2, .int x2), (3, .int x3), (4, .int x4)] [] := by
  refine lo2_ind _ ?_
  intro K5 hK5 x3 x4 r hf
  unfold f_X0_mostBehind_h5 at hf
  refine z_iload C dX0_mostBehind_5 4 rfl ?_
  refine z_bipush C (6 : Int32) dX0_mostBehind_7 (by decide) ?_
  refine z_icmp_gt C 63 dX0_mostBehind_9 (by decide) (fun c9 => ?_) (fun c9 => ?_)
  · replace hf := ip c9 hf
    refine z_iload_n C dX0_mostBehind_63 3 rfl ?_
    obtain rfl := Option.some.inj hf
    exact z_ireturn C dX0_mostBehind_64
  · replace hf := iN c9 hf
    refine z_iload_n C dX0_mostBehind_12 3 rfl ?_
    refine z_iload_n C dX0_mostBehind_13 2 rfl ?_
    refine z_icmp_ge C 63 dX0_mostBehind_14 (by decide) (fun c14 => ?_) (fun c14 => ?_)
    · replace hf := ip c14 hf
      refine z_iload_n C dX0_mostBehind_63 3 rfl ?_
      obtain rfl := Option.some.inj hf
      exact z_ireturn C dX0_mostBehind_64
    · replace hf := iN c14 hf
      refine z_iload_n C dX0_mostBehind_17 1 rfl ?_
      refine z_iload C dX0_mostBehind_18 4 rfl ?_
      obtain ⟨q20, hq20, hf⟩ := bd_some hf
      refine iv_X0_199 C [.int x1, .int x4] [] (ct_X5_tileWith hq20) rfl (by omega) rfl (Nat.le_of_ble_eq_true rfl) z_k0 dX0_mostBehind_20 ?_
      refine z_istore (lv' := [(5, .int q20), (0, .int x0), (1, .int x1), (2, .int x2), (3, .int x3), (4, .int x4)]) C dX0_mostBehind_23 (by decide) rfl ?_
      refine z_iload_n C dX0_mostBehind_25 1 rfl ?_
      refine z_iload C dX0_mostBehind_26 0 rfl ?_
      refine z_iushr C dX0_mostBehind_28 ?_
      refine z_iconst C (1 : Int32) dX0_mostBehind_29 (by decide) ?_
      refine z_iand C dX0_mostBehind_30 ?_
      refine z_if_eq C 57 dX0_mostBehind_31 (by decide) (fun c31 => ?_) (fun c31 => ?_)
      · replace hf := ip c31 hf
        exact z_sub [1, 2, 3, 4, 5] rfl (w_X0_mostBehind_b57 C hREC hK5 hf)
      · replace hf := iN c31 hf
        refine z_iload_n C dX0_mostBehind_34 4 rfl ?_
        refine z_iconst C (1 : Int32) dX0_mostBehind_35 (by decide) ?_
        refine z_iload_n C dX0_mostBehind_36 1 rfl ?_
        refine z_iconst C (1 : Int32) dX0_mostBehind_37 (by decide) ?_
        refine z_iload C dX0_mostBehind_38 0 rfl ?_
        refine z_ishl C dX0_mostBehind_40 ?_
        refine z_iconst C (-1 : Int32) dX0_mostBehind_41 (by decide) ?_
        refine z_ixor C dX0_mostBehind_42 ?_
        refine z_iand C dX0_mostBehind_43 ?_
        refine z_iload C dX0_mostBehind_44 5 rfl ?_
        refine z_iload_n C dX0_mostBehind_46 3 rfl ?_
        refine z_iconst C (1 : Int32) dX0_mostBehind_47 (by decide) ?_
        refine z_isub C dX0_mostBehind_48 ?_
        obtain ⟨q49, hq49, hf⟩ := bd_some hf
        refine iv_X0_186 C [.int (x0 &&& ((jshl (1 : Int32) q20) ^^^ (-1 : Int32))), .int x4, .int (x2 - (1 : Int32))] [.int (1 : Int32), .int x3] (hREC _ _ _ _ _ hq49) rfl (Nat.le_refl _) rfl (Nat.le_of_ble_eq_true rfl) z_k0 dX0_mostBehind_49 ?_
        refine z_iadd C dX0_mostBehind_52 ?_
        refine mx_X0_194 C (by omega) (Nat.le_of_ble_eq_true rfl) z_k0 dX0_mostBehind_53 ?_
        refine z_istore_n (lv' := [(3, .int (jmax x3 ((1 : Int32) + q49))), (5, .int q20), (0, .int x0), (1, .int x1), (2, .int x2), (4, .int x4)]) C dX0_mostBehind_56 (by decide) rfl ?_
        exact z_sub [2, 3, 4, 0, 5] rfl (w_X0_mostBehind_b57 C hREC hK5 hf)
def f_X0_mostBehind_R (n : Nat) (REC : Int32 → Int32 → Int32 → Option Int32) (x0 : Int32) (x1 : Int32) (x2 : Int32) : Option Int32 :=
  lo2 (f_X0_mostBehind_h5 n x0 x1 x2 REC) n (0 : Int32) (0 : Int32)
def f_X0_mostBehind (n : Nat) (x0 : Int32) (x1 : Int32) (x2 : Int32) : Option Int32 := lo3 (f_X0_mostBehind_R n) 9 x0 x1 x2
set_option maxRecDepth 100000 in
set_option maxHeartbeats 4000000 in
theorem ct_X0_mostBehind_e {E : zE} {l : Launch} {n : Nat} : ∀ (e : Nat) (x0 : Int32) (x1 : Int32) (x2 : Int32) (r : Int32) (h : Hp), lo3 (f_X0_mostBehind_R n) e x0 x1 x2 = some r → zM E l (e + 2) yX0_mostBehind cX0_mostBehind 6 (some .int) [.int x0, .int x1, .int x2] h (some (.int r)) h := by
  intro e
  induction e with
  | zero => intro x0 x1 x2 r h hf; cases hf
  | succ e ih =>
    intro x0 x1 x2 r h hf
    have hREC := ih
    replace hf : f_X0_mostBehind_R n (lo3 (f_X0_mostBehind_R n) e) x0 x1 x2 = some r := hf
    generalize lo3 (f_X0_mostBehind_R n) e = REC at hREC hf
    refine zM_of (lv := [(0, .int x0), (1, .int x1), (2, .int x2)]) (by decide) (Nat.le_of_ble_eq_true rfl) rfl (fun X hX C => ?_)
    subst hX
    replace C : zC E X RX0 cX0_mostBehind 6 (some .int) (e + 3) := C
    unfold f_X0_mostBehind_R at hf
    refine z_iconst C (0 : Int32) dX0_mostBehind_0 (by decide) ?_
    refine z_istore_n (lv' := [(3, .int (0 : Int32)), (0, .int x0), (1, .int x1), (2, .int x2)]) C dX0_mostBehind_1 (by decide) rfl ?_
    refine z_iconst C (0 : Int32) dX0_mostBehind_2 (by decide) ?_
    refine z_istore (lv' := [(4, .int (0 : Int32)), (3, .int (0 : Int32)), (0, .int x0), (1, .int x1), (2, .int x2)]) C dX0_mostBehind_3 (by decide) rfl ?_
    exact z_sub [2, 3, 4, 1, 0] rfl (w_X0_mostBehind_h5 C hREC n _ _ _ hf)
theorem ct_X0_mostBehind {E : zE} {l : Launch} {h : Hp} {n : Nat}  {x0 : Int32} {x1 : Int32} {x2 : Int32} {r : Int32} (hf : f_X0_mostBehind n x0 x1 x2 = some r) : zM E l 11 yX0_mostBehind cX0_mostBehind 6 (some .int) [.int x0, .int x1, .int x2] h (some (.int r)) h := by
  unfold f_X0_mostBehind at hf
  exact ct_X0_mostBehind_e 9 _ _ _ _ _ hf
/-! X0_mostFromAnyTile: depth 12 -/
def f_X0_mostFromAnyTile_b47 (n : Nat) (x0 : Int32) (x1 : Int32) (K4 : Int32 → Int32 → Option Int32)  (x2 : Int32) (x3 : Int32) : Option Int32 :=
  K4 x2 (x3 + 1)
set_option maxRecDepth 100000 in
set_option maxHeartbeats 4000000 in
theorem w_X0_mostFromAnyTile_b47 {E : zE} {X : zX} {h : Hp} {n : Nat} {x0 : Int32} {x1 : Int32} {K4 : Int32 → Int32 → Option Int32}  (C : zC E X RX0 cX0_mostFromAnyTile 4 (some .int) 12)  (hK4 : ∀ (x2 : Int32) (x3 : Int32) (r : Int32), K4 x2 x3 = some r → zW E X 4 0 0 (MQ (xb X) (zQ E (some (.int r)) h) (xa X) (xs X) 0 0 (zA E)) 4 h [(0, .int x0), (1, .int x1), (2, .int x2), (3, .int x3)] []) {x2 : Int32} {x3 : Int32} {r : Int32} (hf : f_X0_mostFromAnyTile_b47 n x0 x1 K4 x2 x3 = some r) : zW E X 4 0 0 (MQ (xb X) (zQ E (some (.int r)) h) (xa X) (xs X) 0 0 (zA E)) 47 h [(0, .int x0), (1, .int x1), (2, .int x2), (3, .int x3)] [] := by
  unfold f_X0_mostFromAnyTile_b47 at hf
  refine z_iinc (lv' := [(3, .int (x3 + 1)), (0, .int x0), (1, .int x1), (2, .int x2)]) C dX0_mostFromAnyTile_47 3 (x3 + 1) rfl rfl (by decide) rfl ?_
  refine z_goto C 4 dX0_mostFromAnyTile_50 (by decide) ?_
  exact z_sub [1, 2, 3, 0] rfl (hK4 _ _ _ hf)
def f_X0_mostFromAnyTile_h4 (n : Nat) (x0 : Int32) (x1 : Int32)  (K4 : Int32 → Int32 → Option Int32) (x2 : Int32) (x3 : Int32) : Option Int32 :=
  if (28 : Int32) ≤ x3 then (some x2) else (if x1 ≤ x2 then (some x2) else (if ((jushr x0 x3) &&& (1 : Int32)) = 0 then (f_X0_mostFromAnyTile_b47 n x0 x1 K4 x2 x3) else ((f_X5_highOf x3).bind (fun q33 => (f_X0_mostBehind n (x0 &&& ((jshl (1 : Int32) x3) ^^^ (-1 : Int32))) q33 (x1 - (1 : Int32))).bind (fun q39 => f_X0_mostFromAnyTile_b47 n x0 x1 K4 (jmax x2 ((1 : Int32) + q39)) x3)))))
set_option maxRecDepth 100000 in
set_option maxHeartbeats 4000000 in
theorem w_X0_mostFromAnyTile_h4 {E : zE} {X : zX} {h : Hp} {n : Nat} {x0 : Int32} {x1 : Int32}   (C : zC E X RX0 cX0_mostFromAnyTile 4 (some .int) 12)   : ∀ (q : Nat) (x2 : Int32) (x3 : Int32) (r : Int32), lo2 (f_X0_mostFromAnyTile_h4 n x0 x1) q x2 x3 = some r → zW E X 4 0 0 (MQ (xb X) (zQ E (some (.int r)) h) (xa X) (xs X) 0 0 (zA E)) 4 h [(0, .int x0), (1, .int x1), (2, .int x2), (3, .int x3)] [] := by
  refine lo2_ind _ ?_
  intro K4 hK4 x2 x3 r hf
  unfold f_X0_mostFromAnyTile_h4 at hf
  refine z_iload_n C dX0_mostFromAnyTile_4 3 rfl ?_
  refine z_bipush C (28 : Int32) dX0_mostFromAnyTile_5 (by decide) ?_
  refine z_icmp_ge C 53 dX0_mostFromAnyTile_7 (by decide) (fun c7 => ?_) (fun c7 => ?_)
  · replace hf := ip c7 hf
    refine z_iload_n C dX0_mostFromAnyTile_53 2 rfl ?_
    obtain rfl := Option.some.inj hf
    exact z_ireturn C dX0_mostFromAnyTile_54
  · replace hf := iN c7 hf
    refine z_iload_n C dX0_mostFromAnyTile_10 2 rfl ?_
    refine z_iload_n C dX0_mostFromAnyTile_11 1 rfl ?_
    refine z_icmp_ge C 53 dX0_mostFromAnyTile_12 (by decide) (fun c12 => ?_) (fun c12 => ?_)
    · replace hf := ip c12 hf
      refine z_iload_n C dX0_mostFromAnyTile_53 2 rfl ?_
      obtain rfl := Option.some.inj hf
      exact z_ireturn C dX0_mostFromAnyTile_54
    · replace hf := iN c12 hf
      refine z_iload_n C dX0_mostFromAnyTile_15 0 rfl ?_
      refine z_iload_n C dX0_mostFromAnyTile_16 3 rfl ?_
      refine z_iushr C dX0_mostFromAnyTile_17 ?_
      refine z_iconst C (1 : Int32) dX0_mostFromAnyTile_18 (by decide) ?_
      refine z_iand C dX0_mostFromAnyTile_19 ?_
      refine z_if_eq C 47 dX0_mostFromAnyTile_20 (by decide) (fun c20 => ?_) (fun c20 => ?_)
      · replace hf := ip c20 hf
        exact z_sub [0, 1, 2, 3] rfl (w_X0_mostFromAnyTile_b47 C hK4 hf)
      · replace hf := iN c20 hf
        refine z_iload_n C dX0_mostFromAnyTile_23 2 rfl ?_
        refine z_iconst C (1 : Int32) dX0_mostFromAnyTile_24 (by decide) ?_
        refine z_iload_n C dX0_mostFromAnyTile_25 0 rfl ?_
        refine z_iconst C (1 : Int32) dX0_mostFromAnyTile_26 (by decide) ?_
        refine z_iload_n C dX0_mostFromAnyTile_27 3 rfl ?_
        refine z_ishl C dX0_mostFromAnyTile_28 ?_
        refine z_iconst C (-1 : Int32) dX0_mostFromAnyTile_29 (by decide) ?_
        refine z_ixor C dX0_mostFromAnyTile_30 ?_
        refine z_iand C dX0_mostFromAnyTile_31 ?_
        refine z_iload_n C dX0_mostFromAnyTile_32 3 rfl ?_
        obtain ⟨q33, hq33, hf⟩ := bd_some hf
        refine iv_X0_105 C [.int x3] [.int (x0 &&& ((jshl (1 : Int32) x3) ^^^ (-1 : Int32))), .int (1 : Int32), .int x2] (ct_X5_highOf hq33) rfl (by decide) rfl (Nat.le_of_ble_eq_true rfl) z_k0 dX0_mostFromAnyTile_33 ?_
        refine z_iload_n C dX0_mostFromAnyTile_36 1 rfl ?_
        refine z_iconst C (1 : Int32) dX0_mostFromAnyTile_37 (by decide) ?_
        refine z_isub C dX0_mostFromAnyTile_38 ?_
        obtain ⟨q39, hq39, hf⟩ := bd_some hf
        refine iv_X0_186 C [.int (x0 &&& ((jshl (1 : Int32) x3) ^^^ (-1 : Int32))), .int q33, .int (x1 - (1 : Int32))] [.int (1 : Int32), .int x2] (ct_X0_mostBehind hq39) rfl (by decide) rfl (Nat.le_of_ble_eq_true rfl) z_k0 dX0_mostFromAnyTile_39 ?_
        refine z_iadd C dX0_mostFromAnyTile_42 ?_
        refine mx_X0_194 C (by decide) (Nat.le_of_ble_eq_true rfl) z_k0 dX0_mostFromAnyTile_43 ?_
        refine z_istore_n (lv' := [(2, .int (jmax x2 ((1 : Int32) + q39))), (0, .int x0), (1, .int x1), (3, .int x3)]) C dX0_mostFromAnyTile_46 (by decide) rfl ?_
        exact z_sub [1, 2, 0, 3] rfl (w_X0_mostFromAnyTile_b47 C hK4 hf)
def f_X0_mostFromAnyTile (n : Nat) (x0 : Int32) (x1 : Int32) : Option Int32 :=
  lo2 (f_X0_mostFromAnyTile_h4 n x0 x1) n (0 : Int32) (0 : Int32)
set_option maxRecDepth 100000 in
set_option maxHeartbeats 4000000 in
theorem ct_X0_mostFromAnyTile {E : zE} {l : Launch} {h : Hp} {n : Nat} {x0 : Int32} {x1 : Int32} {r : Int32}  (hf : f_X0_mostFromAnyTile n x0 x1 = some r) : zM E l 12 yX0_mostFromAnyTile cX0_mostFromAnyTile 4 (some .int) [.int x0, .int x1] h (some (.int r)) h := by
  refine zM_of (lv := [(0, .int x0), (1, .int x1)]) (by decide +kernel) (Nat.le_of_ble_eq_true rfl) rfl (fun X hX C => ?_)
  subst hX
  replace C : zC E X RX0 cX0_mostFromAnyTile 4 (some .int) 12 := C
  unfold f_X0_mostFromAnyTile at hf
  refine z_iconst C (0 : Int32) dX0_mostFromAnyTile_0 (by decide) ?_
  refine z_istore_n (lv' := [(2, .int (0 : Int32)), (0, .int x0), (1, .int x1)]) C dX0_mostFromAnyTile_1 (by decide) rfl ?_
  refine z_iconst C (0 : Int32) dX0_mostFromAnyTile_2 (by decide) ?_
  refine z_istore_n (lv' := [(3, .int (0 : Int32)), (2, .int (0 : Int32)), (0, .int x0), (1, .int x1)]) C dX0_mostFromAnyTile_3 (by decide) rfl ?_
  exact z_sub [2, 3, 1, 0] rfl (w_X0_mostFromAnyTile_h4 C n _ _ _ hf)
/-! X0_longestChainOf: depth 13 -/
def f_X0_longestChainOf (n : Nat) (G : GS) (x1 : Int32) (x2 : Int32) : Option Int32 :=
  (f_X0_isPlayed G).bind (fun q1 => if q1 = 0 then (some (0 : Int32)) else ((f_X0_handOf n G x1).bind (fun q11 => (f_X2_size G).bind (fun q19 => if q19 ≤ 0 then ((f_X0_mostFromAnyTile n q11 x2).bind (fun q42 => some q42)) else ((f_X2_endOfNow G).bind (fun q30 => (f_X0_mostBehind n q11 q30 x2).bind (fun q34 => some q34)))))))
set_option maxRecDepth 100000 in
set_option maxHeartbeats 4000000 in
theorem ct_X0_longestChainOf {E : zE} {l : Launch} {h0 : Hp} {g : Nat} {n : Nat} {G : GS} {x1 : Int32} {x2 : Int32} {r : Int32}  (hf : f_X0_longestChainOf n G x1 x2 = some r) : zM E l 13 yX0_longestChainOf cX0_longestChainOf 4 (some .int) [.ref g, .int x1, .int x2] (pG E h0 g G) (some (.int r)) (pG E h0 g G) := by
  refine zM_of (lv := [(0, .ref g), (1, .int x1), (2, .int x2)]) (by decide +kernel) (Nat.le_of_ble_eq_true rfl) rfl (fun X hX C => ?_)
  subst hX
  replace C : zC E X RX0 cX0_longestChainOf 4 (some .int) 13 := C
  unfold f_X0_longestChainOf at hf
  refine z_aload_n C dX0_longestChainOf_0 0 rfl ?_
  obtain ⟨q1, hq1, hf⟩ := bd_some hf
  refine iv_X0_78 C [] [] (ct_X0_isPlayed hq1) pG_o rfl (by decide) rfl (Nat.le_of_ble_eq_true rfl) z_k0 dX0_longestChainOf_1 ?_
  refine z_if_ne C 9 dX0_longestChainOf_4 (by decide) (fun c4 => ?_) (fun c4 => ?_)
  · replace hf := iN c4 hf
    refine z_aload_n C dX0_longestChainOf_9 0 rfl ?_
    refine z_iload_n C dX0_longestChainOf_10 1 rfl ?_
    obtain ⟨q11, hq11, hf⟩ := bd_some hf
    refine iv_X0_127 C [.int x1] [] (ct_X0_handOf hq11) pG_o rfl (by decide) rfl (Nat.le_of_ble_eq_true rfl) z_k0 dX0_longestChainOf_11 ?_
    refine z_istore_n (lv' := [(3, .int q11), (0, .ref g), (1, .int x1), (2, .int x2)]) C dX0_longestChainOf_14 (by decide) rfl ?_
    refine z_aload_n C dX0_longestChainOf_15 1 rfl ?_
    refine gf_X0_27 C dX0_longestChainOf_16 ?_
    obtain ⟨q19, hq19, hf⟩ := bd_some hf
    refine iv_X0_89 C [] [] (ct_X2_size hq19) pG_l rfl (by decide) rfl (Nat.le_of_ble_eq_true rfl) z_k0 dX0_longestChainOf_19 ?_
    refine z_if_le C 40 dX0_longestChainOf_22 (by decide) (fun c22 => ?_) (fun c22 => ?_)
    · replace hf := ip c22 hf
      refine z_iload_n C dX0_longestChainOf_40 0 rfl ?_
      refine z_iload_n C dX0_longestChainOf_41 3 rfl ?_
      obtain ⟨q42, hq42, hf⟩ := bd_some hf
      refine iv_X0_190 C [.int q11, .int x2] [] (ct_X0_mostFromAnyTile hq42) rfl (by decide) rfl (Nat.le_of_ble_eq_true rfl) z_k0 dX0_longestChainOf_42 ?_
      obtain rfl := Option.some.inj hf
      exact z_ireturn C dX0_longestChainOf_45
    · replace hf := iN c22 hf
      refine z_iload_n C dX0_longestChainOf_25 0 rfl ?_
      refine z_aload_n C dX0_longestChainOf_26 1 rfl ?_
      refine gf_X0_27 C dX0_longestChainOf_27 ?_
      obtain ⟨q30, hq30, hf⟩ := bd_some hf
      refine iv_X0_92 C [] [.int q11] (ct_X2_endOfNow hq30) pG_l rfl (by decide) rfl (Nat.le_of_ble_eq_true rfl) z_k0 dX0_longestChainOf_30 ?_
      refine z_iload_n C dX0_longestChainOf_33 3 rfl ?_
      obtain ⟨q34, hq34, hf⟩ := bd_some hf
      refine iv_X0_186 C [.int q11, .int q30, .int x2] [] (ct_X0_mostBehind hq34) rfl (by decide) rfl (Nat.le_of_ble_eq_true rfl) z_k0 dX0_longestChainOf_34 ?_
      refine z_goto C 45 dX0_longestChainOf_37 (by decide) ?_
      obtain rfl := Option.some.inj hf
      exact z_ireturn C dX0_longestChainOf_45
  · replace hf := ip c4 hf
    refine z_iconst C (0 : Int32) dX0_longestChainOf_7 (by decide) ?_
    obtain rfl := Option.some.inj hf
    exact z_ireturn C dX0_longestChainOf_8
