/-! X2_becomeLike: depth 2 -/
def f_X2_becomeLike (G2 : GS) (G : GS) : Option GS :=
  stt (gL (gL (gL (gL G 0 (G2.2.1 0)) 1 (G2.2.1 1)) 2 (G2.2.1 2)) 3 (G2.2.1 3)) (fun Gn1 => stt (gA (gL Gn1 4 (G2.2.1 4)) 4 (va_cpy (G2.2.2 4) ((gL Gn1 4 (G2.2.1 4)).2.2 4) (0 : Int32).toNatClampNeg (0 : Int32).toNatClampNeg (28 : Int32).toNatClampNeg)) (fun Gn2 => stt (gA Gn2 5 (va_cpy (G2.2.2 5) (Gn2.2.2 5) (0 : Int32).toNatClampNeg (0 : Int32).toNatClampNeg (28 : Int32).toNatClampNeg)) (fun Gn3 => stt (gA Gn3 6 (va_cpy (G2.2.2 6) (Gn3.2.2 6) (0 : Int32).toNatClampNeg (0 : Int32).toNatClampNeg (28 : Int32).toNatClampNeg)) (fun Gn4 => stt (gA Gn4 7 (va_cpy (G2.2.2 7) (Gn4.2.2 7) (0 : Int32).toNatClampNeg (0 : Int32).toNatClampNeg (28 : Int32).toNatClampNeg)) (fun Gn5 => stt (gA Gn5 8 (va_cpy (G2.2.2 8) (Gn5.2.2 8) (0 : Int32).toNatClampNeg (0 : Int32).toNatClampNeg (28 : Int32).toNatClampNeg)) (fun Gn6 => stt (gA Gn6 9 (va_cpy (G2.2.2 9) (Gn6.2.2 9) (0 : Int32).toNatClampNeg (0 : Int32).toNatClampNeg (25 : Int32).toNatClampNeg)) (fun Gn7 => some Gn7)))))))
set_option maxRecDepth 100000 in
set_option maxHeartbeats 4000000 in
theorem ct_X2_becomeLike {E : zE} {l : Launch} {h0 : Hp} {g g2 : Nat} {G2 : GS} {G : GS} {r : GS} (hap : g + 12 ≤ g2 ∨ g2 + 12 ≤ g) (hf : f_X2_becomeLike G2 G = some r) : zM E l 2 yX2_becomeLike cX2_becomeLike 2 none [.ref (g + 5), .ref (g2 + 5)] (pG E (pG E h0 g2 G2) g G) none (pG E (pG E h0 g2 G2) g r) := by
  refine zM_of (lv := [(0, .ref (g + 5)), (1, .ref (g2 + 5))]) (by decide +kernel) (Nat.le_of_ble_eq_true rfl) rfl (fun X hX C => ?_)
  subst hX
  replace C : zC E X RX2 cX2_becomeLike 2 none 2 := C
  unfold f_X2_becomeLike at hf
  refine z_aload_n C dX2_becomeLike_0 0 rfl ?_
  refine z_aload_n C dX2_becomeLike_1 1 rfl ?_
  refine gfo_X2_40 hap C dX2_becomeLike_2 ?_
  refine pf_X2_40 C dX2_becomeLike_5 ?_
  refine z_aload_n C dX2_becomeLike_8 0 rfl ?_
  refine z_aload_n C dX2_becomeLike_9 1 rfl ?_
  refine gfo_X2_9 hap C dX2_becomeLike_10 ?_
  refine pf_X2_9 C dX2_becomeLike_13 ?_
  refine z_aload_n C dX2_becomeLike_16 0 rfl ?_
  refine z_aload_n C dX2_becomeLike_17 1 rfl ?_
  refine gfo_X2_43 hap C dX2_becomeLike_18 ?_
  refine pf_X2_43 C dX2_becomeLike_21 ?_
  refine z_aload_n C dX2_becomeLike_24 0 rfl ?_
  refine z_aload_n C dX2_becomeLike_25 1 rfl ?_
  refine gfo_X2_15 hap C dX2_becomeLike_26 ?_
  refine pf_X2_15 C dX2_becomeLike_29 ?_
  obtain ⟨Gn1, eGn1, hf⟩ := st_some hf
  refine z_heap (congrArg (fun z => (pG E (pG E h0 g2 G2) g z)) eGn1.symm) ?_
  refine z_aload_n C dX2_becomeLike_32 0 rfl ?_
  refine z_aload_n C dX2_becomeLike_33 1 rfl ?_
  refine gfo_X2_18 hap C dX2_becomeLike_34 ?_
  refine pf_X2_18 C dX2_becomeLike_37 ?_
  refine z_aload_n C dX2_becomeLike_40 1 rfl ?_
  refine gfo_X2_21 hap C dX2_becomeLike_41 ?_
  refine z_iconst C (0 : Int32) dX2_becomeLike_44 (by decide) ?_
  refine z_aload_n C dX2_becomeLike_45 0 rfl ?_
  refine gf_X2_21 C dX2_becomeLike_46 ?_
  refine z_iconst C (0 : Int32) dX2_becomeLike_49 (by decide) ?_
  refine z_bipush C (28 : Int32) dX2_becomeLike_50 (by decide) ?_
  refine cp_X2_52 C ((pG_out (by omega)).trans pG_a4) pG_a4 (by decide) (by decide) (by decide) (by decide) (by decide) (by decide) (Nat.le_of_ble_eq_true rfl) dX2_becomeLike_52 _ (pG_w4 _) ?_
  obtain ⟨Gn2, eGn2, hf⟩ := st_some hf
  refine z_heap (congrArg (fun z => (pG E (pG E h0 g2 G2) g z)) eGn2.symm) ?_
  refine z_aload_n C dX2_becomeLike_55 1 rfl ?_
  refine gfo_X2_25 hap C dX2_becomeLike_56 ?_
  refine z_iconst C (0 : Int32) dX2_becomeLike_59 (by decide) ?_
  refine z_aload_n C dX2_becomeLike_60 0 rfl ?_
  refine gf_X2_25 C dX2_becomeLike_61 ?_
  refine z_iconst C (0 : Int32) dX2_becomeLike_64 (by decide) ?_
  refine z_bipush C (28 : Int32) dX2_becomeLike_65 (by decide) ?_
  refine cp_X2_52 C ((pG_out (by omega)).trans pG_a5) pG_a5 (by decide) (by decide) (by decide) (by decide) (by decide) (by decide) (Nat.le_of_ble_eq_true rfl) dX2_becomeLike_67 _ (pG_w5 _) ?_
  obtain ⟨Gn3, eGn3, hf⟩ := st_some hf
  refine z_heap (congrArg (fun z => (pG E (pG E h0 g2 G2) g z)) eGn3.symm) ?_
  refine z_aload_n C dX2_becomeLike_70 1 rfl ?_
  refine gfo_X2_28 hap C dX2_becomeLike_71 ?_
  refine z_iconst C (0 : Int32) dX2_becomeLike_74 (by decide) ?_
  refine z_aload_n C dX2_becomeLike_75 0 rfl ?_
  refine gf_X2_28 C dX2_becomeLike_76 ?_
  refine z_iconst C (0 : Int32) dX2_becomeLike_79 (by decide) ?_
  refine z_bipush C (28 : Int32) dX2_becomeLike_80 (by decide) ?_
  refine cp_X2_52 C ((pG_out (by omega)).trans pG_a6) pG_a6 (by decide) (by decide) (by decide) (by decide) (by decide) (by decide) (Nat.le_of_ble_eq_true rfl) dX2_becomeLike_82 _ (pG_w6 _) ?_
  obtain ⟨Gn4, eGn4, hf⟩ := st_some hf
  refine z_heap (congrArg (fun z => (pG E (pG E h0 g2 G2) g z)) eGn4.symm) ?_
  refine z_aload_n C dX2_becomeLike_85 1 rfl ?_
  refine gfo_X2_31 hap C dX2_becomeLike_86 ?_
  refine z_iconst C (0 : Int32) dX2_becomeLike_89 (by decide) ?_
  refine z_aload_n C dX2_becomeLike_90 0 rfl ?_
  refine gf_X2_31 C dX2_becomeLike_91 ?_
  refine z_iconst C (0 : Int32) dX2_becomeLike_94 (by decide) ?_
  refine z_bipush C (28 : Int32) dX2_becomeLike_95 (by decide) ?_
  refine cp_X2_52 C ((pG_out (by omega)).trans pG_a7) pG_a7 (by decide) (by decide) (by decide) (by decide) (by decide) (by decide) (Nat.le_of_ble_eq_true rfl) dX2_becomeLike_97 _ (pG_w7 _) ?_
  obtain ⟨Gn5, eGn5, hf⟩ := st_some hf
  refine z_heap (congrArg (fun z => (pG E (pG E h0 g2 G2) g z)) eGn5.symm) ?_
  refine z_aload_n C dX2_becomeLike_100 1 rfl ?_
  refine gfo_X2_34 hap C dX2_becomeLike_101 ?_
  refine z_iconst C (0 : Int32) dX2_becomeLike_104 (by decide) ?_
  refine z_aload_n C dX2_becomeLike_105 0 rfl ?_
  refine gf_X2_34 C dX2_becomeLike_106 ?_
  refine z_iconst C (0 : Int32) dX2_becomeLike_109 (by decide) ?_
  refine z_bipush C (28 : Int32) dX2_becomeLike_110 (by decide) ?_
  refine cp_X2_52 C ((pG_out (by omega)).trans pG_a8) pG_a8 (by decide) (by decide) (by decide) (by decide) (by decide) (by decide) (Nat.le_of_ble_eq_true rfl) dX2_becomeLike_112 _ (pG_w8 _) ?_
  obtain ⟨Gn6, eGn6, hf⟩ := st_some hf
  refine z_heap (congrArg (fun z => (pG E (pG E h0 g2 G2) g z)) eGn6.symm) ?_
  refine z_aload_n C dX2_becomeLike_115 1 rfl ?_
  refine gfo_X2_37 hap C dX2_becomeLike_116 ?_
  refine z_iconst C (0 : Int32) dX2_becomeLike_119 (by decide) ?_
  refine z_aload_n C dX2_becomeLike_120 0 rfl ?_
  refine gf_X2_37 C dX2_becomeLike_121 ?_
  refine z_iconst C (0 : Int32) dX2_becomeLike_124 (by decide) ?_
  refine z_bipush C (25 : Int32) dX2_becomeLike_125 (by decide) ?_
  refine cp_X2_52 C ((pG_out (by omega)).trans pG_a9) pG_a9 (by decide) (by decide) (by decide) (by decide) (by decide) (by decide) (Nat.le_of_ble_eq_true rfl) dX2_becomeLike_127 _ (pG_w9 _) ?_
  obtain ⟨Gn7, eGn7, hf⟩ := st_some hf
  refine z_heap (congrArg (fun z => (pG E (pG E h0 g2 G2) g z)) eGn7.symm) ?_
  obtain rfl := Option.some.inj hf
  exact z_return C dX2_becomeLike_130
/-! X0_becomeLike: depth 3 -/
def f_X0_becomeLike (G2 : GS) (G : GS) : Option GS :=
  stt (gS (gS (gS (gS (gS G 0 (G2.1 0)) 1 (G2.1 1)) 2 (G2.1 2)) 3 (G2.1 3)) 4 (G2.1 4)) (fun Gn1 => stt (gA (gS (gS (gS Gn1 5 (G2.1 5)) 6 (G2.1 6)) 7 (G2.1 7)) 0 (va_cpy (G2.2.2 0) ((gS (gS (gS Gn1 5 (G2.1 5)) 6 (G2.1 6)) 7 (G2.1 7)).2.2 0) (0 : Int32).toNatClampNeg (0 : Int32).toNatClampNeg (28 : Int32).toNatClampNeg)) (fun Gn2 => stt (gA Gn2 1 (va_cpy (G2.2.2 1) (Gn2.2.2 1) (0 : Int32).toNatClampNeg (0 : Int32).toNatClampNeg (28 : Int32).toNatClampNeg)) (fun Gn3 => stt (gA Gn3 2 (va_cpy (G2.2.2 2) (Gn3.2.2 2) (0 : Int32).toNatClampNeg (0 : Int32).toNatClampNeg (4 : Int32).toNatClampNeg)) (fun Gn4 => stt (gA Gn4 3 (va_cpy (G2.2.2 3) (Gn4.2.2 3) (0 : Int32).toNatClampNeg (0 : Int32).toNatClampNeg (4 : Int32).toNatClampNeg)) (fun Gn5 => (f_X2_becomeLike G2 Gn5).bind (fun q130 => some q130))))))
set_option maxRecDepth 100000 in
set_option maxHeartbeats 4000000 in
theorem ct_X0_becomeLike {E : zE} {l : Launch} {h0 : Hp} {g g2 : Nat} {G2 : GS} {G : GS} {r : GS} (hap : g + 12 ≤ g2 ∨ g2 + 12 ≤ g) (hf : f_X0_becomeLike G2 G = some r) : zM E l 3 yX0_becomeLike cX0_becomeLike 2 none [.ref g, .ref g2] (pG E (pG E h0 g2 G2) g G) none (pG E (pG E h0 g2 G2) g r) := by
  refine zM_of (lv := [(0, .ref g), (1, .ref g2)]) (by decide +kernel) (Nat.le_of_ble_eq_true rfl) rfl (fun X hX C => ?_)
  subst hX
  replace C : zC E X RX0 cX0_becomeLike 2 none 3 := C
  unfold f_X0_becomeLike at hf
  refine z_aload_n C dX0_becomeLike_0 0 rfl ?_
  refine z_aload_n C dX0_becomeLike_1 1 rfl ?_
  refine gfo_X0_34 hap C dX0_becomeLike_2 ?_
  refine pf_X0_34 C dX0_becomeLike_5 ?_
  refine z_aload_n C dX0_becomeLike_8 0 rfl ?_
  refine z_aload_n C dX0_becomeLike_9 1 rfl ?_
  refine gfo_X0_38 hap C dX0_becomeLike_10 ?_
  refine pf_X0_38 C dX0_becomeLike_13 ?_
  refine z_aload_n C dX0_becomeLike_16 0 rfl ?_
  refine z_aload_n C dX0_becomeLike_17 1 rfl ?_
  refine gfo_X0_41 hap C dX0_becomeLike_18 ?_
  refine pf_X0_41 C dX0_becomeLike_21 ?_
  refine z_aload_n C dX0_becomeLike_24 0 rfl ?_
  refine z_aload_n C dX0_becomeLike_25 1 rfl ?_
  refine gfo_X0_44 hap C dX0_becomeLike_26 ?_
  refine pf_X0_44 C dX0_becomeLike_29 ?_
  refine z_aload_n C dX0_becomeLike_32 0 rfl ?_
  refine z_aload_n C dX0_becomeLike_33 1 rfl ?_
  refine gfo_X0_47 hap C dX0_becomeLike_34 ?_
  refine pf_X0_47 C dX0_becomeLike_37 ?_
  obtain ⟨Gn1, eGn1, hf⟩ := st_some hf
  refine z_heap (congrArg (fun z => (pG E (pG E h0 g2 G2) g z)) eGn1.symm) ?_
  refine z_aload_n C dX0_becomeLike_40 0 rfl ?_
  refine z_aload_n C dX0_becomeLike_41 1 rfl ?_
  refine gfo_X0_50 hap C dX0_becomeLike_42 ?_
  refine pf_X0_50 C dX0_becomeLike_45 ?_
  refine z_aload_n C dX0_becomeLike_48 0 rfl ?_
  refine z_aload_n C dX0_becomeLike_49 1 rfl ?_
  refine gfo_X0_53 hap C dX0_becomeLike_50 ?_
  refine pf_X0_53 C dX0_becomeLike_53 ?_
  refine z_aload_n C dX0_becomeLike_56 0 rfl ?_
  refine z_aload_n C dX0_becomeLike_57 1 rfl ?_
  refine gfo_X0_56 hap C dX0_becomeLike_58 ?_
  refine pf_X0_56 C dX0_becomeLike_61 ?_
  refine z_aload_n C dX0_becomeLike_64 1 rfl ?_
  refine gfo_X0_9 hap C dX0_becomeLike_65 ?_
  refine z_iconst C (0 : Int32) dX0_becomeLike_68 (by decide) ?_
  refine z_aload_n C dX0_becomeLike_69 0 rfl ?_
  refine gf_X0_9 C dX0_becomeLike_70 ?_
  refine z_iconst C (0 : Int32) dX0_becomeLike_73 (by decide) ?_
  refine z_bipush C (28 : Int32) dX0_becomeLike_74 (by decide) ?_
  refine cp_X0_68 C ((pG_out (by omega)).trans pG_a0) pG_a0 (by decide) (by decide) (by decide) (by decide) (by decide) (by decide) (Nat.le_of_ble_eq_true rfl) dX0_becomeLike_76 _ (pG_w0 _) ?_
  obtain ⟨Gn2, eGn2, hf⟩ := st_some hf
  refine z_heap (congrArg (fun z => (pG E (pG E h0 g2 G2) g z)) eGn2.symm) ?_
  refine z_aload_n C dX0_becomeLike_79 1 rfl ?_
  refine gfo_X0_15 hap C dX0_becomeLike_80 ?_
  refine z_iconst C (0 : Int32) dX0_becomeLike_83 (by decide) ?_
  refine z_aload_n C dX0_becomeLike_84 0 rfl ?_
  refine gf_X0_15 C dX0_becomeLike_85 ?_
  refine z_iconst C (0 : Int32) dX0_becomeLike_88 (by decide) ?_
  refine z_bipush C (28 : Int32) dX0_becomeLike_89 (by decide) ?_
  refine cp_X0_68 C ((pG_out (by omega)).trans pG_a1) pG_a1 (by decide) (by decide) (by decide) (by decide) (by decide) (by decide) (Nat.le_of_ble_eq_true rfl) dX0_becomeLike_91 _ (pG_w1 _) ?_
  obtain ⟨Gn3, eGn3, hf⟩ := st_some hf
  refine z_heap (congrArg (fun z => (pG E (pG E h0 g2 G2) g z)) eGn3.symm) ?_
  refine z_aload_n C dX0_becomeLike_94 1 rfl ?_
  refine gfo_X0_18 hap C dX0_becomeLike_95 ?_
  refine z_iconst C (0 : Int32) dX0_becomeLike_98 (by decide) ?_
  refine z_aload_n C dX0_becomeLike_99 0 rfl ?_
  refine gf_X0_18 C dX0_becomeLike_100 ?_
  refine z_iconst C (0 : Int32) dX0_becomeLike_103 (by decide) ?_
  refine z_iconst C (4 : Int32) dX0_becomeLike_104 (by decide) ?_
  refine cp_X0_68 C ((pG_out (by omega)).trans pG_a2) pG_a2 (by decide) (by decide) (by decide) (by decide) (by decide) (by decide) (Nat.le_of_ble_eq_true rfl) dX0_becomeLike_105 _ (pG_w2 _) ?_
  obtain ⟨Gn4, eGn4, hf⟩ := st_some hf
  refine z_heap (congrArg (fun z => (pG E (pG E h0 g2 G2) g z)) eGn4.symm) ?_
  refine z_aload_n C dX0_becomeLike_108 1 rfl ?_
  refine gfo_X0_21 hap C dX0_becomeLike_109 ?_
  refine z_iconst C (0 : Int32) dX0_becomeLike_112 (by decide) ?_
  refine z_aload_n C dX0_becomeLike_113 0 rfl ?_
  refine gf_X0_21 C dX0_becomeLike_114 ?_
  refine z_iconst C (0 : Int32) dX0_becomeLike_117 (by decide) ?_
  refine z_iconst C (4 : Int32) dX0_becomeLike_118 (by decide) ?_
  refine cp_X0_68 C ((pG_out (by omega)).trans pG_a3) pG_a3 (by decide) (by decide) (by decide) (by decide) (by decide) (by decide) (Nat.le_of_ble_eq_true rfl) dX0_becomeLike_119 _ (pG_w3 _) ?_
  obtain ⟨Gn5, eGn5, hf⟩ := st_some hf
  refine z_heap (congrArg (fun z => (pG E (pG E h0 g2 G2) g z)) eGn5.symm) ?_
  refine z_aload_n C dX0_becomeLike_122 0 rfl ?_
  refine gf_X0_27 C dX0_becomeLike_123 ?_
  refine z_aload_n C dX0_becomeLike_126 1 rfl ?_
  refine gfo_X0_27 hap C dX0_becomeLike_127 ?_
  obtain ⟨q130, hq130, hf⟩ := bd_some hf
  refine iv_X0_74 C [.ref (g2 + 5)] [] (ct_X2_becomeLike (by omega) hq130) pG_l rfl (by decide) rfl (Nat.le_of_ble_eq_true rfl) z_k0 dX0_becomeLike_130 ?_
  obtain rfl := Option.some.inj hf
  exact z_return C dX0_becomeLike_133
/-! X1_size: depth 1 -/
def f_X1_size (c : CS) : Option Int32 :=
  some (c.1 1)
set_option maxRecDepth 100000 in
set_option maxHeartbeats 4000000 in
theorem ct_X1_size {E : zE} {l : Launch} {h0 : Hp} {x : Nat} {c : CS} {r : Int32}  (hf : f_X1_size c = some r) : zM E l 1 yX1_size cX1_size 1 (some .int) [.ref (x + 27)] (pC E h0 x c) (some (.int r)) (pC E h0 x c) := by
  refine zM_of (lv := [(0, .ref (x + 27))]) (by decide +kernel) (Nat.le_of_ble_eq_true rfl) rfl (fun X hX C => ?_)
  subst hX
  replace C : zC E X RX1 cX1_size 1 (some .int) 1 := C
  unfold f_X1_size at hf
  refine z_aload_n C dX1_size_0 0 rfl ?_
  refine gf_X1_18 C dX1_size_1 ?_
  obtain rfl := Option.some.inj hf
  exact z_ireturn C dX1_size_4
/-! X1_forget: depth 1 -/
def f_X1_forget (c : CS) : Option CS :=
  some (cS (cS c 0 (0 : Int32)) 1 (0 : Int32))
set_option maxRecDepth 100000 in
set_option maxHeartbeats 4000000 in
theorem ct_X1_forget {E : zE} {l : Launch} {h0 : Hp} {x : Nat} {c : CS} {r : CS}  (hf : f_X1_forget c = some r) : zM E l 1 yX1_forget cX1_forget 1 none [.ref (x + 27)] (pC E h0 x c) none (pC E h0 x r) := by
  refine zM_of (lv := [(0, .ref (x + 27))]) (by decide +kernel) (Nat.le_of_ble_eq_true rfl) rfl (fun X hX C => ?_)
  subst hX
  replace C : zC E X RX1 cX1_forget 1 none 1 := C
  unfold f_X1_forget at hf
  refine z_aload_n C dX1_forget_0 0 rfl ?_
  refine z_iconst C (0 : Int32) dX1_forget_1 (by decide) ?_
  refine pf_X1_22 C dX1_forget_2 ?_
  refine z_aload_n C dX1_forget_5 0 rfl ?_
  refine z_iconst C (0 : Int32) dX1_forget_6 (by decide) ?_
  refine pf_X1_18 C dX1_forget_7 ?_
  obtain rfl := Option.some.inj hf
  exact z_return C dX1_forget_10
/-! X1_stateOf: depth 2 -/
def f_X1_stateOf (c : CS) (x1 : Int32) : Option (Option Nat) :=
  (f_J9_floorMod_7cf53 ((c.1 0) + x1) (14 : Int32)).bind (fun q8 => if (Int32.ofNat 14) ≤ q8 then (some none) else (chk (inB q8 14) (some (some (2 + q8.toNatClampNeg)))))
set_option maxRecDepth 100000 in
set_option maxHeartbeats 4000000 in
theorem ct_X1_stateOf {E : zE} {l : Launch} {h0 : Hp} {x : Nat} {c : CS} {x1 : Int32} {r : (Option Nat)}  (hf : f_X1_stateOf c x1 = some r) : zM E l 2 yX1_stateOf cX1_stateOf 3 (some (.object "SpiralDominoes$Game")) [.ref (x + 27), .int x1] (pC E h0 x c) (some (va_rf (r.map (fun i => x + ga i)))) (pC E h0 x c) := by
  refine zM_of (lv := [(0, .ref (x + 27)), (1, .int x1)]) (by decide +kernel) (Nat.le_of_ble_eq_true rfl) rfl (fun X hX C => ?_)
  subst hX
  replace C : zC E X RX1 cX1_stateOf 3 (some (.object "SpiralDominoes$Game")) 2 := C
  unfold f_X1_stateOf at hf
  refine z_aload_n C dX1_stateOf_0 0 rfl ?_
  refine gf_X1_22 C dX1_stateOf_1 ?_
  refine z_iload_n C dX1_stateOf_4 1 rfl ?_
  refine z_iadd C dX1_stateOf_5 ?_
  refine z_bipush C (14 : Int32) dX1_stateOf_6 (by decide) ?_
  obtain ⟨q8, hq8, hf⟩ := bd_some hf
  refine iv_X1_33 C [.int ((c.1 0) + x1), .int (14 : Int32)] [] (ct_J9_floorMod_7cf53 hq8) rfl (by decide) rfl (Nat.le_of_ble_eq_true rfl) z_k0 dX1_stateOf_8 ?_
  refine z_istore_n (lv' := [(2, .int q8), (0, .ref (x + 27)), (1, .int x1)]) C dX1_stateOf_11 (by decide) rfl ?_
  refine z_iload_n C dX1_stateOf_12 0 rfl ?_
  refine z_aload_n C dX1_stateOf_13 1 rfl ?_
  refine gf_X1_11 C dX1_stateOf_14 ?_
  refine z_alen C pC_st rfl dX1_stateOf_17 ?_
  refine z_icmp_ge C 30 dX1_stateOf_18 (by decide) (fun c18 => ?_) (fun c18 => ?_)
  · replace hf := ip c18 hf
    refine z_null C dX1_stateOf_30 ?_
    obtain rfl := Option.some.inj hf
    exact z_areturn C (Or.inl rfl) dX1_stateOf_31
  · replace hf := iN c18 hf
    refine z_aload_n C dX1_stateOf_21 1 rfl ?_
    refine gf_X1_11 C dX1_stateOf_22 ?_
    refine z_iload_n C dX1_stateOf_25 0 rfl ?_
    obtain ⟨c26, hf⟩ := chk_some hf
    refine z_aald C pC_st c26 (stA_in c26) dX1_stateOf_26 ?_
    refine z_goto C 31 dX1_stateOf_27 (by decide) ?_
    obtain rfl := Option.some.inj hf
    exact z_areturn C (Or.inr ⟨_, rfl⟩) dX1_stateOf_31
/-! X1_remember: depth 4 -/
def f_X1_remember_b18    (c : CS) : Option CS :=
  if (14 : Int32) ≤ (c.1 1) then (chk (¬ (14 : Int32) = 0) (some (cS c 0 (jrem ((c.1 0) + (1 : Int32)) (14 : Int32))))) else (some (cS c 1 ((c.1 1) + (1 : Int32))))
set_option maxRecDepth 100000 in
set_option maxHeartbeats 4000000 in
theorem w_X1_remember_b18 {E : zE} {X : zX} {h0 : Hp} {x : Nat}    (C : zC E X RX1 cX1_remember 3 none 4)   {c : CS} {r : CS} (hf : f_X1_remember_b18  c = some r) : zW E X 3 0 0 (MQ (xb X) (zQ E none (pC E h0 x r)) (xa X) (xs X) 0 0 (zA E)) 18 (pC E h0 x c) [(0, .ref (x + 27))] [] := by
  unfold f_X1_remember_b18 at hf
  refine z_aload_n C dX1_remember_18 0 rfl ?_
  refine gf_X1_18 C dX1_remember_19 ?_
  refine z_bipush C (14 : Int32) dX1_remember_22 (by decide) ?_
  refine z_icmp_ge C 40 dX1_remember_24 (by decide) (fun c24 => ?_) (fun c24 => ?_)
  · replace hf := ip c24 hf
    refine z_aload_n C dX1_remember_40 0 rfl ?_
    refine z_aload_n C dX1_remember_41 0 rfl ?_
    refine gf_X1_22 C dX1_remember_42 ?_
    refine z_iconst C (1 : Int32) dX1_remember_45 (by decide) ?_
    refine z_iadd C dX1_remember_46 ?_
    refine z_bipush C (14 : Int32) dX1_remember_47 (by decide) ?_
    obtain ⟨c49, hf⟩ := chk_some hf
    refine z_irem C dX1_remember_49 c49 ?_
    refine pf_X1_22 C dX1_remember_50 ?_
    obtain rfl := Option.some.inj hf
    exact z_return C dX1_remember_53
  · replace hf := iN c24 hf
    refine z_aload_n C dX1_remember_27 0 rfl ?_
    refine z_dup C dX1_remember_28 rfl ?_
    refine gf_X1_18 C dX1_remember_29 ?_
    refine z_iconst C (1 : Int32) dX1_remember_32 (by decide) ?_
    refine z_iadd C dX1_remember_33 ?_
    refine pf_X1_18 C dX1_remember_34 ?_
    refine z_goto C 53 dX1_remember_37 (by decide) ?_
    obtain rfl := Option.some.inj hf
    exact z_return C dX1_remember_53
def f_X1_remember (c : CS) : Option CS :=
  (f_X1_stateOf c (c.1 1)).bind (fun q5 => oc q5 (f_X1_remember_b18  c) (fun i5 => chk (i5 < 18 ∧ 0 < 18 ∧ i5 ≠ 0) ((f_X0_becomeLike (c.2.2 0) (c.2.2 i5)).bind (fun q15 => f_X1_remember_b18  (cG c i5 q15)))))
set_option maxRecDepth 100000 in
set_option maxHeartbeats 4000000 in
theorem ct_X1_remember {E : zE} {l : Launch} {h0 : Hp} {x : Nat} {c : CS} {r : CS}  (hf : f_X1_remember c = some r) : zM E l 4 yX1_remember cX1_remember 3 none [.ref (x + 27), .ref (x + ga 0)] (pC E h0 x c) none (pC E h0 x r) := by
  refine zM_of (lv := [(0, .ref (x + 27)), (1, .ref (x + ga 0))]) (by decide +kernel) (Nat.le_of_ble_eq_true rfl) rfl (fun X hX C => ?_)
  subst hX
  replace C : zC E X RX1 cX1_remember 3 none 4 := C
  unfold f_X1_remember at hf
  refine z_aload_n C dX1_remember_0 0 rfl ?_
  refine z_aload_n C dX1_remember_1 0 rfl ?_
  refine gf_X1_18 C dX1_remember_2 ?_
  obtain ⟨q5, hq5, hf⟩ := bd_some hf
  refine iv_X1_25 C [.int (c.1 1)] [] (ct_X1_stateOf hq5) pC_h rfl (by decide) rfl (Nat.le_of_ble_eq_true rfl) z_k0 dX1_remember_5 ?_
  cases q5 with
  | none =>
    replace hf := oc_n hf
    refine z_stk (show _ = Value.null :: [] from rfl) ?_
    refine z_astore_nN (lv' := [(2, .null), (0, .ref (x + 27)), (1, .ref (x + ga 0))]) C dX1_remember_8 (by decide) rfl ?_
    refine z_aload_nN C dX1_remember_9 0 rfl ?_
    refine z_ifnullN C 18 dX1_remember_10 (by decide) ?_
    exact z_sub [1] rfl (w_X1_remember_b18 C hf)
  | some i5 =>
    replace hf := oc_s hf
    refine z_stk (show _ = Value.ref (x + ga i5) :: [] from rfl) ?_
    refine z_astore_n (lv' := [(2, .ref (x + ga i5)), (0, .ref (x + 27)), (1, .ref (x + ga 0))]) C dX1_remember_8 (by decide) rfl ?_
    refine z_aload_n C dX1_remember_9 0 rfl ?_
    refine z_ifnull C dX1_remember_10 ?_
    refine z_aload_n C dX1_remember_13 0 rfl ?_
    refine z_aload_n C dX1_remember_14 2 rfl ?_
    obtain ⟨hk15, hf⟩ := chk_some hf
    obtain ⟨q15, hq15, hf⟩ := bd_some hf
    refine z_heap (pC_G2 hk15.1 hk15.2.1) ?_
    refine iv_X1_29 C [.ref (x + ga 0)] [] (ct_X0_becomeLike (ga_apart hk15.1 hk15.2.1 hk15.2.2 x) hq15) pG_o rfl (by decide) rfl (Nat.le_of_ble_eq_true rfl) z_k0 dX1_remember_15 ?_
    refine z_heap (pC_G2' hk15.1 hk15.2.1 _) ?_
    exact z_sub [1] rfl (w_X1_remember_b18 C hf)
/-! X1_takeBack: depth 4 -/
def f_X1_takeBack_b35    (c : CS) : Option ((CS) × Int32) :=
  some (c, (c.1 1))
set_option maxRecDepth 100000 in
set_option maxHeartbeats 4000000 in
theorem w_X1_takeBack_b35 {E : zE} {X : zX} {h0 : Hp} {x : Nat}    (C : zC E X RX1 cX1_takeBack 3 (some .int) 4)   {c : CS} {r : ((CS) × Int32)} (hf : f_X1_takeBack_b35  c = some r) : zW E X 3 0 0 (MQ (xb X) (zQ E (some (.int r.2)) (pC E h0 x r.1)) (xa X) (xs X) 0 0 (zA E)) 35 (pC E h0 x c) [(0, .ref (x + 27))] [] := by
  unfold f_X1_takeBack_b35 at hf
  refine z_aload_n C dX1_takeBack_35 0 rfl ?_
  refine gf_X1_18 C dX1_takeBack_36 ?_
  obtain rfl := Option.some.inj hf
  exact z_ireturn C dX1_takeBack_39
def f_X1_takeBack (c : CS) : Option ((CS) × Int32) :=
  if (c.1 1) ≤ 0 then (f_X1_takeBack_b35  c) else ((f_X1_stateOf (cS c 1 ((c.1 1) - (1 : Int32))) ((cS c 1 ((c.1 1) - (1 : Int32))).1 1)).bind (fun q22 => oc q22 (f_X1_takeBack_b35  (cS c 1 ((c.1 1) - (1 : Int32)))) (fun i22 => chk (0 < 18 ∧ i22 < 18 ∧ 0 ≠ i22) ((f_X0_becomeLike ((cS c 1 ((c.1 1) - (1 : Int32))).2.2 i22) ((cS c 1 ((c.1 1) - (1 : Int32))).2.2 0)).bind (fun q32 => f_X1_takeBack_b35  (cG (cS c 1 ((c.1 1) - (1 : Int32))) 0 q32))))))
set_option maxRecDepth 100000 in
set_option maxHeartbeats 4000000 in
theorem ct_X1_takeBack {E : zE} {l : Launch} {h0 : Hp} {x : Nat} {c : CS} {r : ((CS) × Int32)}  (hf : f_X1_takeBack c = some r) : zM E l 4 yX1_takeBack cX1_takeBack 3 (some .int) [.ref (x + 27), .ref (x + ga 0)] (pC E h0 x c) (some (.int r.2)) (pC E h0 x r.1) := by
  refine zM_of (lv := [(0, .ref (x + 27)), (1, .ref (x + ga 0))]) (by decide +kernel) (Nat.le_of_ble_eq_true rfl) rfl (fun X hX C => ?_)
  subst hX
  replace C : zC E X RX1 cX1_takeBack 3 (some .int) 4 := C
  unfold f_X1_takeBack at hf
  refine z_aload_n C dX1_takeBack_0 0 rfl ?_
  refine gf_X1_18 C dX1_takeBack_1 ?_
  refine z_if_le C 35 dX1_takeBack_4 (by decide) (fun c4 => ?_) (fun c4 => ?_)
  · replace hf := ip c4 hf
    exact z_sub [0] rfl (w_X1_takeBack_b35 C hf)
  · replace hf := iN c4 hf
    refine z_aload_n C dX1_takeBack_7 0 rfl ?_
    refine z_dup C dX1_takeBack_8 rfl ?_
    refine gf_X1_18 C dX1_takeBack_9 ?_
    refine z_iconst C (1 : Int32) dX1_takeBack_12 (by decide) ?_
    refine z_isub C dX1_takeBack_13 ?_
    refine pf_X1_18 C dX1_takeBack_14 ?_
    refine z_aload_n C dX1_takeBack_17 0 rfl ?_
    refine z_aload_n C dX1_takeBack_18 0 rfl ?_
    refine gf_X1_18 C dX1_takeBack_19 ?_
    obtain ⟨q22, hq22, hf⟩ := bd_some hf
    refine iv_X1_25 C [.int ((cS c 1 ((c.1 1) - (1 : Int32))).1 1)] [] (ct_X1_stateOf hq22) pC_h rfl (by decide) rfl (Nat.le_of_ble_eq_true rfl) z_k0 dX1_takeBack_22 ?_
    cases q22 with
    | none =>
      replace hf := oc_n hf
      refine z_stk (show _ = Value.null :: [] from rfl) ?_
      refine z_astore_nN (lv' := [(2, .null), (0, .ref (x + 27)), (1, .ref (x + ga 0))]) C dX1_takeBack_25 (by decide) rfl ?_
      refine z_aload_nN C dX1_takeBack_26 0 rfl ?_
      refine z_ifnullN C 35 dX1_takeBack_27 (by decide) ?_
      exact z_sub [1] rfl (w_X1_takeBack_b35 C hf)
    | some i22 =>
      replace hf := oc_s hf
      refine z_stk (show _ = Value.ref (x + ga i22) :: [] from rfl) ?_
      refine z_astore_n (lv' := [(2, .ref (x + ga i22)), (0, .ref (x + 27)), (1, .ref (x + ga 0))]) C dX1_takeBack_25 (by decide) rfl ?_
      refine z_aload_n C dX1_takeBack_26 0 rfl ?_
      refine z_ifnull C dX1_takeBack_27 ?_
      refine z_aload_n C dX1_takeBack_30 2 rfl ?_
      refine z_aload_n C dX1_takeBack_31 0 rfl ?_
      obtain ⟨hk32, hf⟩ := chk_some hf
      obtain ⟨q32, hq32, hf⟩ := bd_some hf
      refine z_heap (pC_G2 hk32.1 hk32.2.1) ?_
      refine iv_X1_29 C [.ref (x + ga i22)] [] (ct_X0_becomeLike (ga_apart hk32.1 hk32.2.1 hk32.2.2 x) hq32) pG_o rfl (by decide) rfl (Nat.le_of_ble_eq_true rfl) z_k0 dX1_takeBack_32 ?_
      refine z_heap (pC_G2' hk32.1 hk32.2.1 _) ?_
      exact z_sub [1] rfl (w_X1_takeBack_b35 C hf)
/-! X3_isFull: depth 1 -/
def f_X3_isFull (s : Nat) (c : CS) : Option Int32 :=
  chk ((c.1 (2 + s)) = 0 ∨ (c.1 (2 + s)) = 1) (some (c.1 (2 + s)))
set_option maxRecDepth 100000 in
set_option maxHeartbeats 4000000 in
theorem ct_X3_isFull {E : zE} {l : Launch} {h0 : Hp} {x : Nat} {s : Nat} {c : CS} {r : Int32} (hs : s = 0 ∨ s = 1) (hf : f_X3_isFull s c = some r) : zM E l 1 yX3_isFull cX3_isFull 1 (some .boolean) [.ref (x + sa s)] (pC E h0 x c) (some (.int r)) (pC E h0 x c) := by
  refine zM_of (lv := [(0, .ref (x + sa s))]) (by decide +kernel) (Nat.le_of_ble_eq_true rfl) rfl (fun X hX C => ?_)
  subst hX
  replace C : zC E X RX3 cX3_isFull 1 (some .boolean) 1 := C
  unfold f_X3_isFull at hf
  refine z_aload_n C dX3_isFull_0 0 rfl ?_
  refine gf_X3_16 hs C dX3_isFull_1 ?_
  obtain ⟨c4, hf⟩ := chk_some hf
  obtain rfl := Option.some.inj hf
  exact z_zreturn C c4 dX3_isFull_4
/-! X3_becomeEmpty: depth 1 -/
def f_X3_becomeEmpty (s : Nat) (c : CS) : Option CS :=
  some (cS c (2 + s) (0 : Int32))
set_option maxRecDepth 100000 in
set_option maxHeartbeats 4000000 in
theorem ct_X3_becomeEmpty {E : zE} {l : Launch} {h0 : Hp} {x : Nat} {s : Nat} {c : CS} {r : CS} (hs : s = 0 ∨ s = 1) (hf : f_X3_becomeEmpty s c = some r) : zM E l 1 yX3_becomeEmpty cX3_becomeEmpty 1 none [.ref (x + sa s)] (pC E h0 x c) none (pC E h0 x r) := by
  refine zM_of (lv := [(0, .ref (x + sa s))]) (by decide +kernel) (Nat.le_of_ble_eq_true rfl) rfl (fun X hX C => ?_)
  subst hX
  replace C : zC E X RX3 cX3_becomeEmpty 1 none 1 := C
  unfold f_X3_becomeEmpty at hf
  refine z_aload_n C dX3_becomeEmpty_0 0 rfl ?_
  refine z_iconst C (0 : Int32) dX3_becomeEmpty_1 (by decide) ?_
  refine pf_X3_16 hs C (by decide) dX3_becomeEmpty_2 ?_
  obtain rfl := Option.some.inj hf
  exact z_return C dX3_becomeEmpty_5
/-! X3_keep: depth 4 -/
def f_X3_keep (s : Nat) (c : CS) : Option CS :=
  chk ((16 + s) < 18 ∧ 0 < 18 ∧ (16 + s) ≠ 0) ((f_X0_becomeLike (c.2.2 0) (c.2.2 (16 + s))).bind (fun q5 => some (cS (cG c (16 + s) q5) (2 + s) (1 : Int32))))
set_option maxRecDepth 100000 in
set_option maxHeartbeats 4000000 in
theorem ct_X3_keep {E : zE} {l : Launch} {h0 : Hp} {x : Nat} {s : Nat} {c : CS} {r : CS} (hs : s = 0 ∨ s = 1) (hf : f_X3_keep s c = some r) : zM E l 4 yX3_keep cX3_keep 2 none [.ref (x + sa s), .ref (x + ga 0)] (pC E h0 x c) none (pC E h0 x r) := by
  refine zM_of (lv := [(0, .ref (x + sa s)), (1, .ref (x + ga 0))]) (by decide +kernel) (Nat.le_of_ble_eq_true rfl) rfl (fun X hX C => ?_)
  subst hX
  replace C : zC E X RX3 cX3_keep 2 none 4 := C
  unfold f_X3_keep at hf
  refine z_aload_n C dX3_keep_0 0 rfl ?_
  refine gf_X3_10 hs C dX3_keep_1 ?_
  refine z_aload_n C dX3_keep_4 1 rfl ?_
  obtain ⟨hk5, hf⟩ := chk_some hf
  obtain ⟨q5, hq5, hf⟩ := bd_some hf
  refine z_heap (pC_G2 hk5.1 hk5.2.1) ?_
  refine iv_X3_20 C [.ref (x + ga 0)] [] (ct_X0_becomeLike (ga_apart hk5.1 hk5.2.1 hk5.2.2 x) hq5) pG_o rfl (by decide) rfl (Nat.le_of_ble_eq_true rfl) z_k0 dX3_keep_5 ?_
  refine z_heap (pC_G2' hk5.1 hk5.2.1 _) ?_
  refine z_aload_n C dX3_keep_8 0 rfl ?_
  refine z_iconst C (1 : Int32) dX3_keep_9 (by decide) ?_
  refine pf_X3_16 hs C (by decide) dX3_keep_10 ?_
  obtain rfl := Option.some.inj hf
  exact z_return C dX3_keep_13
/-! X3_giveBack: depth 4 -/
def f_X3_giveBack (s : Nat) (c : CS) : Option CS :=
  chk (0 < 18 ∧ (16 + s) < 18 ∧ 0 ≠ (16 + s)) ((f_X0_becomeLike (c.2.2 (16 + s)) (c.2.2 0)).bind (fun q5 => some (cG c 0 q5)))
set_option maxRecDepth 100000 in
set_option maxHeartbeats 4000000 in
theorem ct_X3_giveBack {E : zE} {l : Launch} {h0 : Hp} {x : Nat} {s : Nat} {c : CS} {r : CS} (hs : s = 0 ∨ s = 1) (hf : f_X3_giveBack s c = some r) : zM E l 4 yX3_giveBack cX3_giveBack 2 none [.ref (x + sa s), .ref (x + ga 0)] (pC E h0 x c) none (pC E h0 x r) := by
  refine zM_of (lv := [(0, .ref (x + sa s)), (1, .ref (x + ga 0))]) (by decide +kernel) (Nat.le_of_ble_eq_true rfl) rfl (fun X hX C => ?_)
  subst hX
  replace C : zC E X RX3 cX3_giveBack 2 none 4 := C
  unfold f_X3_giveBack at hf
  refine z_aload_n C dX3_giveBack_0 1 rfl ?_
  refine z_aload_n C dX3_giveBack_1 0 rfl ?_
  refine gf_X3_10 hs C dX3_giveBack_2 ?_
  obtain ⟨hk5, hf⟩ := chk_some hf
  obtain ⟨q5, hq5, hf⟩ := bd_some hf
  refine z_heap (pC_G2 hk5.1 hk5.2.1) ?_
  refine iv_X3_20 C [.ref (x + ga (16 + s))] [] (ct_X0_becomeLike (ga_apart hk5.1 hk5.2.1 hk5.2.2 x) hq5) pG_o rfl (by decide) rfl (Nat.le_of_ble_eq_true rfl) z_k0 dX3_giveBack_5 ?_
  refine z_heap (pC_G2' hk5.1 hk5.2.1 _) ?_
  obtain rfl := Option.some.inj hf
  exact z_return C dX3_giveBack_8
