/-! L_alike: depth 17, exceptions at most 350 -/
def f_L_alike_b224 (n : Nat) (x2 : Int32) (K58 : CS → CS → Int32 → Int32 → Option (CS × CS × Int32))  (c : CS) (d : CS) (x4 : Int32) (s0 : Int32) : Option (CS × CS × Int32) :=
  K58 c d s0 (x4 + 1)
set_option maxRecDepth 100000 in
set_option maxHeartbeats 4000000 in
theorem w_L_alike_b224 {E : zE} {X : zX} {h0 : Hp} {x y : Nat} {n : Nat} {x2 : Int32} {K58 : CS → CS → Int32 → Int32 → Option (CS × CS × Int32)} {fu : Nat} (C : zC E X RL cL_alike 5 (some .boolean) 17) (hap : x + 223 ≤ y ∨ y + 223 ≤ x) (hst : (xl X).stackTraces = false) (hR1 : 350 ≤ (xR X).cells) (hR2 : 2100 ≤ (xR X).slots) (hK58 : ∀ (c : CS) (d : CS) (x3 : Int32) (x4 : Int32) (r : (CS × CS × Int32)) (k n9 : Nat), (k + (fu * 12 + 0) ≤ 350 ∧ n9 + (fu * 72 + 0) ≤ 2100) → K58 c d x3 x4 = some r → zW E X 5 k n9 (MQ (xb X) (zQ E (some (.int r.2.2)) (pC E (pC E h0 x r.1) y r.2.1)) (xa X) (xs X) 350 2100 (zA E)) 58 (pC E (pC E h0 x c) y d) [(0, .ref x), (1, .ref y), (2, .int x2), (3, .int x3), (4, .int x4)] []) {c : CS} {d : CS} {x4 : Int32} {s0 : Int32} {r : (CS × CS × Int32)} {k n9 : Nat} (hk : (k + (fu * 12 + 0) ≤ 350 ∧ n9 + (fu * 72 + 0) ≤ 2100)) (hf : f_L_alike_b224 n x2 K58 c d x4 s0 = some r) : zW E X 5 k n9 (MQ (xb X) (zQ E (some (.int r.2.2)) (pC E (pC E h0 x r.1) y r.2.1)) (xa X) (xs X) 350 2100 (zA E)) 224 (pC E (pC E h0 x c) y d) [(0, .ref x), (1, .ref y), (2, .int x2), (4, .int x4)] [.int s0] := by
  obtain ⟨hk1, hk2⟩ := hk
  unfold f_L_alike_b224 at hf
  refine z_istore_n (lv' := [(3, .int s0), (0, .ref x), (1, .ref y), (2, .int x2), (4, .int x4)]) C dL_alike_224 (by decide) rfl ?_
  refine z_iinc (lv' := [(4, .int (x4 + 1)), (3, .int s0), (0, .ref x), (1, .ref y), (2, .int x2)]) C dL_alike_225 4 (x4 + 1) rfl rfl (by decide) rfl ?_
  refine z_goto C 58 dL_alike_228 (by decide) ?_
  exact z_sub [2, 3, 4, 1, 0] rfl (hK58 _ _ _ _ _ _ _ ⟨by omega, by omega⟩ hf)
def f_L_alike_b223 (n : Nat) (x2 : Int32) (K58 : CS → CS → Int32 → Int32 → Option (CS × CS × Int32))  (c : CS) (d : CS) (x4 : Int32) : Option (CS × CS × Int32) :=
  f_L_alike_b224 n x2 K58 c d x4 (0 : Int32)
set_option maxRecDepth 100000 in
set_option maxHeartbeats 4000000 in
theorem w_L_alike_b223 {E : zE} {X : zX} {h0 : Hp} {x y : Nat} {n : Nat} {x2 : Int32} {K58 : CS → CS → Int32 → Int32 → Option (CS × CS × Int32)} {fu : Nat} (C : zC E X RL cL_alike 5 (some .boolean) 17) (hap : x + 223 ≤ y ∨ y + 223 ≤ x) (hst : (xl X).stackTraces = false) (hR1 : 350 ≤ (xR X).cells) (hR2 : 2100 ≤ (xR X).slots) (hK58 : ∀ (c : CS) (d : CS) (x3 : Int32) (x4 : Int32) (r : (CS × CS × Int32)) (k n9 : Nat), (k + (fu * 12 + 0) ≤ 350 ∧ n9 + (fu * 72 + 0) ≤ 2100) → K58 c d x3 x4 = some r → zW E X 5 k n9 (MQ (xb X) (zQ E (some (.int r.2.2)) (pC E (pC E h0 x r.1) y r.2.1)) (xa X) (xs X) 350 2100 (zA E)) 58 (pC E (pC E h0 x c) y d) [(0, .ref x), (1, .ref y), (2, .int x2), (3, .int x3), (4, .int x4)] []) {c : CS} {d : CS} {x4 : Int32} {r : (CS × CS × Int32)} {k n9 : Nat} (hk : (k + (fu * 12 + 0) ≤ 350 ∧ n9 + (fu * 72 + 0) ≤ 2100)) (hf : f_L_alike_b223 n x2 K58 c d x4 = some r) : zW E X 5 k n9 (MQ (xb X) (zQ E (some (.int r.2.2)) (pC E (pC E h0 x r.1) y r.2.1)) (xa X) (xs X) 350 2100 (zA E)) 223 (pC E (pC E h0 x c) y d) [(0, .ref x), (1, .ref y), (2, .int x2), (4, .int x4)] [] := by
  obtain ⟨hk1, hk2⟩ := hk
  unfold f_L_alike_b223 at hf
  refine z_iconst C (0 : Int32) dL_alike_223 (by decide) ?_
  exact z_sub [0, 1, 2, 3] rfl (w_L_alike_b224 C hap hst hR1 hR2 hK58 ⟨by omega, by omega⟩ hf)
def f_L_alike_h58 (n : Nat) (x2 : Int32)  (K58 : CS → CS → Int32 → Int32 → Option (CS × CS × Int32)) (c : CS) (d : CS) (x3 : Int32) (x4 : Int32) : Option (CS × CS × Int32) :=
  if (28 : Int32) ≤ x4 then (chk (x3 = 0 ∨ x3 = 1) (some (c, d, x3))) else (if x3 = 0 then (chk (x3 = 0 ∨ x3 = 1) (some (c, d, x3))) else (chk (¬ (5 : Int32) = 0) ((f_L_call n c (3 : Int32) x4 (jrem x2 (5 : Int32)) (0 : Int32)).bind (fun q77 => chk (¬ (5 : Int32) = 0) ((f_L_call n d (3 : Int32) x4 (jrem x2 (5 : Int32)) (0 : Int32)).bind (fun q88 => if q77.2 = q88.2 then ((f_L_call n q77.1 (2 : Int32) x4 (0 : Int32) (0 : Int32)).bind (fun q100 => (f_L_call n q88.1 (2 : Int32) x4 (0 : Int32) (0 : Int32)).bind (fun q109 => if q100.2 = q109.2 then (chk (¬ (6 : Int32) = 0) ((f_L_call n q100.1 (4 : Int32) x4 (jrem x2 (6 : Int32)) (0 : Int32)).bind (fun q124 => chk (¬ (6 : Int32) = 0) ((f_L_call n q109.1 (4 : Int32) x4 (jrem x2 (6 : Int32)) (0 : Int32)).bind (fun q136 => if q124.2 = q136.2 then (chk (¬ (4 : Int32) = 0) ((f_L_call n q124.1 (5 : Int32) x4 (jrem x2 (4 : Int32)) (0 : Int32)).bind (fun q150 => chk (¬ (4 : Int32) = 0) ((f_L_call n q136.1 (5 : Int32) x4 (jrem x2 (4 : Int32)) (0 : Int32)).bind (fun q161 => if q150.2 = q161.2 then ((f_L_call n q150.1 (13 : Int32) x4 (0 : Int32) (0 : Int32)).bind (fun q174 => (f_L_call n q161.1 (13 : Int32) x4 (0 : Int32) (0 : Int32)).bind (fun q184 => if q174.2 = q184.2 then (chk (¬ (25 : Int32) = 0) ((f_L_call n q174.1 (6 : Int32) x4 (jrem x2 (25 : Int32)) (0 : Int32)).bind (fun q200 => chk (¬ (25 : Int32) = 0) ((f_L_call n q184.1 (6 : Int32) x4 (jrem x2 (25 : Int32)) (0 : Int32)).bind (fun q213 => if q200.2 = q213.2 then (f_L_alike_b224 n x2 K58 q200.1 q213.1 x4 (1 : Int32)) else (f_L_alike_b223 n x2 K58 q200.1 q213.1 x4)))))) else (f_L_alike_b223 n x2 K58 q174.1 q184.1 x4)))) else (f_L_alike_b223 n x2 K58 q150.1 q161.1 x4)))))) else (f_L_alike_b223 n x2 K58 q124.1 q136.1 x4)))))) else (f_L_alike_b223 n x2 K58 q100.1 q109.1 x4)))) else (f_L_alike_b223 n x2 K58 q77.1 q88.1 x4)))))))
set_option maxRecDepth 100000 in
set_option maxHeartbeats 4000000 in
theorem w_L_alike_h58 {E : zE} {X : zX} {h0 : Hp} {x y : Nat} {n : Nat} {x2 : Int32}  (C : zC E X RL cL_alike 5 (some .boolean) 17) (hap : x + 223 ≤ y ∨ y + 223 ≤ x) (hst : (xl X).stackTraces = false) (hR1 : 350 ≤ (xR X).cells) (hR2 : 2100 ≤ (xR X).slots)  : ∀ (fu : Nat) (c : CS) (d : CS) (x3 : Int32) (x4 : Int32) (r : (CS × CS × Int32)), lo4 (f_L_alike_h58 n x2) fu c d x3 x4 = some r → ∀ k n9 : Nat, (k + (fu * 12 + 0) ≤ 350 ∧ n9 + (fu * 72 + 0) ≤ 2100) → zW E X 5 k n9 (MQ (xb X) (zQ E (some (.int r.2.2)) (pC E (pC E h0 x r.1) y r.2.1)) (xa X) (xs X) 350 2100 (zA E)) 58 (pC E (pC E h0 x c) y d) [(0, .ref x), (1, .ref y), (2, .int x2), (3, .int x3), (4, .int x4)] [] := by
  refine lo4_indq (Z := fun (fu : Nat) (c : CS) (d : CS) (x3 : Int32) (x4 : Int32) (r : (CS × CS × Int32)) => ∀ k n9 : Nat, (k + (fu * 12 + 0) ≤ 350 ∧ n9 + (fu * 72 + 0) ≤ 2100) → zW E X 5 k n9 (MQ (xb X) (zQ E (some (.int r.2.2)) (pC E (pC E h0 x r.1) y r.2.1)) (xa X) (xs X) 350 2100 (zA E)) 58 (pC E (pC E h0 x c) y d) [(0, .ref x), (1, .ref y), (2, .int x2), (3, .int x3), (4, .int x4)] []) ?_
  intro fu K58 hK0 c d x3 x4 r hf k n9 hk
  have hK58 : ∀ (c : CS) (d : CS) (x3 : Int32) (x4 : Int32) (r : (CS × CS × Int32)) (k n9 : Nat), (k + (fu * 12 + 0) ≤ 350 ∧ n9 + (fu * 72 + 0) ≤ 2100) → K58 c d x3 x4 = some r → zW E X 5 k n9 (MQ (xb X) (zQ E (some (.int r.2.2)) (pC E (pC E h0 x r.1) y r.2.1)) (xa X) (xs X) 350 2100 (zA E)) 58 (pC E (pC E h0 x c) y d) [(0, .ref x), (1, .ref y), (2, .int x2), (3, .int x3), (4, .int x4)] [] := fun c d x3 x4 r k n9 hk hq => hK0 c d x3 x4 r hq k n9 hk
  clear hK0
  obtain ⟨hk1, hk2⟩ := hk
  unfold f_L_alike_h58 at hf
  refine z_iload C dL_alike_58 4 rfl ?_
  refine z_bipush C (28 : Int32) dL_alike_60 (by decide) ?_
  refine z_icmp_ge C 231 dL_alike_62 (by decide) (fun c62 => ?_) (fun c62 => ?_)
  · replace hf := ip c62 hf
    refine z_iload_n C dL_alike_231 3 rfl ?_
    obtain ⟨c232, hf⟩ := chk_some hf
    obtain rfl := Option.some.inj hf
    exact z_zretK C c232 (by omega) (by omega) dL_alike_232 rfl
  · replace hf := iN c62 hf
    refine z_iload_n C dL_alike_65 3 rfl ?_
    refine z_if_eq C 231 dL_alike_66 (by decide) (fun c66 => ?_) (fun c66 => ?_)
    · replace hf := ip c66 hf
      refine z_iload_n C dL_alike_231 3 rfl ?_
      obtain ⟨c232, hf⟩ := chk_some hf
      obtain rfl := Option.some.inj hf
      exact z_zretK C c232 (by omega) (by omega) dL_alike_232 rfl
    · replace hf := iN c66 hf
      refine z_aload_n C dL_alike_69 0 rfl ?_
      refine z_iconst C (3 : Int32) dL_alike_70 (by decide) ?_
      refine z_iload C dL_alike_71 4 rfl ?_
      refine z_iload_n C dL_alike_73 2 rfl ?_
      refine z_iconst C (5 : Int32) dL_alike_74 (by decide) ?_
      obtain ⟨c75, hf⟩ := chk_some hf
      refine z_irem C dL_alike_75 c75 ?_
      refine z_iconst C (0 : Int32) dL_alike_76 (by decide) ?_
      obtain ⟨q77, hq77, hf⟩ := bd_some hf
      refine z_heap (pC_sw hap) ?_
      refine z_callK (K := 1) C 80 [.ref x, .int (3 : Int32), .int x4, .int (jrem x2 (5 : Int32)), .int (0 : Int32)] [] (ct_L_call hst hq77) co_L_call ml_L_139 st_L_call ini_L ⟨by decide +kernel, by decide +kernel, by show _ = some 5; decide +kernel⟩ (by decide) (by decide) rfl (Nat.le_of_ble_eq_true rfl) ⟨by omega, by omega⟩ rfl dL_alike_77 ?_
      refine z_heap (pC_sw hap.symm) ?_
      refine z_aload_n C dL_alike_80 1 rfl ?_
      refine z_iconst C (3 : Int32) dL_alike_81 (by decide) ?_
      refine z_iload C dL_alike_82 4 rfl ?_
      refine z_iload_n C dL_alike_84 2 rfl ?_
      refine z_iconst C (5 : Int32) dL_alike_85 (by decide) ?_
      obtain ⟨c86, hf⟩ := chk_some hf
      refine z_irem C dL_alike_86 c86 ?_
      refine z_iconst C (0 : Int32) dL_alike_87 (by decide) ?_
      obtain ⟨q88, hq88, hf⟩ := bd_some hf
      refine z_callK (K := 1) C 91 [.ref y, .int (3 : Int32), .int x4, .int (jrem x2 (5 : Int32)), .int (0 : Int32)] [.int q77.2] (ct_L_call hst hq88) co_L_call ml_L_139 st_L_call ini_L ⟨by decide +kernel, by decide +kernel, by show _ = some 5; decide +kernel⟩ (by decide) (by decide) rfl (Nat.le_of_ble_eq_true rfl) ⟨by omega, by omega⟩ rfl dL_alike_88 ?_
      refine z_icmp_ne C 223 dL_alike_91 (by decide) (fun c91 => ?_) (fun c91 => ?_)
      · replace hf := iN c91 hf
        exact z_sub [0, 1, 2, 4] rfl (w_L_alike_b223 C hap hst hR1 hR2 hK58 ⟨by omega, by omega⟩ hf)
      · replace hf := ip c91 hf
        refine z_aload_n C dL_alike_94 0 rfl ?_
        refine z_iconst C (2 : Int32) dL_alike_95 (by decide) ?_
        refine z_iload C dL_alike_96 4 rfl ?_
        refine z_iconst C (0 : Int32) dL_alike_98 (by decide) ?_
        refine z_iconst C (0 : Int32) dL_alike_99 (by decide) ?_
        obtain ⟨q100, hq100, hf⟩ := bd_some hf
        refine z_heap (pC_sw hap) ?_
        refine z_callK (K := 1) C 103 [.ref x, .int (2 : Int32), .int x4, .int (0 : Int32), .int (0 : Int32)] [] (ct_L_call hst hq100) co_L_call ml_L_139 st_L_call ini_L ⟨by decide +kernel, by decide +kernel, by show _ = some 5; decide +kernel⟩ (by decide) (by decide) rfl (Nat.le_of_ble_eq_true rfl) ⟨by omega, by omega⟩ rfl dL_alike_100 ?_
        refine z_heap (pC_sw hap.symm) ?_
        refine z_aload_n C dL_alike_103 1 rfl ?_
        refine z_iconst C (2 : Int32) dL_alike_104 (by decide) ?_
        refine z_iload C dL_alike_105 4 rfl ?_
        refine z_iconst C (0 : Int32) dL_alike_107 (by decide) ?_
        refine z_iconst C (0 : Int32) dL_alike_108 (by decide) ?_
        obtain ⟨q109, hq109, hf⟩ := bd_some hf
        refine z_callK (K := 1) C 112 [.ref y, .int (2 : Int32), .int x4, .int (0 : Int32), .int (0 : Int32)] [.int q100.2] (ct_L_call hst hq109) co_L_call ml_L_139 st_L_call ini_L ⟨by decide +kernel, by decide +kernel, by show _ = some 5; decide +kernel⟩ (by decide) (by decide) rfl (Nat.le_of_ble_eq_true rfl) ⟨by omega, by omega⟩ rfl dL_alike_109 ?_
        refine z_icmp_ne C 223 dL_alike_112 (by decide) (fun c112 => ?_) (fun c112 => ?_)
        · replace hf := iN c112 hf
          exact z_sub [0, 1, 2, 4] rfl (w_L_alike_b223 C hap hst hR1 hR2 hK58 ⟨by omega, by omega⟩ hf)
        · replace hf := ip c112 hf
          refine z_aload_n C dL_alike_115 0 rfl ?_
          refine z_iconst C (4 : Int32) dL_alike_116 (by decide) ?_
          refine z_iload C dL_alike_117 4 rfl ?_
          refine z_iload_n C dL_alike_119 2 rfl ?_
          refine z_bipush C (6 : Int32) dL_alike_120 (by decide) ?_
          obtain ⟨c122, hf⟩ := chk_some hf
          refine z_irem C dL_alike_122 c122 ?_
          refine z_iconst C (0 : Int32) dL_alike_123 (by decide) ?_
          obtain ⟨q124, hq124, hf⟩ := bd_some hf
          refine z_heap (pC_sw hap) ?_
          refine z_callK (K := 1) C 127 [.ref x, .int (4 : Int32), .int x4, .int (jrem x2 (6 : Int32)), .int (0 : Int32)] [] (ct_L_call hst hq124) co_L_call ml_L_139 st_L_call ini_L ⟨by decide +kernel, by decide +kernel, by show _ = some 5; decide +kernel⟩ (by decide) (by decide) rfl (Nat.le_of_ble_eq_true rfl) ⟨by omega, by omega⟩ rfl dL_alike_124 ?_
          refine z_heap (pC_sw hap.symm) ?_
          refine z_aload_n C dL_alike_127 1 rfl ?_
          refine z_iconst C (4 : Int32) dL_alike_128 (by decide) ?_
          refine z_iload C dL_alike_129 4 rfl ?_
          refine z_iload_n C dL_alike_131 2 rfl ?_
          refine z_bipush C (6 : Int32) dL_alike_132 (by decide) ?_
          obtain ⟨c134, hf⟩ := chk_some hf
          refine z_irem C dL_alike_134 c134 ?_
          refine z_iconst C (0 : Int32) dL_alike_135 (by decide) ?_
          obtain ⟨q136, hq136, hf⟩ := bd_some hf
          refine z_callK (K := 1) C 139 [.ref y, .int (4 : Int32), .int x4, .int (jrem x2 (6 : Int32)), .int (0 : Int32)] [.int q124.2] (ct_L_call hst hq136) co_L_call ml_L_139 st_L_call ini_L ⟨by decide +kernel, by decide +kernel, by show _ = some 5; decide +kernel⟩ (by decide) (by decide) rfl (Nat.le_of_ble_eq_true rfl) ⟨by omega, by omega⟩ rfl dL_alike_136 ?_
          refine z_icmp_ne C 223 dL_alike_139 (by decide) (fun c139 => ?_) (fun c139 => ?_)
          · replace hf := iN c139 hf
            exact z_sub [0, 1, 2, 4] rfl (w_L_alike_b223 C hap hst hR1 hR2 hK58 ⟨by omega, by omega⟩ hf)
          · replace hf := ip c139 hf
            refine z_aload_n C dL_alike_142 0 rfl ?_
            refine z_iconst C (5 : Int32) dL_alike_143 (by decide) ?_
            refine z_iload C dL_alike_144 4 rfl ?_
            refine z_iload_n C dL_alike_146 2 rfl ?_
            refine z_iconst C (4 : Int32) dL_alike_147 (by decide) ?_
            obtain ⟨c148, hf⟩ := chk_some hf
            refine z_irem C dL_alike_148 c148 ?_
            refine z_iconst C (0 : Int32) dL_alike_149 (by decide) ?_
            obtain ⟨q150, hq150, hf⟩ := bd_some hf
            refine z_heap (pC_sw hap) ?_
            refine z_callK (K := 1) C 153 [.ref x, .int (5 : Int32), .int x4, .int (jrem x2 (4 : Int32)), .int (0 : Int32)] [] (ct_L_call hst hq150) co_L_call ml_L_139 st_L_call ini_L ⟨by decide +kernel, by decide +kernel, by show _ = some 5; decide +kernel⟩ (by decide) (by decide) rfl (Nat.le_of_ble_eq_true rfl) ⟨by omega, by omega⟩ rfl dL_alike_150 ?_
            refine z_heap (pC_sw hap.symm) ?_
            refine z_aload_n C dL_alike_153 1 rfl ?_
            refine z_iconst C (5 : Int32) dL_alike_154 (by decide) ?_
            refine z_iload C dL_alike_155 4 rfl ?_
            refine z_iload_n C dL_alike_157 2 rfl ?_
            refine z_iconst C (4 : Int32) dL_alike_158 (by decide) ?_
            obtain ⟨c159, hf⟩ := chk_some hf
            refine z_irem C dL_alike_159 c159 ?_
            refine z_iconst C (0 : Int32) dL_alike_160 (by decide) ?_
            obtain ⟨q161, hq161, hf⟩ := bd_some hf
            refine z_callK (K := 1) C 164 [.ref y, .int (5 : Int32), .int x4, .int (jrem x2 (4 : Int32)), .int (0 : Int32)] [.int q150.2] (ct_L_call hst hq161) co_L_call ml_L_139 st_L_call ini_L ⟨by decide +kernel, by decide +kernel, by show _ = some 5; decide +kernel⟩ (by decide) (by decide) rfl (Nat.le_of_ble_eq_true rfl) ⟨by omega, by omega⟩ rfl dL_alike_161 ?_
            refine z_icmp_ne C 223 dL_alike_164 (by decide) (fun c164 => ?_) (fun c164 => ?_)
            · replace hf := iN c164 hf
              exact z_sub [0, 1, 2, 4] rfl (w_L_alike_b223 C hap hst hR1 hR2 hK58 ⟨by omega, by omega⟩ hf)
            · replace hf := ip c164 hf
              refine z_aload_n C dL_alike_167 0 rfl ?_
              refine z_bipush C (13 : Int32) dL_alike_168 (by decide) ?_
              refine z_iload C dL_alike_170 4 rfl ?_
              refine z_iconst C (0 : Int32) dL_alike_172 (by decide) ?_
              refine z_iconst C (0 : Int32) dL_alike_173 (by decide) ?_
              obtain ⟨q174, hq174, hf⟩ := bd_some hf
              refine z_heap (pC_sw hap) ?_
              refine z_callK (K := 1) C 177 [.ref x, .int (13 : Int32), .int x4, .int (0 : Int32), .int (0 : Int32)] [] (ct_L_call hst hq174) co_L_call ml_L_139 st_L_call ini_L ⟨by decide +kernel, by decide +kernel, by show _ = some 5; decide +kernel⟩ (by decide) (by decide) rfl (Nat.le_of_ble_eq_true rfl) ⟨by omega, by omega⟩ rfl dL_alike_174 ?_
              refine z_heap (pC_sw hap.symm) ?_
              refine z_aload_n C dL_alike_177 1 rfl ?_
              refine z_bipush C (13 : Int32) dL_alike_178 (by decide) ?_
              refine z_iload C dL_alike_180 4 rfl ?_
              refine z_iconst C (0 : Int32) dL_alike_182 (by decide) ?_
              refine z_iconst C (0 : Int32) dL_alike_183 (by decide) ?_
              obtain ⟨q184, hq184, hf⟩ := bd_some hf
              refine z_callK (K := 1) C 187 [.ref y, .int (13 : Int32), .int x4, .int (0 : Int32), .int (0 : Int32)] [.int q174.2] (ct_L_call hst hq184) co_L_call ml_L_139 st_L_call ini_L ⟨by decide +kernel, by decide +kernel, by show _ = some 5; decide +kernel⟩ (by decide) (by decide) rfl (Nat.le_of_ble_eq_true rfl) ⟨by omega, by omega⟩ rfl dL_alike_184 ?_
              refine z_icmp_ne C 223 dL_alike_187 (by decide) (fun c187 => ?_) (fun c187 => ?_)
              · replace hf := iN c187 hf
                exact z_sub [0, 1, 2, 4] rfl (w_L_alike_b223 C hap hst hR1 hR2 hK58 ⟨by omega, by omega⟩ hf)
              · replace hf := ip c187 hf
                refine z_aload_n C dL_alike_190 0 rfl ?_
                refine z_bipush C (6 : Int32) dL_alike_191 (by decide) ?_
                refine z_iload C dL_alike_193 4 rfl ?_
                refine z_iload_n C dL_alike_195 2 rfl ?_
                refine z_bipush C (25 : Int32) dL_alike_196 (by decide) ?_
                obtain ⟨c198, hf⟩ := chk_some hf
                refine z_irem C dL_alike_198 c198 ?_
                refine z_iconst C (0 : Int32) dL_alike_199 (by decide) ?_
                obtain ⟨q200, hq200, hf⟩ := bd_some hf
                refine z_heap (pC_sw hap) ?_
                refine z_callK (K := 1) C 203 [.ref x, .int (6 : Int32), .int x4, .int (jrem x2 (25 : Int32)), .int (0 : Int32)] [] (ct_L_call hst hq200) co_L_call ml_L_139 st_L_call ini_L ⟨by decide +kernel, by decide +kernel, by show _ = some 5; decide +kernel⟩ (by decide) (by decide) rfl (Nat.le_of_ble_eq_true rfl) ⟨by omega, by omega⟩ rfl dL_alike_200 ?_
                refine z_heap (pC_sw hap.symm) ?_
                refine z_aload_n C dL_alike_203 1 rfl ?_
                refine z_bipush C (6 : Int32) dL_alike_204 (by decide) ?_
                refine z_iload C dL_alike_206 4 rfl ?_
                refine z_iload_n C dL_alike_208 2 rfl ?_
                refine z_bipush C (25 : Int32) dL_alike_209 (by decide) ?_
                obtain ⟨c211, hf⟩ := chk_some hf
                refine z_irem C dL_alike_211 c211 ?_
                refine z_iconst C (0 : Int32) dL_alike_212 (by decide) ?_
                obtain ⟨q213, hq213, hf⟩ := bd_some hf
                refine z_callK (K := 1) C 216 [.ref y, .int (6 : Int32), .int x4, .int (jrem x2 (25 : Int32)), .int (0 : Int32)] [.int q200.2] (ct_L_call hst hq213) co_L_call ml_L_139 st_L_call ini_L ⟨by decide +kernel, by decide +kernel, by show _ = some 5; decide +kernel⟩ (by decide) (by decide) rfl (Nat.le_of_ble_eq_true rfl) ⟨by omega, by omega⟩ rfl dL_alike_213 ?_
                refine z_icmp_ne C 223 dL_alike_216 (by decide) (fun c216 => ?_) (fun c216 => ?_)
                · replace hf := iN c216 hf
                  exact z_sub [0, 1, 2, 4] rfl (w_L_alike_b223 C hap hst hR1 hR2 hK58 ⟨by omega, by omega⟩ hf)
                · replace hf := ip c216 hf
                  refine z_iconst C (1 : Int32) dL_alike_219 (by decide) ?_
                  refine z_goto C 224 dL_alike_220 (by decide) ?_
                  exact z_sub [0, 1, 2, 4] rfl (w_L_alike_b224 C hap hst hR1 hR2 hK58 ⟨by omega, by omega⟩ hf)
def f_L_alike_b54 (n : Nat) (x2 : Int32)   (c : CS) (d : CS) (s0 : Int32) : Option (CS × CS × Int32) :=
  lo4 (f_L_alike_h58 n x2) 29 c d s0 (0 : Int32)
set_option maxRecDepth 100000 in
set_option maxHeartbeats 4000000 in
theorem w_L_alike_b54 {E : zE} {X : zX} {h0 : Hp} {x y : Nat} {n : Nat} {x2 : Int32}  (C : zC E X RL cL_alike 5 (some .boolean) 17) (hap : x + 223 ≤ y ∨ y + 223 ≤ x) (hst : (xl X).stackTraces = false) (hR1 : 350 ≤ (xR X).cells) (hR2 : 2100 ≤ (xR X).slots)  {c : CS} {d : CS} {s0 : Int32} {r : (CS × CS × Int32)} {k n9 : Nat} (hk : (k + 348 ≤ 350 ∧ n9 + 2088 ≤ 2100)) (hf : f_L_alike_b54 n x2 c d s0 = some r) : zW E X 5 k n9 (MQ (xb X) (zQ E (some (.int r.2.2)) (pC E (pC E h0 x r.1) y r.2.1)) (xa X) (xs X) 350 2100 (zA E)) 54 (pC E (pC E h0 x c) y d) [(0, .ref x), (1, .ref y), (2, .int x2)] [.int s0] := by
  obtain ⟨hk1, hk2⟩ := hk
  unfold f_L_alike_b54 at hf
  refine z_istore_n (lv' := [(3, .int s0), (0, .ref x), (1, .ref y), (2, .int x2)]) C dL_alike_54 (by decide) rfl ?_
  refine z_iconst C (0 : Int32) dL_alike_55 (by decide) ?_
  refine z_istore (lv' := [(4, .int (0 : Int32)), (3, .int s0), (0, .ref x), (1, .ref y), (2, .int x2)]) C dL_alike_56 (by decide) rfl ?_
  exact z_sub [2, 3, 4, 1, 0] rfl (w_L_alike_h58 C hap hst hR1 hR2 29 _ _ _ _ _ hf _ _ ⟨by omega, by omega⟩)
def f_L_alike_b53 (n : Nat) (x2 : Int32)   (c : CS) (d : CS) : Option (CS × CS × Int32) :=
  f_L_alike_b54 n x2 c d (0 : Int32)
set_option maxRecDepth 100000 in
set_option maxHeartbeats 4000000 in
theorem w_L_alike_b53 {E : zE} {X : zX} {h0 : Hp} {x y : Nat} {n : Nat} {x2 : Int32}  (C : zC E X RL cL_alike 5 (some .boolean) 17) (hap : x + 223 ≤ y ∨ y + 223 ≤ x) (hst : (xl X).stackTraces = false) (hR1 : 350 ≤ (xR X).cells) (hR2 : 2100 ≤ (xR X).slots)  {c : CS} {d : CS} {r : (CS × CS × Int32)} {k n9 : Nat} (hk : (k + 348 ≤ 350 ∧ n9 + 2088 ≤ 2100)) (hf : f_L_alike_b53 n x2 c d = some r) : zW E X 5 k n9 (MQ (xb X) (zQ E (some (.int r.2.2)) (pC E (pC E h0 x r.1) y r.2.1)) (xa X) (xs X) 350 2100 (zA E)) 53 (pC E (pC E h0 x c) y d) [(0, .ref x), (1, .ref y), (2, .int x2)] [] := by
  obtain ⟨hk1, hk2⟩ := hk
  unfold f_L_alike_b53 at hf
  refine z_iconst C (0 : Int32) dL_alike_53 (by decide) ?_
  exact z_sub [0, 1, 2] rfl (w_L_alike_b54 C hap hst hR1 hR2 ⟨by omega, by omega⟩ hf)
def f_L_alike (n : Nat) (c : CS) (d : CS) (x2 : Int32) : Option (CS × CS × Int32) :=
  chk (¬ (90 : Int32) = 0) ((f_L_doSimulate n c x2.toInt64 ((1 : Int32) + (jrem x2 (90 : Int32)))).bind (fun q9 => chk (¬ (90 : Int32) = 0) ((f_L_doSimulate n d x2.toInt64 ((1 : Int32) + (jrem x2 (90 : Int32)))).bind (fun q21 => if q9.2 = q21.2 then ((f_X5_legal n q9.1).bind (fun q28 => (f_X5_legal n q21.1).bind (fun q32 => if q28 = q32 then ((f_X5_best n q9.1).bind (fun q39 => (f_X5_best n q21.1).bind (fun q43 => if q39 = q43 then (f_L_alike_b54 n x2 q9.1 q21.1 (1 : Int32)) else (f_L_alike_b53 n x2 q9.1 q21.1)))) else (f_L_alike_b53 n x2 q9.1 q21.1)))) else (f_L_alike_b53 n x2 q9.1 q21.1)))))
set_option maxRecDepth 100000 in
set_option maxHeartbeats 4000000 in
theorem ct_L_alike {E : zE} {l : Launch} {h0 : Hp} {x y : Nat} {n : Nat} {c : CS} {d : CS} {x2 : Int32} {r : (CS × CS × Int32)} (hap : x + 223 ≤ y ∨ y + 223 ≤ x) (hst : l.stackTraces = false) (hf : f_L_alike n c d x2 = some r) : zMK E l 17 350 yL_alike cL_alike 5 (some .boolean) [.ref x, .ref y, .int x2] (pC E (pC E h0 x c) y d) (some (.int r.2.2)) (pC E (pC E h0 x r.1) y r.2.1) := by
  refine zMK_of (lv := [(0, .ref x), (1, .ref y), (2, .int x2)]) (by decide +kernel) (Nat.le_of_ble_eq_true rfl) rfl (fun X hX C hR => ?_)
  subst hX
  replace C : zC E X RL cL_alike 5 (some .boolean) 17 := C
  have hR1 : 350 ≤ (xR X).cells := by rw [hR]; exact Nat.le_refl _
  have hR2 : 2100 ≤ (xR X).slots := by rw [hR]; exact Nat.le_refl _
  obtain ⟨k, hk0⟩ : ∃ k : Nat, k = 0 := ⟨0, rfl⟩
  obtain ⟨n9, hn0⟩ : ∃ n9 : Nat, n9 = 0 := ⟨0, rfl⟩
  refine z_kn (k := k) (n := n9) hk0 hn0 ?_
  unfold f_L_alike at hf
  refine z_aload_n C dL_alike_0 0 rfl ?_
  refine z_iload_n C dL_alike_1 2 rfl ?_
  refine z_i2l C dL_alike_2 ?_
  refine z_iconst C (1 : Int32) dL_alike_3 (by decide) ?_
  refine z_iload_n C dL_alike_4 2 rfl ?_
  refine z_bipush C (90 : Int32) dL_alike_5 (by decide) ?_
  obtain ⟨c7, hf⟩ := chk_some hf
  refine z_irem C dL_alike_7 c7 ?_
  refine z_iadd C dL_alike_8 ?_
  obtain ⟨q9, hq9, hf⟩ := bd_some hf
  refine z_heap (pC_sw hap) ?_
  refine z_callSW C 12 [.ref x, .long x2.toInt64, .int ((1 : Int32) + (jrem x2 (90 : Int32)))] [] (ct_L_doSimulate hst hq9) co_L_doSimulate ml_L_156 st_L_doSimulate ini_L ⟨by decide +kernel, by decide +kernel, by show _ = some 3; decide +kernel⟩ (by decide) (by decide) rfl (Nat.le_of_ble_eq_true rfl) ⟨by omega, by omega⟩ rfl dL_alike_9 ?_
  refine z_heap (pC_sw hap.symm) ?_
  refine z_aload_n C dL_alike_12 1 rfl ?_
  refine z_iload_n C dL_alike_13 2 rfl ?_
  refine z_i2l C dL_alike_14 ?_
  refine z_iconst C (1 : Int32) dL_alike_15 (by decide) ?_
  refine z_iload_n C dL_alike_16 2 rfl ?_
  refine z_bipush C (90 : Int32) dL_alike_17 (by decide) ?_
  obtain ⟨c19, hf⟩ := chk_some hf
  refine z_irem C dL_alike_19 c19 ?_
  refine z_iadd C dL_alike_20 ?_
  obtain ⟨q21, hq21, hf⟩ := bd_some hf
  refine z_callSW C 24 [.ref y, .long x2.toInt64, .int ((1 : Int32) + (jrem x2 (90 : Int32)))] [.int q9.2] (ct_L_doSimulate hst hq21) co_L_doSimulate ml_L_156 st_L_doSimulate ini_L ⟨by decide +kernel, by decide +kernel, by show _ = some 3; decide +kernel⟩ (by decide) (by decide) rfl (Nat.le_of_ble_eq_true rfl) ⟨by omega, by omega⟩ rfl dL_alike_21 ?_
  refine z_icmp_ne C 53 dL_alike_24 (by decide) (fun c24 => ?_) (fun c24 => ?_)
  · replace hf := iN c24 hf
    exact z_sub [0, 1, 2] rfl (w_L_alike_b53 C hap hst hR1 hR2 ⟨by omega, by omega⟩ hf)
  · replace hf := ip c24 hf
    refine z_aload_n C dL_alike_27 0 rfl ?_
    obtain ⟨q28, hq28, hf⟩ := bd_some hf
    refine z_heap (pC_sw hap) ?_
    refine iv_L_160 C [] [] (ct_X5_legal hq28) pC_o rfl (by decide) rfl (Nat.le_of_ble_eq_true rfl) ⟨by omega, by omega⟩ dL_alike_28 ?_
    refine z_heap (pC_sw hap.symm) ?_
    refine z_aload_n C dL_alike_31 1 rfl ?_
    obtain ⟨q32, hq32, hf⟩ := bd_some hf
    refine iv_L_160 C [] [.int q28] (ct_X5_legal hq32) pC_o rfl (by decide) rfl (Nat.le_of_ble_eq_true rfl) ⟨by omega, by omega⟩ dL_alike_32 ?_
    refine z_icmp_ne C 53 dL_alike_35 (by decide) (fun c35 => ?_) (fun c35 => ?_)
    · replace hf := iN c35 hf
      exact z_sub [0, 1, 2] rfl (w_L_alike_b53 C hap hst hR1 hR2 ⟨by omega, by omega⟩ hf)
    · replace hf := ip c35 hf
      refine z_aload_n C dL_alike_38 0 rfl ?_
      obtain ⟨q39, hq39, hf⟩ := bd_some hf
      refine z_heap (pC_sw hap) ?_
      refine iv_L_163 C [] [] (ct_X5_best hq39) pC_o rfl (by decide) rfl (Nat.le_of_ble_eq_true rfl) ⟨by omega, by omega⟩ dL_alike_39 ?_
      refine z_heap (pC_sw hap.symm) ?_
      refine z_aload_n C dL_alike_42 1 rfl ?_
      obtain ⟨q43, hq43, hf⟩ := bd_some hf
      refine iv_L_163 C [] [.int q39] (ct_X5_best hq43) pC_o rfl (by decide) rfl (Nat.le_of_ble_eq_true rfl) ⟨by omega, by omega⟩ dL_alike_43 ?_
      refine z_icmp_ne C 53 dL_alike_46 (by decide) (fun c46 => ?_) (fun c46 => ?_)
      · replace hf := iN c46 hf
        exact z_sub [0, 1, 2] rfl (w_L_alike_b53 C hap hst hR1 hR2 ⟨by omega, by omega⟩ hf)
      · replace hf := ip c46 hf
        refine z_iconst C (1 : Int32) dL_alike_49 (by decide) ?_
        refine z_goto C 54 dL_alike_50 (by decide) ?_
        exact z_sub [0, 1, 2] rfl (w_L_alike_b54 C hap hst hR1 hR2 ⟨by omega, by omega⟩ hf)
/-! L_lays: depth 17, exceptions at most 32 -/
def f_L_lays_b471 (n : Nat) (x2 : Int32)   (c : CS) (d : CS) (x3 : Int32) (x6 : Int32) (x7 : Int32) (x9 : Int32) (x11 : Int32) (x16 : Int32) : Option (CS × CS × Int32) :=
  if x16 = 0 then (some (c, d, (0 : Int32))) else ((f_L_call n c (10 : Int32) (0 : Int32) (0 : Int32) (0 : Int32)).bind (fun q482 => (f_L_thrown q482.2).bind (fun q485 => if q485 = 0 then ((f_L_call n d (10 : Int32) (0 : Int32) (0 : Int32) (0 : Int32)).bind (fun q497 => (f_L_thrown q497.2).bind (fun q500 => if q500 = 0 then ((f_L_call n q482.1 (2 : Int32) (5 : Int32) (0 : Int32) (0 : Int32)).bind (fun q511 => if q511.2 = x9 then ((f_L_call n q511.1 (2 : Int32) (3 : Int32) (0 : Int32) (0 : Int32)).bind (fun q524 => if q524.2 = x7 then ((f_L_call n q524.1 (5 : Int32) x7 (0 : Int32) (0 : Int32)).bind (fun q538 => if q538.2 = x11 then ((f_L_call n q538.1 (11 : Int32) x3 (0 : Int32) (0 : Int32)).bind (fun q552 => if q552.2 = x6 then (some (q552.1, q497.1, (1 : Int32))) else (some (q552.1, q497.1, (0 : Int32))))) else (some (q538.1, q497.1, (0 : Int32))))) else (some (q524.1, q497.1, (0 : Int32))))) else (some (q511.1, q497.1, (0 : Int32))))) else (some (q482.1, q497.1, (0 : Int32)))))) else (some (q482.1, d, (0 : Int32))))))
set_option maxRecDepth 100000 in
set_option maxHeartbeats 4000000 in
theorem w_L_lays_b471 {E : zE} {X : zX} {h0 : Hp} {x y : Nat} {n : Nat} {x2 : Int32}  (C : zC E X RL cL_lays 19 (some .boolean) 17) (hap : x + 223 ≤ y ∨ y + 223 ≤ x) (hst : (xl X).stackTraces = false) (hR1 : 32 ≤ (xR X).cells) (hR2 : 192 ≤ (xR X).slots)  {c : CS} {d : CS} {x3 : Int32} {x6 : Int32} {x7 : Int32} {x9 : Int32} {x11 : Int32} {x16 : Int32} {r : (CS × CS × Int32)} {k n9 : Nat} (hk : (k + 6 ≤ 32 ∧ n9 + 36 ≤ 192)) (hf : f_L_lays_b471 n x2 c d x3 x6 x7 x9 x11 x16 = some r) : zW E X 19 k n9 (MQ (xb X) (zQ E (some (.int r.2.2)) (pC E (pC E h0 x r.1) y r.2.1)) (xa X) (xs X) 32 192 (zA E)) 471 (pC E (pC E h0 x c) y d) [(0, .ref x), (1, .ref y), (3, .int x3), (6, .int x6), (7, .int x7), (9, .int x9), (11, .int x11), (16, .int x16)] [] := by
  obtain ⟨hk1, hk2⟩ := hk
  unfold f_L_lays_b471 at hf
  refine z_iload C dL_lays_471 7 rfl ?_
  refine z_if_eq C 564 dL_lays_473 (by decide) (fun c473 => ?_) (fun c473 => ?_)
  · replace hf := ip c473 hf
    refine z_iconst C (0 : Int32) dL_lays_564 (by decide) ?_
    obtain rfl := Option.some.inj hf
    exact z_zretK (R := (0 : Int32)) C (by decide) (by omega) (by omega) dL_lays_565 rfl
  · replace hf := iN c473 hf
    refine z_aload_n C dL_lays_476 0 rfl ?_
    refine z_bipush C (10 : Int32) dL_lays_477 (by decide) ?_
    refine z_iconst C (0 : Int32) dL_lays_479 (by decide) ?_
    refine z_iconst C (0 : Int32) dL_lays_480 (by decide) ?_
    refine z_iconst C (0 : Int32) dL_lays_481 (by decide) ?_
    obtain ⟨q482, hq482, hf⟩ := bd_some hf
    refine z_heap (pC_sw hap) ?_
    refine z_callK (K := 1) C 485 [.ref x, .int (10 : Int32), .int (0 : Int32), .int (0 : Int32), .int (0 : Int32)] [] (ct_L_call hst hq482) co_L_call ml_L_139 st_L_call ini_L ⟨by decide +kernel, by decide +kernel, by show _ = some 5; decide +kernel⟩ (by decide) (by decide) rfl (Nat.le_of_ble_eq_true rfl) ⟨by omega, by omega⟩ rfl dL_lays_482 ?_
    refine z_heap (pC_sw hap.symm) ?_
    obtain ⟨q485, hq485, hf⟩ := bd_some hf
    refine z_callS C 488 [.int q482.2] [] (ct_L_thrown hq485) co_L_thrown ml_L_195 st_L_thrown ini_L ⟨by decide +kernel, by decide +kernel, by show _ = some 1; decide +kernel⟩ (by decide) (by decide) rfl (Nat.le_of_ble_eq_true rfl) ⟨by omega, by omega⟩ rfl dL_lays_485 ?_
    refine z_if_ne C 564 dL_lays_488 (by decide) (fun c488 => ?_) (fun c488 => ?_)
    · replace hf := iN c488 hf
      refine z_iconst C (0 : Int32) dL_lays_564 (by decide) ?_
      obtain rfl := Option.some.inj hf
      exact z_zretK (R := (0 : Int32)) C (by decide) (by omega) (by omega) dL_lays_565 rfl
    · replace hf := ip c488 hf
      refine z_aload_n C dL_lays_491 1 rfl ?_
      refine z_bipush C (10 : Int32) dL_lays_492 (by decide) ?_
      refine z_iconst C (0 : Int32) dL_lays_494 (by decide) ?_
      refine z_iconst C (0 : Int32) dL_lays_495 (by decide) ?_
      refine z_iconst C (0 : Int32) dL_lays_496 (by decide) ?_
      obtain ⟨q497, hq497, hf⟩ := bd_some hf
      refine z_callK (K := 1) C 500 [.ref y, .int (10 : Int32), .int (0 : Int32), .int (0 : Int32), .int (0 : Int32)] [] (ct_L_call hst hq497) co_L_call ml_L_139 st_L_call ini_L ⟨by decide +kernel, by decide +kernel, by show _ = some 5; decide +kernel⟩ (by decide) (by decide) rfl (Nat.le_of_ble_eq_true rfl) ⟨by omega, by omega⟩ rfl dL_lays_497 ?_
      obtain ⟨q500, hq500, hf⟩ := bd_some hf
      refine z_callS C 503 [.int q497.2] [] (ct_L_thrown hq500) co_L_thrown ml_L_195 st_L_thrown ini_L ⟨by decide +kernel, by decide +kernel, by show _ = some 1; decide +kernel⟩ (by decide) (by decide) rfl (Nat.le_of_ble_eq_true rfl) ⟨by omega, by omega⟩ rfl dL_lays_500 ?_
      refine z_if_ne C 564 dL_lays_503 (by decide) (fun c503 => ?_) (fun c503 => ?_)
      · replace hf := iN c503 hf
        refine z_iconst C (0 : Int32) dL_lays_564 (by decide) ?_
        obtain rfl := Option.some.inj hf
        exact z_zretK (R := (0 : Int32)) C (by decide) (by omega) (by omega) dL_lays_565 rfl
      · replace hf := ip c503 hf
        refine z_aload_n C dL_lays_506 0 rfl ?_
        refine z_iconst C (2 : Int32) dL_lays_507 (by decide) ?_
        refine z_iconst C (5 : Int32) dL_lays_508 (by decide) ?_
        refine z_iconst C (0 : Int32) dL_lays_509 (by decide) ?_
        refine z_iconst C (0 : Int32) dL_lays_510 (by decide) ?_
        obtain ⟨q511, hq511, hf⟩ := bd_some hf
        refine z_heap (pC_sw hap) ?_
        refine z_callK (K := 1) C 514 [.ref x, .int (2 : Int32), .int (5 : Int32), .int (0 : Int32), .int (0 : Int32)] [] (ct_L_call hst hq511) co_L_call ml_L_139 st_L_call ini_L ⟨by decide +kernel, by decide +kernel, by show _ = some 5; decide +kernel⟩ (by decide) (by decide) rfl (Nat.le_of_ble_eq_true rfl) ⟨by omega, by omega⟩ rfl dL_lays_511 ?_
        refine z_heap (pC_sw hap.symm) ?_
        refine z_iload C dL_lays_514 5 rfl ?_
        refine z_icmp_ne C 564 dL_lays_516 (by decide) (fun c516 => ?_) (fun c516 => ?_)
        · replace hf := iN c516 hf
          refine z_iconst C (0 : Int32) dL_lays_564 (by decide) ?_
          obtain rfl := Option.some.inj hf
          exact z_zretK (R := (0 : Int32)) C (by decide) (by omega) (by omega) dL_lays_565 rfl
        · replace hf := ip c516 hf
          refine z_aload_n C dL_lays_519 0 rfl ?_
          refine z_iconst C (2 : Int32) dL_lays_520 (by decide) ?_
          refine z_iconst C (3 : Int32) dL_lays_521 (by decide) ?_
          refine z_iconst C (0 : Int32) dL_lays_522 (by decide) ?_
          refine z_iconst C (0 : Int32) dL_lays_523 (by decide) ?_
          obtain ⟨q524, hq524, hf⟩ := bd_some hf
          refine z_heap (pC_sw hap) ?_
          refine z_callK (K := 1) C 527 [.ref x, .int (2 : Int32), .int (3 : Int32), .int (0 : Int32), .int (0 : Int32)] [] (ct_L_call hst hq524) co_L_call ml_L_139 st_L_call ini_L ⟨by decide +kernel, by decide +kernel, by show _ = some 5; decide +kernel⟩ (by decide) (by decide) rfl (Nat.le_of_ble_eq_true rfl) ⟨by omega, by omega⟩ rfl dL_lays_524 ?_
          refine z_heap (pC_sw hap.symm) ?_
          refine z_iload C dL_lays_527 4 rfl ?_
          refine z_icmp_ne C 564 dL_lays_529 (by decide) (fun c529 => ?_) (fun c529 => ?_)
          · replace hf := iN c529 hf
            refine z_iconst C (0 : Int32) dL_lays_564 (by decide) ?_
            obtain rfl := Option.some.inj hf
            exact z_zretK (R := (0 : Int32)) C (by decide) (by omega) (by omega) dL_lays_565 rfl
          · replace hf := ip c529 hf
            refine z_aload_n C dL_lays_532 0 rfl ?_
            refine z_iconst C (5 : Int32) dL_lays_533 (by decide) ?_
            refine z_iload C dL_lays_534 4 rfl ?_
            refine z_iconst C (0 : Int32) dL_lays_536 (by decide) ?_
            refine z_iconst C (0 : Int32) dL_lays_537 (by decide) ?_
            obtain ⟨q538, hq538, hf⟩ := bd_some hf
            refine z_heap (pC_sw hap) ?_
            refine z_callK (K := 1) C 541 [.ref x, .int (5 : Int32), .int x7, .int (0 : Int32), .int (0 : Int32)] [] (ct_L_call hst hq538) co_L_call ml_L_139 st_L_call ini_L ⟨by decide +kernel, by decide +kernel, by show _ = some 5; decide +kernel⟩ (by decide) (by decide) rfl (Nat.le_of_ble_eq_true rfl) ⟨by omega, by omega⟩ rfl dL_lays_538 ?_
            refine z_heap (pC_sw hap.symm) ?_
            refine z_iload C dL_lays_541 6 rfl ?_
            refine z_icmp_ne C 564 dL_lays_543 (by decide) (fun c543 => ?_) (fun c543 => ?_)
            · replace hf := iN c543 hf
              refine z_iconst C (0 : Int32) dL_lays_564 (by decide) ?_
              obtain rfl := Option.some.inj hf
              exact z_zretK (R := (0 : Int32)) C (by decide) (by omega) (by omega) dL_lays_565 rfl
            · replace hf := ip c543 hf
              refine z_aload_n C dL_lays_546 0 rfl ?_
              refine z_bipush C (11 : Int32) dL_lays_547 (by decide) ?_
              refine z_iload_n C dL_lays_549 2 rfl ?_
              refine z_iconst C (0 : Int32) dL_lays_550 (by decide) ?_
              refine z_iconst C (0 : Int32) dL_lays_551 (by decide) ?_
              obtain ⟨q552, hq552, hf⟩ := bd_some hf
              refine z_heap (pC_sw hap) ?_
              refine z_callK (K := 1) C 555 [.ref x, .int (11 : Int32), .int x3, .int (0 : Int32), .int (0 : Int32)] [] (ct_L_call hst hq552) co_L_call ml_L_139 st_L_call ini_L ⟨by decide +kernel, by decide +kernel, by show _ = some 5; decide +kernel⟩ (by decide) (by decide) rfl (Nat.le_of_ble_eq_true rfl) ⟨by omega, by omega⟩ rfl dL_lays_552 ?_
              refine z_heap (pC_sw hap.symm) ?_
              refine z_iload C dL_lays_555 3 rfl ?_
              refine z_icmp_ne C 564 dL_lays_557 (by decide) (fun c557 => ?_) (fun c557 => ?_)
              · replace hf := iN c557 hf
                refine z_iconst C (0 : Int32) dL_lays_564 (by decide) ?_
                obtain rfl := Option.some.inj hf
                exact z_zretK (R := (0 : Int32)) C (by decide) (by omega) (by omega) dL_lays_565 rfl
              · replace hf := ip c557 hf
                refine z_iconst C (1 : Int32) dL_lays_560 (by decide) ?_
                refine z_goto C 565 dL_lays_561 (by decide) ?_
                obtain rfl := Option.some.inj hf
                exact z_zretK (R := (1 : Int32)) C (by decide) (by omega) (by omega) dL_lays_565 rfl
def f_L_lays_b469 (n : Nat) (x2 : Int32)   (c : CS) (d : CS) (x3 : Int32) (x6 : Int32) (x7 : Int32) (x9 : Int32) (x11 : Int32) (s0 : Int32) : Option (CS × CS × Int32) :=
  f_L_lays_b471 n x2 c d x3 x6 x7 x9 x11 s0
set_option maxRecDepth 100000 in
set_option maxHeartbeats 4000000 in
theorem w_L_lays_b469 {E : zE} {X : zX} {h0 : Hp} {x y : Nat} {n : Nat} {x2 : Int32}  (C : zC E X RL cL_lays 19 (some .boolean) 17) (hap : x + 223 ≤ y ∨ y + 223 ≤ x) (hst : (xl X).stackTraces = false) (hR1 : 32 ≤ (xR X).cells) (hR2 : 192 ≤ (xR X).slots)  {c : CS} {d : CS} {x3 : Int32} {x6 : Int32} {x7 : Int32} {x9 : Int32} {x11 : Int32} {s0 : Int32} {r : (CS × CS × Int32)} {k n9 : Nat} (hk : (k + 6 ≤ 32 ∧ n9 + 36 ≤ 192)) (hf : f_L_lays_b469 n x2 c d x3 x6 x7 x9 x11 s0 = some r) : zW E X 19 k n9 (MQ (xb X) (zQ E (some (.int r.2.2)) (pC E (pC E h0 x r.1) y r.2.1)) (xa X) (xs X) 32 192 (zA E)) 469 (pC E (pC E h0 x c) y d) [(0, .ref x), (1, .ref y), (3, .int x3), (6, .int x6), (7, .int x7), (9, .int x9), (11, .int x11)] [.int s0] := by
  obtain ⟨hk1, hk2⟩ := hk
  unfold f_L_lays_b469 at hf
  refine z_istore (lv' := [(16, .int s0), (0, .ref x), (1, .ref y), (3, .int x3), (6, .int x6), (7, .int x7), (9, .int x9), (11, .int x11)]) C dL_lays_469 (by decide) rfl ?_
  exact z_sub [1, 2, 3, 4, 5, 6, 7, 0] rfl (w_L_lays_b471 C hap hst hR1 hR2 ⟨by omega, by omega⟩ hf)
def f_L_lays_b468 (n : Nat) (x2 : Int32)   (c : CS) (d : CS) (x3 : Int32) (x6 : Int32) (x7 : Int32) (x9 : Int32) (x11 : Int32) : Option (CS × CS × Int32) :=
  f_L_lays_b469 n x2 c d x3 x6 x7 x9 x11 (0 : Int32)
set_option maxRecDepth 100000 in
set_option maxHeartbeats 4000000 in
theorem w_L_lays_b468 {E : zE} {X : zX} {h0 : Hp} {x y : Nat} {n : Nat} {x2 : Int32}  (C : zC E X RL cL_lays 19 (some .boolean) 17) (hap : x + 223 ≤ y ∨ y + 223 ≤ x) (hst : (xl X).stackTraces = false) (hR1 : 32 ≤ (xR X).cells) (hR2 : 192 ≤ (xR X).slots)  {c : CS} {d : CS} {x3 : Int32} {x6 : Int32} {x7 : Int32} {x9 : Int32} {x11 : Int32} {r : (CS × CS × Int32)} {k n9 : Nat} (hk : (k + 6 ≤ 32 ∧ n9 + 36 ≤ 192)) (hf : f_L_lays_b468 n x2 c d x3 x6 x7 x9 x11 = some r) : zW E X 19 k n9 (MQ (xb X) (zQ E (some (.int r.2.2)) (pC E (pC E h0 x r.1) y r.2.1)) (xa X) (xs X) 32 192 (zA E)) 468 (pC E (pC E h0 x c) y d) [(0, .ref x), (1, .ref y), (3, .int x3), (6, .int x6), (7, .int x7), (9, .int x9), (11, .int x11)] [] := by
  obtain ⟨hk1, hk2⟩ := hk
  unfold f_L_lays_b468 at hf
  refine z_iconst C (0 : Int32) dL_lays_468 (by decide) ?_
  exact z_sub [0, 1, 2, 3, 4, 5, 6] rfl (w_L_lays_b469 C hap hst hR1 hR2 ⟨by omega, by omega⟩ hf)
def f_L_lays_b464 (n : Nat) (x2 : Int32)   (c : CS) (d : CS) (x3 : Int32) (x6 : Int32) (x7 : Int32) (x9 : Int32) (x11 : Int32) : Option (CS × CS × Int32) :=
  f_L_lays_b469 n x2 c d x3 x6 x7 x9 x11 (1 : Int32)
set_option maxRecDepth 100000 in
set_option maxHeartbeats 4000000 in
theorem w_L_lays_b464 {E : zE} {X : zX} {h0 : Hp} {x y : Nat} {n : Nat} {x2 : Int32}  (C : zC E X RL cL_lays 19 (some .boolean) 17) (hap : x + 223 ≤ y ∨ y + 223 ≤ x) (hst : (xl X).stackTraces = false) (hR1 : 32 ≤ (xR X).cells) (hR2 : 192 ≤ (xR X).slots)  {c : CS} {d : CS} {x3 : Int32} {x6 : Int32} {x7 : Int32} {x9 : Int32} {x11 : Int32} {r : (CS × CS × Int32)} {k n9 : Nat} (hk : (k + 6 ≤ 32 ∧ n9 + 36 ≤ 192)) (hf : f_L_lays_b464 n x2 c d x3 x6 x7 x9 x11 = some r) : zW E X 19 k n9 (MQ (xb X) (zQ E (some (.int r.2.2)) (pC E (pC E h0 x r.1) y r.2.1)) (xa X) (xs X) 32 192 (zA E)) 464 (pC E (pC E h0 x c) y d) [(0, .ref x), (1, .ref y), (3, .int x3), (6, .int x6), (7, .int x7), (9, .int x9), (11, .int x11)] [] := by
  obtain ⟨hk1, hk2⟩ := hk
  unfold f_L_lays_b464 at hf
  refine z_iconst C (1 : Int32) dL_lays_464 (by decide) ?_
  refine z_goto C 469 dL_lays_465 (by decide) ?_
  exact z_sub [0, 1, 2, 3, 4, 5, 6] rfl (w_L_lays_b469 C hap hst hR1 hR2 ⟨by omega, by omega⟩ hf)
def f_L_lays_b431 (n : Nat) (x2 : Int32)   (c : CS) (d : CS) (x3 : Int32) (x6 : Int32) (x7 : Int32) (x9 : Int32) (x11 : Int32) (x18 : Int32) (s0 : Int32) (s1 : Int32) (s2 : Int32) : Option (CS × CS × Int32) :=
  if s2 = (s1 + s0) then (if x18 = 0 then ((f_L_call n c (2 : Int32) (3 : Int32) (0 : Int32) (0 : Int32)).bind (fun q445 => (f_L_call n q445.1 (2 : Int32) (2 : Int32) (0 : Int32) (0 : Int32)).bind (fun q457 => chk (¬ q457.2 = 0) (if q445.2 = (jrem (x7 + (1 : Int32)) q457.2) then (f_L_lays_b464 n x2 q457.1 d x3 x6 x7 x9 x11) else (f_L_lays_b468 n x2 q457.1 d x3 x6 x7 x9 x11))))) else (f_L_lays_b464 n x2 c d x3 x6 x7 x9 x11)) else (f_L_lays_b468 n x2 c d x3 x6 x7 x9 x11)
set_option maxRecDepth 100000 in
set_option maxHeartbeats 4000000 in
theorem w_L_lays_b431 {E : zE} {X : zX} {h0 : Hp} {x y : Nat} {n : Nat} {x2 : Int32}  (C : zC E X RL cL_lays 19 (some .boolean) 17) (hap : x + 223 ≤ y ∨ y + 223 ≤ x) (hst : (xl X).stackTraces = false) (hR1 : 32 ≤ (xR X).cells) (hR2 : 192 ≤ (xR X).slots)  {c : CS} {d : CS} {x3 : Int32} {x6 : Int32} {x7 : Int32} {x9 : Int32} {x11 : Int32} {x18 : Int32} {s0 : Int32} {s1 : Int32} {s2 : Int32} {r : (CS × CS × Int32)} {k n9 : Nat} (hk : (k + 8 ≤ 32 ∧ n9 + 48 ≤ 192)) (hf : f_L_lays_b431 n x2 c d x3 x6 x7 x9 x11 x18 s0 s1 s2 = some r) : zW E X 19 k n9 (MQ (xb X) (zQ E (some (.int r.2.2)) (pC E (pC E h0 x r.1) y r.2.1)) (xa X) (xs X) 32 192 (zA E)) 431 (pC E (pC E h0 x c) y d) [(0, .ref x), (1, .ref y), (3, .int x3), (6, .int x6), (7, .int x7), (9, .int x9), (11, .int x11), (18, .int x18)] [.int s0, .int s1, .int s2] := by
  obtain ⟨hk1, hk2⟩ := hk
  unfold f_L_lays_b431 at hf
  refine z_iadd C dL_lays_431 ?_
  refine z_icmp_ne C 468 dL_lays_432 (by decide) (fun c432 => ?_) (fun c432 => ?_)
  · replace hf := iN c432 hf
    exact z_sub [0, 1, 2, 3, 4, 5, 6] rfl (w_L_lays_b468 C hap hst hR1 hR2 ⟨by omega, by omega⟩ hf)
  · replace hf := ip c432 hf
    refine z_iload C dL_lays_435 7 rfl ?_
    refine z_if_ne C 464 dL_lays_437 (by decide) (fun c437 => ?_) (fun c437 => ?_)
    · replace hf := iN c437 hf
      exact z_sub [0, 1, 2, 3, 4, 5, 6] rfl (w_L_lays_b464 C hap hst hR1 hR2 ⟨by omega, by omega⟩ hf)
    · replace hf := ip c437 hf
      refine z_aload_n C dL_lays_440 0 rfl ?_
      refine z_iconst C (2 : Int32) dL_lays_441 (by decide) ?_
      refine z_iconst C (3 : Int32) dL_lays_442 (by decide) ?_
      refine z_iconst C (0 : Int32) dL_lays_443 (by decide) ?_
      refine z_iconst C (0 : Int32) dL_lays_444 (by decide) ?_
      obtain ⟨q445, hq445, hf⟩ := bd_some hf
      refine z_heap (pC_sw hap) ?_
      refine z_callK (K := 1) C 448 [.ref x, .int (2 : Int32), .int (3 : Int32), .int (0 : Int32), .int (0 : Int32)] [] (ct_L_call hst hq445) co_L_call ml_L_139 st_L_call ini_L ⟨by decide +kernel, by decide +kernel, by show _ = some 5; decide +kernel⟩ (by decide) (by decide) rfl (Nat.le_of_ble_eq_true rfl) ⟨by omega, by omega⟩ rfl dL_lays_445 ?_
      refine z_heap (pC_sw hap.symm) ?_
      refine z_iload C dL_lays_448 4 rfl ?_
      refine z_iconst C (1 : Int32) dL_lays_450 (by decide) ?_
      refine z_iadd C dL_lays_451 ?_
      refine z_aload_n C dL_lays_452 0 rfl ?_
      refine z_iconst C (2 : Int32) dL_lays_453 (by decide) ?_
      refine z_iconst C (2 : Int32) dL_lays_454 (by decide) ?_
      refine z_iconst C (0 : Int32) dL_lays_455 (by decide) ?_
      refine z_iconst C (0 : Int32) dL_lays_456 (by decide) ?_
      obtain ⟨q457, hq457, hf⟩ := bd_some hf
      refine z_heap (pC_sw hap) ?_
      refine z_callK (K := 1) C 460 [.ref x, .int (2 : Int32), .int (2 : Int32), .int (0 : Int32), .int (0 : Int32)] [.int (x7 + (1 : Int32)), .int q445.2] (ct_L_call hst hq457) co_L_call ml_L_139 st_L_call ini_L ⟨by decide +kernel, by decide +kernel, by show _ = some 5; decide +kernel⟩ (by decide) (by decide) rfl (Nat.le_of_ble_eq_true rfl) ⟨by omega, by omega⟩ rfl dL_lays_457 ?_
      refine z_heap (pC_sw hap.symm) ?_
      obtain ⟨c460, hf⟩ := chk_some hf
      refine z_irem C dL_lays_460 c460 ?_
      refine z_icmp_ne C 468 dL_lays_461 (by decide) (fun c461 => ?_) (fun c461 => ?_)
      · replace hf := iN c461 hf
        exact z_sub [0, 1, 2, 3, 4, 5, 6] rfl (w_L_lays_b468 C hap hst hR1 hR2 ⟨by omega, by omega⟩ hf)
      · replace hf := ip c461 hf
        exact z_sub [0, 1, 2, 3, 4, 5, 6] rfl (w_L_lays_b464 C hap hst hR1 hR2 ⟨by omega, by omega⟩ hf)
def f_L_lays_b398 (n : Nat) (x2 : Int32)   (c : CS) (d : CS) (x3 : Int32) (x6 : Int32) (x7 : Int32) (x9 : Int32) (x11 : Int32) (x12 : Int32) (x13 : Int32) (x14 : Int32) (x15 : Int32) (x18 : Int32) (s0 : Int32) : Option (CS × CS × Int32) :=
  if s0 = x18 then ((f_L_call n c (5 : Int32) x7 (2 : Int32) (0 : Int32)).bind (fun q409 => if x18 = 0 then (f_L_lays_b431 n x2 q409.1 d x3 x6 x7 x9 x11 x18 (0 : Int32) x12 q409.2) else (f_L_lays_b431 n x2 q409.1 d x3 x6 x7 x9 x11 x18 ((x13 - x14) - x15) x12 q409.2))) else (f_L_lays_b468 n x2 c d x3 x6 x7 x9 x11)
set_option maxRecDepth 100000 in
set_option maxHeartbeats 4000000 in
theorem w_L_lays_b398 {E : zE} {X : zX} {h0 : Hp} {x y : Nat} {n : Nat} {x2 : Int32}  (C : zC E X RL cL_lays 19 (some .boolean) 17) (hap : x + 223 ≤ y ∨ y + 223 ≤ x) (hst : (xl X).stackTraces = false) (hR1 : 32 ≤ (xR X).cells) (hR2 : 192 ≤ (xR X).slots)  {c : CS} {d : CS} {x3 : Int32} {x6 : Int32} {x7 : Int32} {x9 : Int32} {x11 : Int32} {x12 : Int32} {x13 : Int32} {x14 : Int32} {x15 : Int32} {x18 : Int32} {s0 : Int32} {r : (CS × CS × Int32)} {k n9 : Nat} (hk : (k + 9 ≤ 32 ∧ n9 + 54 ≤ 192)) (hf : f_L_lays_b398 n x2 c d x3 x6 x7 x9 x11 x12 x13 x14 x15 x18 s0 = some r) : zW E X 19 k n9 (MQ (xb X) (zQ E (some (.int r.2.2)) (pC E (pC E h0 x r.1) y r.2.1)) (xa X) (xs X) 32 192 (zA E)) 398 (pC E (pC E h0 x c) y d) [(0, .ref x), (1, .ref y), (3, .int x3), (6, .int x6), (7, .int x7), (9, .int x9), (11, .int x11), (12, .int x12), (13, .int x13), (14, .int x14), (15, .int x15), (18, .int x18)] [.int s0] := by
  obtain ⟨hk1, hk2⟩ := hk
  unfold f_L_lays_b398 at hf
  refine z_iload C dL_lays_398 11 rfl ?_
  refine z_icmp_ne C 468 dL_lays_400 (by decide) (fun c400 => ?_) (fun c400 => ?_)
  · replace hf := iN c400 hf
    exact z_sub [0, 1, 2, 3, 4, 5, 6] rfl (w_L_lays_b468 C hap hst hR1 hR2 ⟨by omega, by omega⟩ hf)
  · replace hf := ip c400 hf
    refine z_aload_n C dL_lays_403 0 rfl ?_
    refine z_iconst C (5 : Int32) dL_lays_404 (by decide) ?_
    refine z_iload C dL_lays_405 4 rfl ?_
    refine z_iconst C (2 : Int32) dL_lays_407 (by decide) ?_
    refine z_iconst C (0 : Int32) dL_lays_408 (by decide) ?_
    obtain ⟨q409, hq409, hf⟩ := bd_some hf
    refine z_heap (pC_sw hap) ?_
    refine z_callK (K := 1) C 412 [.ref x, .int (5 : Int32), .int x7, .int (2 : Int32), .int (0 : Int32)] [] (ct_L_call hst hq409) co_L_call ml_L_139 st_L_call ini_L ⟨by decide +kernel, by decide +kernel, by show _ = some 5; decide +kernel⟩ (by decide) (by decide) rfl (Nat.le_of_ble_eq_true rfl) ⟨by omega, by omega⟩ rfl dL_lays_409 ?_
    refine z_heap (pC_sw hap.symm) ?_
    refine z_iload C dL_lays_412 7 rfl ?_
    refine z_iload C dL_lays_414 11 rfl ?_
    refine z_if_eq C 430 dL_lays_416 (by decide) (fun c416 => ?_) (fun c416 => ?_)
    · replace hf := ip c416 hf
      refine z_iconst C (0 : Int32) dL_lays_430 (by decide) ?_
      exact z_sub [0, 1, 2, 3, 4, 5, 6, 11] rfl (w_L_lays_b431 C hap hst hR1 hR2 ⟨by omega, by omega⟩ hf)
    · replace hf := iN c416 hf
      refine z_iload C dL_lays_419 8 rfl ?_
      refine z_iload C dL_lays_421 9 rfl ?_
      refine z_isub C dL_lays_423 ?_
      refine z_iload C dL_lays_424 10 rfl ?_
      refine z_isub C dL_lays_426 ?_
      refine z_goto C 431 dL_lays_427 (by decide) ?_
      exact z_sub [0, 1, 2, 3, 4, 5, 6, 11] rfl (w_L_lays_b431 C hap hst hR1 hR2 ⟨by omega, by omega⟩ hf)
def f_L_lays_b317 (n : Nat) (x2 : Int32)   (c : CS) (d : CS) (x3 : Int32) (x6 : Int32) (x7 : Int32) (x8 : Int32) (x9 : Int32) (x11 : Int32) (x12 : Int32) (x13 : Int32) (x14 : Int32) (x15 : Int32) (x16 : Int32) (x17 : Int32) (s0 : Int32) : Option (CS × CS × Int32) :=
  if x16 = 0 then (f_L_lays_b468 n x2 c d x3 x6 x7 x9 x11) else ((f_L_call n c (4 : Int32) x9 (0 : Int32) (0 : Int32)).bind (fun q330 => if q330.2 = x3 then ((f_L_call n q330.1 (4 : Int32) x9 (3 : Int32) (0 : Int32)).bind (fun q343 => if q343.2 = x8 then ((f_L_call n q343.1 (2 : Int32) (7 : Int32) (0 : Int32) (0 : Int32)).bind (fun q357 => if q357.2 = x17 then ((f_L_call n q357.1 (5 : Int32) x7 (0 : Int32) (0 : Int32)).bind (fun q371 => if q371.2 = (x11 - (1 : Int32)) then ((f_L_call n q371.1 (2 : Int32) (1 : Int32) (0 : Int32) (0 : Int32)).bind (fun q386 => if q386.2 = (2 : Int32) then (f_L_lays_b398 n x2 q386.1 d x3 x6 x7 x9 x11 x12 x13 x14 x15 s0 (1 : Int32)) else (f_L_lays_b398 n x2 q386.1 d x3 x6 x7 x9 x11 x12 x13 x14 x15 s0 (0 : Int32)))) else (f_L_lays_b468 n x2 q371.1 d x3 x6 x7 x9 x11))) else (f_L_lays_b468 n x2 q357.1 d x3 x6 x7 x9 x11))) else (f_L_lays_b468 n x2 q343.1 d x3 x6 x7 x9 x11))) else (f_L_lays_b468 n x2 q330.1 d x3 x6 x7 x9 x11)))
set_option maxRecDepth 100000 in
set_option maxHeartbeats 4000000 in
theorem w_L_lays_b317 {E : zE} {X : zX} {h0 : Hp} {x y : Nat} {n : Nat} {x2 : Int32}  (C : zC E X RL cL_lays 19 (some .boolean) 17) (hap : x + 223 ≤ y ∨ y + 223 ≤ x) (hst : (xl X).stackTraces = false) (hR1 : 32 ≤ (xR X).cells) (hR2 : 192 ≤ (xR X).slots)  {c : CS} {d : CS} {x3 : Int32} {x6 : Int32} {x7 : Int32} {x8 : Int32} {x9 : Int32} {x11 : Int32} {x12 : Int32} {x13 : Int32} {x14 : Int32} {x15 : Int32} {x16 : Int32} {x17 : Int32} {s0 : Int32} {r : (CS × CS × Int32)} {k n9 : Nat} (hk : (k + 14 ≤ 32 ∧ n9 + 84 ≤ 192)) (hf : f_L_lays_b317 n x2 c d x3 x6 x7 x8 x9 x11 x12 x13 x14 x15 x16 x17 s0 = some r) : zW E X 19 k n9 (MQ (xb X) (zQ E (some (.int r.2.2)) (pC E (pC E h0 x r.1) y r.2.1)) (xa X) (xs X) 32 192 (zA E)) 317 (pC E (pC E h0 x c) y d) [(0, .ref x), (1, .ref y), (3, .int x3), (6, .int x6), (7, .int x7), (8, .int x8), (9, .int x9), (11, .int x11), (12, .int x12), (13, .int x13), (14, .int x14), (15, .int x15), (16, .int x16), (17, .int x17)] [.int s0] := by
  obtain ⟨hk1, hk2⟩ := hk
  unfold f_L_lays_b317 at hf
  refine z_istore (lv' := [(18, .int s0), (0, .ref x), (1, .ref y), (3, .int x3), (6, .int x6), (7, .int x7), (8, .int x8), (9, .int x9), (11, .int x11), (12, .int x12), (13, .int x13), (14, .int x14), (15, .int x15), (16, .int x16), (17, .int x17)]) C dL_lays_317 (by decide) rfl ?_
  refine z_iload C dL_lays_319 13 rfl ?_
  refine z_if_eq C 468 dL_lays_321 (by decide) (fun c321 => ?_) (fun c321 => ?_)
  · replace hf := ip c321 hf
    exact z_sub [1, 2, 3, 4, 5, 7, 8] rfl (w_L_lays_b468 C hap hst hR1 hR2 ⟨by omega, by omega⟩ hf)
  · replace hf := iN c321 hf
    refine z_aload_n C dL_lays_324 1 rfl ?_
    refine z_iconst C (4 : Int32) dL_lays_325 (by decide) ?_
    refine z_iload C dL_lays_326 7 rfl ?_
    refine z_iconst C (0 : Int32) dL_lays_328 (by decide) ?_
    refine z_iconst C (0 : Int32) dL_lays_329 (by decide) ?_
    obtain ⟨q330, hq330, hf⟩ := bd_some hf
    refine z_heap (pC_sw hap) ?_
    refine z_callK (K := 1) C 333 [.ref x, .int (4 : Int32), .int x9, .int (0 : Int32), .int (0 : Int32)] [] (ct_L_call hst hq330) co_L_call ml_L_139 st_L_call ini_L ⟨by decide +kernel, by decide +kernel, by show _ = some 5; decide +kernel⟩ (by decide) (by decide) rfl (Nat.le_of_ble_eq_true rfl) ⟨by omega, by omega⟩ rfl dL_lays_330 ?_
    refine z_heap (pC_sw hap.symm) ?_
    refine z_iload_n C dL_lays_333 3 rfl ?_
    refine z_icmp_ne C 468 dL_lays_334 (by decide) (fun c334 => ?_) (fun c334 => ?_)
    · replace hf := iN c334 hf
      exact z_sub [1, 2, 3, 4, 5, 7, 8] rfl (w_L_lays_b468 C hap hst hR1 hR2 ⟨by omega, by omega⟩ hf)
    · replace hf := ip c334 hf
      refine z_aload_n C dL_lays_337 1 rfl ?_
      refine z_iconst C (4 : Int32) dL_lays_338 (by decide) ?_
      refine z_iload C dL_lays_339 7 rfl ?_
      refine z_iconst C (3 : Int32) dL_lays_341 (by decide) ?_
      refine z_iconst C (0 : Int32) dL_lays_342 (by decide) ?_
      obtain ⟨q343, hq343, hf⟩ := bd_some hf
      refine z_heap (pC_sw hap) ?_
      refine z_callK (K := 1) C 346 [.ref x, .int (4 : Int32), .int x9, .int (3 : Int32), .int (0 : Int32)] [] (ct_L_call hst hq343) co_L_call ml_L_139 st_L_call ini_L ⟨by decide +kernel, by decide +kernel, by show _ = some 5; decide +kernel⟩ (by decide) (by decide) rfl (Nat.le_of_ble_eq_true rfl) ⟨by omega, by omega⟩ rfl dL_lays_343 ?_
      refine z_heap (pC_sw hap.symm) ?_
      refine z_iload C dL_lays_346 6 rfl ?_
      refine z_icmp_ne C 468 dL_lays_348 (by decide) (fun c348 => ?_) (fun c348 => ?_)
      · replace hf := iN c348 hf
        exact z_sub [1, 2, 3, 4, 5, 7, 8] rfl (w_L_lays_b468 C hap hst hR1 hR2 ⟨by omega, by omega⟩ hf)
      · replace hf := ip c348 hf
        refine z_aload_n C dL_lays_351 1 rfl ?_
        refine z_iconst C (2 : Int32) dL_lays_352 (by decide) ?_
        refine z_bipush C (7 : Int32) dL_lays_353 (by decide) ?_
        refine z_iconst C (0 : Int32) dL_lays_355 (by decide) ?_
        refine z_iconst C (0 : Int32) dL_lays_356 (by decide) ?_
        obtain ⟨q357, hq357, hf⟩ := bd_some hf
        refine z_heap (pC_sw hap) ?_
        refine z_callK (K := 1) C 360 [.ref x, .int (2 : Int32), .int (7 : Int32), .int (0 : Int32), .int (0 : Int32)] [] (ct_L_call hst hq357) co_L_call ml_L_139 st_L_call ini_L ⟨by decide +kernel, by decide +kernel, by show _ = some 5; decide +kernel⟩ (by decide) (by decide) rfl (Nat.le_of_ble_eq_true rfl) ⟨by omega, by omega⟩ rfl dL_lays_357 ?_
        refine z_heap (pC_sw hap.symm) ?_
        refine z_iload C dL_lays_360 14 rfl ?_
        refine z_icmp_ne C 468 dL_lays_362 (by decide) (fun c362 => ?_) (fun c362 => ?_)
        · replace hf := iN c362 hf
          exact z_sub [1, 2, 3, 4, 5, 7, 8] rfl (w_L_lays_b468 C hap hst hR1 hR2 ⟨by omega, by omega⟩ hf)
        · replace hf := ip c362 hf
          refine z_aload_n C dL_lays_365 1 rfl ?_
          refine z_iconst C (5 : Int32) dL_lays_366 (by decide) ?_
          refine z_iload C dL_lays_367 5 rfl ?_
          refine z_iconst C (0 : Int32) dL_lays_369 (by decide) ?_
          refine z_iconst C (0 : Int32) dL_lays_370 (by decide) ?_
          obtain ⟨q371, hq371, hf⟩ := bd_some hf
          refine z_heap (pC_sw hap) ?_
          refine z_callK (K := 1) C 374 [.ref x, .int (5 : Int32), .int x7, .int (0 : Int32), .int (0 : Int32)] [] (ct_L_call hst hq371) co_L_call ml_L_139 st_L_call ini_L ⟨by decide +kernel, by decide +kernel, by show _ = some 5; decide +kernel⟩ (by decide) (by decide) rfl (Nat.le_of_ble_eq_true rfl) ⟨by omega, by omega⟩ rfl dL_lays_371 ?_
          refine z_heap (pC_sw hap.symm) ?_
          refine z_iload C dL_lays_374 8 rfl ?_
          refine z_iconst C (1 : Int32) dL_lays_376 (by decide) ?_
          refine z_isub C dL_lays_377 ?_
          refine z_icmp_ne C 468 dL_lays_378 (by decide) (fun c378 => ?_) (fun c378 => ?_)
          · replace hf := iN c378 hf
            exact z_sub [1, 2, 3, 4, 5, 7, 8] rfl (w_L_lays_b468 C hap hst hR1 hR2 ⟨by omega, by omega⟩ hf)
          · replace hf := ip c378 hf
            refine z_aload_n C dL_lays_381 1 rfl ?_
            refine z_iconst C (2 : Int32) dL_lays_382 (by decide) ?_
            refine z_iconst C (1 : Int32) dL_lays_383 (by decide) ?_
            refine z_iconst C (0 : Int32) dL_lays_384 (by decide) ?_
            refine z_iconst C (0 : Int32) dL_lays_385 (by decide) ?_
            obtain ⟨q386, hq386, hf⟩ := bd_some hf
            refine z_heap (pC_sw hap) ?_
            refine z_callK (K := 1) C 389 [.ref x, .int (2 : Int32), .int (1 : Int32), .int (0 : Int32), .int (0 : Int32)] [] (ct_L_call hst hq386) co_L_call ml_L_139 st_L_call ini_L ⟨by decide +kernel, by decide +kernel, by show _ = some 5; decide +kernel⟩ (by decide) (by decide) rfl (Nat.le_of_ble_eq_true rfl) ⟨by omega, by omega⟩ rfl dL_lays_386 ?_
            refine z_heap (pC_sw hap.symm) ?_
            refine z_iconst C (2 : Int32) dL_lays_389 (by decide) ?_
            refine z_icmp_ne C 397 dL_lays_390 (by decide) (fun c390 => ?_) (fun c390 => ?_)
            · replace hf := iN c390 hf
              refine z_iconst C (0 : Int32) dL_lays_397 (by decide) ?_
              exact z_sub [1, 2, 3, 4, 5, 7, 8, 9, 10, 11, 12, 0] rfl (w_L_lays_b398 C hap hst hR1 hR2 ⟨by omega, by omega⟩ hf)
            · replace hf := ip c390 hf
              refine z_iconst C (1 : Int32) dL_lays_393 (by decide) ?_
              refine z_goto C 398 dL_lays_394 (by decide) ?_
              exact z_sub [1, 2, 3, 4, 5, 7, 8, 9, 10, 11, 12, 0] rfl (w_L_lays_b398 C hap hst hR1 hR2 ⟨by omega, by omega⟩ hf)
def f_L_lays_b304 (n : Nat) (x2 : Int32)   (c : CS) (d : CS) (x3 : Int32) (x6 : Int32) (x7 : Int32) (x8 : Int32) (x9 : Int32) (x11 : Int32) (x12 : Int32) (x13 : Int32) (x14 : Int32) (x15 : Int32) (x16 : Int32) (s0 : Int32) : Option (CS × CS × Int32) :=
  if x11 = (1 : Int32) then (f_L_lays_b317 n x2 c d x3 x6 x7 x8 x9 x11 x12 x13 x14 x15 x16 s0 (1 : Int32)) else (f_L_lays_b317 n x2 c d x3 x6 x7 x8 x9 x11 x12 x13 x14 x15 x16 s0 (0 : Int32))
set_option maxRecDepth 100000 in
set_option maxHeartbeats 4000000 in
theorem w_L_lays_b304 {E : zE} {X : zX} {h0 : Hp} {x y : Nat} {n : Nat} {x2 : Int32}  (C : zC E X RL cL_lays 19 (some .boolean) 17) (hap : x + 223 ≤ y ∨ y + 223 ≤ x) (hst : (xl X).stackTraces = false) (hR1 : 32 ≤ (xR X).cells) (hR2 : 192 ≤ (xR X).slots)  {c : CS} {d : CS} {x3 : Int32} {x6 : Int32} {x7 : Int32} {x8 : Int32} {x9 : Int32} {x11 : Int32} {x12 : Int32} {x13 : Int32} {x14 : Int32} {x15 : Int32} {x16 : Int32} {s0 : Int32} {r : (CS × CS × Int32)} {k n9 : Nat} (hk : (k + 14 ≤ 32 ∧ n9 + 84 ≤ 192)) (hf : f_L_lays_b304 n x2 c d x3 x6 x7 x8 x9 x11 x12 x13 x14 x15 x16 s0 = some r) : zW E X 19 k n9 (MQ (xb X) (zQ E (some (.int r.2.2)) (pC E (pC E h0 x r.1) y r.2.1)) (xa X) (xs X) 32 192 (zA E)) 304 (pC E (pC E h0 x c) y d) [(0, .ref x), (1, .ref y), (3, .int x3), (6, .int x6), (7, .int x7), (8, .int x8), (9, .int x9), (11, .int x11), (12, .int x12), (13, .int x13), (14, .int x14), (15, .int x15), (16, .int x16)] [.int s0] := by
  obtain ⟨hk1, hk2⟩ := hk
  unfold f_L_lays_b304 at hf
  refine z_istore (lv' := [(17, .int s0), (0, .ref x), (1, .ref y), (3, .int x3), (6, .int x6), (7, .int x7), (8, .int x8), (9, .int x9), (11, .int x11), (12, .int x12), (13, .int x13), (14, .int x14), (15, .int x15), (16, .int x16)]) C dL_lays_304 (by decide) rfl ?_
  refine z_iload C dL_lays_306 8 rfl ?_
  refine z_iconst C (1 : Int32) dL_lays_308 (by decide) ?_
  refine z_icmp_ne C 316 dL_lays_309 (by decide) (fun c309 => ?_) (fun c309 => ?_)
  · replace hf := iN c309 hf
    refine z_iconst C (0 : Int32) dL_lays_316 (by decide) ?_
    exact z_sub [1, 2, 3, 4, 5, 6, 7, 8, 9, 10, 11, 12, 13, 0] rfl (w_L_lays_b317 C hap hst hR1 hR2 ⟨by omega, by omega⟩ hf)
  · replace hf := ip c309 hf
    refine z_iconst C (1 : Int32) dL_lays_312 (by decide) ?_
    refine z_goto C 317 dL_lays_313 (by decide) ?_
    exact z_sub [1, 2, 3, 4, 5, 6, 7, 8, 9, 10, 11, 12, 13, 0] rfl (w_L_lays_b317 C hap hst hR1 hR2 ⟨by omega, by omega⟩ hf)
def f_L_lays_b296 (n : Nat) (x2 : Int32)   (c : CS) (d : CS) (x3 : Int32) (x6 : Int32) (x7 : Int32) (x8 : Int32) (x9 : Int32) (x11 : Int32) (x12 : Int32) (x13 : Int32) (x14 : Int32) (x15 : Int32) (x16 : Int32) (s0 : Int32) (s1 : Int32) : Option (CS × CS × Int32) :=
  chk (¬ (4 : Int32) = 0) (f_L_lays_b304 n x2 c d x3 x6 x7 x8 x9 x11 x12 x13 x14 x15 x16 (jrem (s1 + s0) (4 : Int32)))
set_option maxRecDepth 100000 in
set_option maxHeartbeats 4000000 in
theorem w_L_lays_b296 {E : zE} {X : zX} {h0 : Hp} {x y : Nat} {n : Nat} {x2 : Int32}  (C : zC E X RL cL_lays 19 (some .boolean) 17) (hap : x + 223 ≤ y ∨ y + 223 ≤ x) (hst : (xl X).stackTraces = false) (hR1 : 32 ≤ (xR X).cells) (hR2 : 192 ≤ (xR X).slots)  {c : CS} {d : CS} {x3 : Int32} {x6 : Int32} {x7 : Int32} {x8 : Int32} {x9 : Int32} {x11 : Int32} {x12 : Int32} {x13 : Int32} {x14 : Int32} {x15 : Int32} {x16 : Int32} {s0 : Int32} {s1 : Int32} {r : (CS × CS × Int32)} {k n9 : Nat} (hk : (k + 14 ≤ 32 ∧ n9 + 84 ≤ 192)) (hf : f_L_lays_b296 n x2 c d x3 x6 x7 x8 x9 x11 x12 x13 x14 x15 x16 s0 s1 = some r) : zW E X 19 k n9 (MQ (xb X) (zQ E (some (.int r.2.2)) (pC E (pC E h0 x r.1) y r.2.1)) (xa X) (xs X) 32 192 (zA E)) 296 (pC E (pC E h0 x c) y d) [(0, .ref x), (1, .ref y), (3, .int x3), (6, .int x6), (7, .int x7), (8, .int x8), (9, .int x9), (11, .int x11), (12, .int x12), (13, .int x13), (14, .int x14), (15, .int x15), (16, .int x16)] [.int s0, .int s1] := by
  obtain ⟨hk1, hk2⟩ := hk
  unfold f_L_lays_b296 at hf
  refine z_iadd C dL_lays_296 ?_
  refine z_iconst C (4 : Int32) dL_lays_297 (by decide) ?_
  obtain ⟨c298, hf⟩ := chk_some hf
  refine z_irem C dL_lays_298 c298 ?_
  refine z_goto C 304 dL_lays_299 (by decide) ?_
  exact z_sub [0, 1, 2, 3, 4, 5, 6, 7, 8, 9, 10, 11, 12] rfl (w_L_lays_b304 C hap hst hR1 hR2 ⟨by omega, by omega⟩ hf)
def f_L_lays_b270 (n : Nat) (x2 : Int32)   (c : CS) (d : CS) (x3 : Int32) (x5 : Int32) (x6 : Int32) (x7 : Int32) (x8 : Int32) (x9 : Int32) (x11 : Int32) (x12 : Int32) (x13 : Int32) (x14 : Int32) (x15 : Int32) (s0 : Int32) : Option (CS × CS × Int32) :=
  if x6 = 0 then (if x14 = x15 then (if x5 = 0 then (f_L_lays_b296 n x2 c d x3 x6 x7 x8 x9 x11 x12 x13 x14 x15 s0 (1 : Int32) x8) else (f_L_lays_b296 n x2 c d x3 x6 x7 x8 x9 x11 x12 x13 x14 x15 s0 (3 : Int32) x8)) else (f_L_lays_b304 n x2 c d x3 x6 x7 x8 x9 x11 x12 x13 x14 x15 s0 x8)) else (f_L_lays_b471 n x2 c d x3 x6 x7 x9 x11 s0)
set_option maxRecDepth 100000 in
set_option maxHeartbeats 4000000 in
theorem w_L_lays_b270 {E : zE} {X : zX} {h0 : Hp} {x y : Nat} {n : Nat} {x2 : Int32}  (C : zC E X RL cL_lays 19 (some .boolean) 17) (hap : x + 223 ≤ y ∨ y + 223 ≤ x) (hst : (xl X).stackTraces = false) (hR1 : 32 ≤ (xR X).cells) (hR2 : 192 ≤ (xR X).slots)  {c : CS} {d : CS} {x3 : Int32} {x5 : Int32} {x6 : Int32} {x7 : Int32} {x8 : Int32} {x9 : Int32} {x11 : Int32} {x12 : Int32} {x13 : Int32} {x14 : Int32} {x15 : Int32} {s0 : Int32} {r : (CS × CS × Int32)} {k n9 : Nat} (hk : (k + 14 ≤ 32 ∧ n9 + 84 ≤ 192)) (hf : f_L_lays_b270 n x2 c d x3 x5 x6 x7 x8 x9 x11 x12 x13 x14 x15 s0 = some r) : zW E X 19 k n9 (MQ (xb X) (zQ E (some (.int r.2.2)) (pC E (pC E h0 x r.1) y r.2.1)) (xa X) (xs X) 32 192 (zA E)) 270 (pC E (pC E h0 x c) y d) [(0, .ref x), (1, .ref y), (3, .int x3), (5, .int x5), (6, .int x6), (7, .int x7), (8, .int x8), (9, .int x9), (11, .int x11), (12, .int x12), (13, .int x13), (14, .int x14), (15, .int x15)] [.int s0] := by
  obtain ⟨hk1, hk2⟩ := hk
  unfold f_L_lays_b270 at hf
  refine z_istore (lv' := [(16, .int s0), (0, .ref x), (1, .ref y), (3, .int x3), (5, .int x5), (6, .int x6), (7, .int x7), (8, .int x8), (9, .int x9), (11, .int x11), (12, .int x12), (13, .int x13), (14, .int x14), (15, .int x15)]) C dL_lays_270 (by decide) rfl ?_
  refine z_iload C dL_lays_272 5 rfl ?_
  refine z_if_ne C 471 dL_lays_274 (by decide) (fun c274 => ?_) (fun c274 => ?_)
  · replace hf := iN c274 hf
    exact z_sub [1, 2, 3, 5, 6, 8, 9, 0] rfl (w_L_lays_b471 C hap hst hR1 hR2 ⟨by omega, by omega⟩ hf)
  · replace hf := ip c274 hf
    refine z_iload C dL_lays_277 12 rfl ?_
    refine z_iload C dL_lays_279 13 rfl ?_
    refine z_icmp_ne C 302 dL_lays_281 (by decide) (fun c281 => ?_) (fun c281 => ?_)
    · replace hf := iN c281 hf
      refine z_iload C dL_lays_302 7 rfl ?_
      exact z_sub [1, 2, 3, 5, 6, 7, 8, 9, 10, 11, 12, 13, 0] rfl (w_L_lays_b304 C hap hst hR1 hR2 ⟨by omega, by omega⟩ hf)
    · replace hf := ip c281 hf
      refine z_iload C dL_lays_284 7 rfl ?_
      refine z_iload C dL_lays_286 4 rfl ?_
      refine z_if_eq C 295 dL_lays_288 (by decide) (fun c288 => ?_) (fun c288 => ?_)
      · replace hf := ip c288 hf
        refine z_iconst C (1 : Int32) dL_lays_295 (by decide) ?_
        exact z_sub [1, 2, 3, 5, 6, 7, 8, 9, 10, 11, 12, 13, 0] rfl (w_L_lays_b296 C hap hst hR1 hR2 ⟨by omega, by omega⟩ hf)
      · replace hf := iN c288 hf
        refine z_iconst C (3 : Int32) dL_lays_291 (by decide) ?_
        refine z_goto C 296 dL_lays_292 (by decide) ?_
        exact z_sub [1, 2, 3, 5, 6, 7, 8, 9, 10, 11, 12, 13, 0] rfl (w_L_lays_b296 C hap hst hR1 hR2 ⟨by omega, by omega⟩ hf)
def f_L_lays_b269 (n : Nat) (x2 : Int32)   (c : CS) (d : CS) (x3 : Int32) (x5 : Int32) (x6 : Int32) (x7 : Int32) (x8 : Int32) (x9 : Int32) (x11 : Int32) (x12 : Int32) (x13 : Int32) (x14 : Int32) (x15 : Int32) : Option (CS × CS × Int32) :=
  f_L_lays_b270 n x2 c d x3 x5 x6 x7 x8 x9 x11 x12 x13 x14 x15 (0 : Int32)
set_option maxRecDepth 100000 in
set_option maxHeartbeats 4000000 in
theorem w_L_lays_b269 {E : zE} {X : zX} {h0 : Hp} {x y : Nat} {n : Nat} {x2 : Int32}  (C : zC E X RL cL_lays 19 (some .boolean) 17) (hap : x + 223 ≤ y ∨ y + 223 ≤ x) (hst : (xl X).stackTraces = false) (hR1 : 32 ≤ (xR X).cells) (hR2 : 192 ≤ (xR X).slots)  {c : CS} {d : CS} {x3 : Int32} {x5 : Int32} {x6 : Int32} {x7 : Int32} {x8 : Int32} {x9 : Int32} {x11 : Int32} {x12 : Int32} {x13 : Int32} {x14 : Int32} {x15 : Int32} {r : (CS × CS × Int32)} {k n9 : Nat} (hk : (k + 14 ≤ 32 ∧ n9 + 84 ≤ 192)) (hf : f_L_lays_b269 n x2 c d x3 x5 x6 x7 x8 x9 x11 x12 x13 x14 x15 = some r) : zW E X 19 k n9 (MQ (xb X) (zQ E (some (.int r.2.2)) (pC E (pC E h0 x r.1) y r.2.1)) (xa X) (xs X) 32 192 (zA E)) 269 (pC E (pC E h0 x c) y d) [(0, .ref x), (1, .ref y), (3, .int x3), (5, .int x5), (6, .int x6), (7, .int x7), (8, .int x8), (9, .int x9), (11, .int x11), (12, .int x12), (13, .int x13), (14, .int x14), (15, .int x15)] [] := by
  obtain ⟨hk1, hk2⟩ := hk
  unfold f_L_lays_b269 at hf
  refine z_iconst C (0 : Int32) dL_lays_269 (by decide) ?_
  exact z_sub [0, 1, 2, 3, 4, 5, 6, 7, 8, 9, 10, 11, 12] rfl (w_L_lays_b270 C hap hst hR1 hR2 ⟨by omega, by omega⟩ hf)
def f_L_lays_b261 (n : Nat) (x2 : Int32)   (c : CS) (d : CS) (x3 : Int32) (x5 : Int32) (x6 : Int32) (x7 : Int32) (x8 : Int32) (x9 : Int32) (x11 : Int32) (x12 : Int32) (x13 : Int32) (x14 : Int32) (x15 : Int32) (s0 : Int32) (s1 : Int32) (s2 : Int32) : Option (CS × CS × Int32) :=
  if s2 = (s1 + s0) then (f_L_lays_b270 n x2 c d x3 x5 x6 x7 x8 x9 x11 x12 x13 x14 x15 (1 : Int32)) else (f_L_lays_b269 n x2 c d x3 x5 x6 x7 x8 x9 x11 x12 x13 x14 x15)
set_option maxRecDepth 100000 in
set_option maxHeartbeats 4000000 in
theorem w_L_lays_b261 {E : zE} {X : zX} {h0 : Hp} {x y : Nat} {n : Nat} {x2 : Int32}  (C : zC E X RL cL_lays 19 (some .boolean) 17) (hap : x + 223 ≤ y ∨ y + 223 ≤ x) (hst : (xl X).stackTraces = false) (hR1 : 32 ≤ (xR X).cells) (hR2 : 192 ≤ (xR X).slots)  {c : CS} {d : CS} {x3 : Int32} {x5 : Int32} {x6 : Int32} {x7 : Int32} {x8 : Int32} {x9 : Int32} {x11 : Int32} {x12 : Int32} {x13 : Int32} {x14 : Int32} {x15 : Int32} {s0 : Int32} {s1 : Int32} {s2 : Int32} {r : (CS × CS × Int32)} {k n9 : Nat} (hk : (k + 14 ≤ 32 ∧ n9 + 84 ≤ 192)) (hf : f_L_lays_b261 n x2 c d x3 x5 x6 x7 x8 x9 x11 x12 x13 x14 x15 s0 s1 s2 = some r) : zW E X 19 k n9 (MQ (xb X) (zQ E (some (.int r.2.2)) (pC E (pC E h0 x r.1) y r.2.1)) (xa X) (xs X) 32 192 (zA E)) 261 (pC E (pC E h0 x c) y d) [(0, .ref x), (1, .ref y), (3, .int x3), (5, .int x5), (6, .int x6), (7, .int x7), (8, .int x8), (9, .int x9), (11, .int x11), (12, .int x12), (13, .int x13), (14, .int x14), (15, .int x15)] [.int s0, .int s1, .int s2] := by
  obtain ⟨hk1, hk2⟩ := hk
  unfold f_L_lays_b261 at hf
  refine z_iadd C dL_lays_261 ?_
  refine z_icmp_ne C 269 dL_lays_262 (by decide) (fun c262 => ?_) (fun c262 => ?_)
  · replace hf := iN c262 hf
    exact z_sub [0, 1, 2, 3, 4, 5, 6, 7, 8, 9, 10, 11, 12] rfl (w_L_lays_b269 C hap hst hR1 hR2 ⟨by omega, by omega⟩ hf)
  · replace hf := ip c262 hf
    refine z_iconst C (1 : Int32) dL_lays_265 (by decide) ?_
    refine z_goto C 270 dL_lays_266 (by decide) ?_
    exact z_sub [0, 1, 2, 3, 4, 5, 6, 7, 8, 9, 10, 11, 12] rfl (w_L_lays_b270 C hap hst hR1 hR2 ⟨by omega, by omega⟩ hf)
def f_L_lays_b237 (n : Nat) (x2 : Int32)   (c : CS) (d : CS) (x3 : Int32) (x5 : Int32) (x6 : Int32) (x7 : Int32) (x8 : Int32) (x9 : Int32) (x11 : Int32) (x12 : Int32) (x13 : Int32) (x14 : Int32) (x15 : Int32) (s0 : Int32) (s1 : Int32) (s2 : Int32) : Option (CS × CS × Int32) :=
  if s2 = (s1 + s0) then ((f_L_call n c (2 : Int32) (5 : Int32) (0 : Int32) (0 : Int32)).bind (fun q246 => if x6 = 0 then (f_L_lays_b261 n x2 q246.1 d x3 x5 x6 x7 x8 x9 x11 x12 x13 x14 x15 (1 : Int32) x9 q246.2) else (f_L_lays_b261 n x2 q246.1 d x3 x5 x6 x7 x8 x9 x11 x12 x13 x14 x15 (0 : Int32) x9 q246.2))) else (f_L_lays_b269 n x2 c d x3 x5 x6 x7 x8 x9 x11 x12 x13 x14 x15)
set_option maxRecDepth 100000 in
set_option maxHeartbeats 4000000 in
theorem w_L_lays_b237 {E : zE} {X : zX} {h0 : Hp} {x y : Nat} {n : Nat} {x2 : Int32}  (C : zC E X RL cL_lays 19 (some .boolean) 17) (hap : x + 223 ≤ y ∨ y + 223 ≤ x) (hst : (xl X).stackTraces = false) (hR1 : 32 ≤ (xR X).cells) (hR2 : 192 ≤ (xR X).slots)  {c : CS} {d : CS} {x3 : Int32} {x5 : Int32} {x6 : Int32} {x7 : Int32} {x8 : Int32} {x9 : Int32} {x11 : Int32} {x12 : Int32} {x13 : Int32} {x14 : Int32} {x15 : Int32} {s0 : Int32} {s1 : Int32} {s2 : Int32} {r : (CS × CS × Int32)} {k n9 : Nat} (hk : (k + 15 ≤ 32 ∧ n9 + 90 ≤ 192)) (hf : f_L_lays_b237 n x2 c d x3 x5 x6 x7 x8 x9 x11 x12 x13 x14 x15 s0 s1 s2 = some r) : zW E X 19 k n9 (MQ (xb X) (zQ E (some (.int r.2.2)) (pC E (pC E h0 x r.1) y r.2.1)) (xa X) (xs X) 32 192 (zA E)) 237 (pC E (pC E h0 x c) y d) [(0, .ref x), (1, .ref y), (3, .int x3), (5, .int x5), (6, .int x6), (7, .int x7), (8, .int x8), (9, .int x9), (11, .int x11), (12, .int x12), (13, .int x13), (14, .int x14), (15, .int x15)] [.int s0, .int s1, .int s2] := by
  obtain ⟨hk1, hk2⟩ := hk
  unfold f_L_lays_b237 at hf
  refine z_iadd C dL_lays_237 ?_
  refine z_icmp_ne C 269 dL_lays_238 (by decide) (fun c238 => ?_) (fun c238 => ?_)
  · replace hf := iN c238 hf
    exact z_sub [0, 1, 2, 3, 4, 5, 6, 7, 8, 9, 10, 11, 12] rfl (w_L_lays_b269 C hap hst hR1 hR2 ⟨by omega, by omega⟩ hf)
  · replace hf := ip c238 hf
    refine z_aload_n C dL_lays_241 0 rfl ?_
    refine z_iconst C (2 : Int32) dL_lays_242 (by decide) ?_
    refine z_iconst C (5 : Int32) dL_lays_243 (by decide) ?_
    refine z_iconst C (0 : Int32) dL_lays_244 (by decide) ?_
    refine z_iconst C (0 : Int32) dL_lays_245 (by decide) ?_
    obtain ⟨q246, hq246, hf⟩ := bd_some hf
    refine z_heap (pC_sw hap) ?_
    refine z_callK (K := 1) C 249 [.ref x, .int (2 : Int32), .int (5 : Int32), .int (0 : Int32), .int (0 : Int32)] [] (ct_L_call hst hq246) co_L_call ml_L_139 st_L_call ini_L ⟨by decide +kernel, by decide +kernel, by show _ = some 5; decide +kernel⟩ (by decide) (by decide) rfl (Nat.le_of_ble_eq_true rfl) ⟨by omega, by omega⟩ rfl dL_lays_246 ?_
    refine z_heap (pC_sw hap.symm) ?_
    refine z_iload C dL_lays_249 7 rfl ?_
    refine z_iload C dL_lays_251 4 rfl ?_
    refine z_if_ne C 260 dL_lays_253 (by decide) (fun c253 => ?_) (fun c253 => ?_)
    · replace hf := iN c253 hf
      refine z_iconst C (0 : Int32) dL_lays_260 (by decide) ?_
      exact z_sub [0, 1, 2, 3, 4, 5, 6, 7, 8, 9, 10, 11, 12] rfl (w_L_lays_b261 C hap hst hR1 hR2 ⟨by omega, by omega⟩ hf)
    · replace hf := ip c253 hf
      refine z_iconst C (1 : Int32) dL_lays_256 (by decide) ?_
      refine z_goto C 261 dL_lays_257 (by decide) ?_
      exact z_sub [0, 1, 2, 3, 4, 5, 6, 7, 8, 9, 10, 11, 12] rfl (w_L_lays_b261 C hap hst hR1 hR2 ⟨by omega, by omega⟩ hf)
def f_L_lays_b58 (n : Nat) (x2 : Int32)   (c : CS) (d : CS) (x3 : Int32) (s0 : Int32) : Option (CS × CS × Int32) :=
  (f_L_call n c (11 : Int32) x3 (0 : Int32) (0 : Int32)).bind (fun q66 => (f_L_call n q66.1 (2 : Int32) (3 : Int32) (0 : Int32) (0 : Int32)).bind (fun q76 => (f_L_call n q76.1 (2 : Int32) (7 : Int32) (0 : Int32) (0 : Int32)).bind (fun q87 => (f_L_call n q87.1 (2 : Int32) (5 : Int32) (0 : Int32) (0 : Int32)).bind (fun q97 => (f_L_call n q97.1 (2 : Int32) (10 : Int32) (0 : Int32) (0 : Int32)).bind (fun q108 => (f_L_call n q108.1 (5 : Int32) q76.2 (0 : Int32) (0 : Int32)).bind (fun q119 => (f_L_call n q119.1 (5 : Int32) q76.2 (2 : Int32) (0 : Int32)).bind (fun q130 => (f_L_call n q130.1 (5 : Int32) (0 : Int32) (1 : Int32) (0 : Int32)).bind (fun q140 => (f_L_call n q140.1 (5 : Int32) (1 : Int32) (1 : Int32) (0 : Int32)).bind (fun q148 => (f_L_call n q148.1 (5 : Int32) (2 : Int32) (1 : Int32) (0 : Int32)).bind (fun q157 => (f_L_call n q157.1 (5 : Int32) (3 : Int32) (1 : Int32) (0 : Int32)).bind (fun q166 => (f_L_call n q166.1 (3 : Int32) x3 (0 : Int32) (0 : Int32)).bind (fun q177 => (f_L_call n q177.1 (3 : Int32) x3 (1 : Int32) (0 : Int32)).bind (fun q187 => (f_L_plays n q187.1 x3 s0).bind (fun q196 => if q196.2 = q66.2 then ((f_L_plays n d x3 s0).bind (fun q208 => if q208.2 = q66.2 then ((f_L_call n q196.1 (2 : Int32) (10 : Int32) (0 : Int32) (0 : Int32)).bind (fun q222 => if q66.2 = 0 then (f_L_lays_b237 n x2 q222.1 q208.1 x3 s0 q66.2 q76.2 q87.2 q97.2 q119.2 q130.2 (((q140.2 + q148.2) + q157.2) + q166.2) q177.2 q187.2 (0 : Int32) q108.2 q222.2) else (f_L_lays_b237 n x2 q222.1 q208.1 x3 s0 q66.2 q76.2 q87.2 q97.2 q119.2 q130.2 (((q140.2 + q148.2) + q157.2) + q166.2) q177.2 q187.2 (1 : Int32) q108.2 q222.2))) else (f_L_lays_b269 n x2 q196.1 q208.1 x3 s0 q66.2 q76.2 q87.2 q97.2 q119.2 q130.2 (((q140.2 + q148.2) + q157.2) + q166.2) q177.2 q187.2))) else (f_L_lays_b269 n x2 q196.1 d x3 s0 q66.2 q76.2 q87.2 q97.2 q119.2 q130.2 (((q140.2 + q148.2) + q157.2) + q166.2) q177.2 q187.2)))))))))))))))
set_option maxRecDepth 100000 in
set_option maxHeartbeats 4000000 in
theorem w_L_lays_b58 {E : zE} {X : zX} {h0 : Hp} {x y : Nat} {n : Nat} {x2 : Int32}  (C : zC E X RL cL_lays 19 (some .boolean) 17) (hap : x + 223 ≤ y ∨ y + 223 ≤ x) (hst : (xl X).stackTraces = false) (hR1 : 32 ≤ (xR X).cells) (hR2 : 192 ≤ (xR X).slots)  {c : CS} {d : CS} {x3 : Int32} {s0 : Int32} {r : (CS × CS × Int32)} {k n9 : Nat} (hk : (k + 31 ≤ 32 ∧ n9 + 186 ≤ 192)) (hf : f_L_lays_b58 n x2 c d x3 s0 = some r) : zW E X 19 k n9 (MQ (xb X) (zQ E (some (.int r.2.2)) (pC E (pC E h0 x r.1) y r.2.1)) (xa X) (xs X) 32 192 (zA E)) 58 (pC E (pC E h0 x c) y d) [(0, .ref x), (1, .ref y), (3, .int x3)] [.int s0] := by
  obtain ⟨hk1, hk2⟩ := hk
  unfold f_L_lays_b58 at hf
  refine z_istore (lv' := [(5, .int s0), (0, .ref x), (1, .ref y), (3, .int x3)]) C dL_lays_58 (by decide) rfl ?_
  refine z_aload_n C dL_lays_60 1 rfl ?_
  refine z_bipush C (11 : Int32) dL_lays_61 (by decide) ?_
  refine z_iload_n C dL_lays_63 3 rfl ?_
  refine z_iconst C (0 : Int32) dL_lays_64 (by decide) ?_
  refine z_iconst C (0 : Int32) dL_lays_65 (by decide) ?_
  obtain ⟨q66, hq66, hf⟩ := bd_some hf
  refine z_heap (pC_sw hap) ?_
  refine z_callK (K := 1) C 69 [.ref x, .int (11 : Int32), .int x3, .int (0 : Int32), .int (0 : Int32)] [] (ct_L_call hst hq66) co_L_call ml_L_139 st_L_call ini_L ⟨by decide +kernel, by decide +kernel, by show _ = some 5; decide +kernel⟩ (by decide) (by decide) rfl (Nat.le_of_ble_eq_true rfl) ⟨by omega, by omega⟩ rfl dL_lays_66 ?_
  refine z_heap (pC_sw hap.symm) ?_
  refine z_istore (lv' := [(6, .int q66.2), (5, .int s0), (0, .ref x), (1, .ref y), (3, .int x3)]) C dL_lays_69 (by decide) rfl ?_
  refine z_aload_n C dL_lays_71 2 rfl ?_
  refine z_iconst C (2 : Int32) dL_lays_72 (by decide) ?_
  refine z_iconst C (3 : Int32) dL_lays_73 (by decide) ?_
  refine z_iconst C (0 : Int32) dL_lays_74 (by decide) ?_
  refine z_iconst C (0 : Int32) dL_lays_75 (by decide) ?_
  obtain ⟨q76, hq76, hf⟩ := bd_some hf
  refine z_heap (pC_sw hap) ?_
  refine z_callK (K := 1) C 79 [.ref x, .int (2 : Int32), .int (3 : Int32), .int (0 : Int32), .int (0 : Int32)] [] (ct_L_call hst hq76) co_L_call ml_L_139 st_L_call ini_L ⟨by decide +kernel, by decide +kernel, by show _ = some 5; decide +kernel⟩ (by decide) (by decide) rfl (Nat.le_of_ble_eq_true rfl) ⟨by omega, by omega⟩ rfl dL_lays_76 ?_
  refine z_heap (pC_sw hap.symm) ?_
  refine z_istore (lv' := [(7, .int q76.2), (6, .int q66.2), (5, .int s0), (0, .ref x), (1, .ref y), (3, .int x3)]) C dL_lays_79 (by decide) rfl ?_
  refine z_aload_n C dL_lays_81 3 rfl ?_
  refine z_iconst C (2 : Int32) dL_lays_82 (by decide) ?_
  refine z_bipush C (7 : Int32) dL_lays_83 (by decide) ?_
  refine z_iconst C (0 : Int32) dL_lays_85 (by decide) ?_
  refine z_iconst C (0 : Int32) dL_lays_86 (by decide) ?_
  obtain ⟨q87, hq87, hf⟩ := bd_some hf
  refine z_heap (pC_sw hap) ?_
  refine z_callK (K := 1) C 90 [.ref x, .int (2 : Int32), .int (7 : Int32), .int (0 : Int32), .int (0 : Int32)] [] (ct_L_call hst hq87) co_L_call ml_L_139 st_L_call ini_L ⟨by decide +kernel, by decide +kernel, by show _ = some 5; decide +kernel⟩ (by decide) (by decide) rfl (Nat.le_of_ble_eq_true rfl) ⟨by omega, by omega⟩ rfl dL_lays_87 ?_
  refine z_heap (pC_sw hap.symm) ?_
  refine z_istore (lv' := [(8, .int q87.2), (7, .int q76.2), (6, .int q66.2), (5, .int s0), (0, .ref x), (1, .ref y), (3, .int x3)]) C dL_lays_90 (by decide) rfl ?_
  refine z_aload_n C dL_lays_92 4 rfl ?_
  refine z_iconst C (2 : Int32) dL_lays_93 (by decide) ?_
  refine z_iconst C (5 : Int32) dL_lays_94 (by decide) ?_
  refine z_iconst C (0 : Int32) dL_lays_95 (by decide) ?_
  refine z_iconst C (0 : Int32) dL_lays_96 (by decide) ?_
  obtain ⟨q97, hq97, hf⟩ := bd_some hf
  refine z_heap (pC_sw hap) ?_
  refine z_callK (K := 1) C 100 [.ref x, .int (2 : Int32), .int (5 : Int32), .int (0 : Int32), .int (0 : Int32)] [] (ct_L_call hst hq97) co_L_call ml_L_139 st_L_call ini_L ⟨by decide +kernel, by decide +kernel, by show _ = some 5; decide +kernel⟩ (by decide) (by decide) rfl (Nat.le_of_ble_eq_true rfl) ⟨by omega, by omega⟩ rfl dL_lays_97 ?_
  refine z_heap (pC_sw hap.symm) ?_
  refine z_istore (lv' := [(9, .int q97.2), (8, .int q87.2), (7, .int q76.2), (6, .int q66.2), (5, .int s0), (0, .ref x), (1, .ref y), (3, .int x3)]) C dL_lays_100 (by decide) rfl ?_
  refine z_aload_n C dL_lays_102 5 rfl ?_
  refine z_iconst C (2 : Int32) dL_lays_103 (by decide) ?_
  refine z_bipush C (10 : Int32) dL_lays_104 (by decide) ?_
  refine z_iconst C (0 : Int32) dL_lays_106 (by decide) ?_
  refine z_iconst C (0 : Int32) dL_lays_107 (by decide) ?_
  obtain ⟨q108, hq108, hf⟩ := bd_some hf
  refine z_heap (pC_sw hap) ?_
  refine z_callK (K := 1) C 111 [.ref x, .int (2 : Int32), .int (10 : Int32), .int (0 : Int32), .int (0 : Int32)] [] (ct_L_call hst hq108) co_L_call ml_L_139 st_L_call ini_L ⟨by decide +kernel, by decide +kernel, by show _ = some 5; decide +kernel⟩ (by decide) (by decide) rfl (Nat.le_of_ble_eq_true rfl) ⟨by omega, by omega⟩ rfl dL_lays_108 ?_
  refine z_heap (pC_sw hap.symm) ?_
  refine z_istore (lv' := [(10, .int q108.2), (9, .int q97.2), (8, .int q87.2), (7, .int q76.2), (6, .int q66.2), (5, .int s0), (0, .ref x), (1, .ref y), (3, .int x3)]) C dL_lays_111 (by decide) rfl ?_
  refine z_aload_n C dL_lays_113 6 rfl ?_
  refine z_iconst C (5 : Int32) dL_lays_114 (by decide) ?_
  refine z_iload C dL_lays_115 3 rfl ?_
  refine z_iconst C (0 : Int32) dL_lays_117 (by decide) ?_
  refine z_iconst C (0 : Int32) dL_lays_118 (by decide) ?_
  obtain ⟨q119, hq119, hf⟩ := bd_some hf
  refine z_heap (pC_sw hap) ?_
  refine z_callK (K := 1) C 122 [.ref x, .int (5 : Int32), .int q76.2, .int (0 : Int32), .int (0 : Int32)] [] (ct_L_call hst hq119) co_L_call ml_L_139 st_L_call ini_L ⟨by decide +kernel, by decide +kernel, by show _ = some 5; decide +kernel⟩ (by decide) (by decide) rfl (Nat.le_of_ble_eq_true rfl) ⟨by omega, by omega⟩ rfl dL_lays_119 ?_
  refine z_heap (pC_sw hap.symm) ?_
  refine z_istore (lv' := [(11, .int q119.2), (10, .int q108.2), (9, .int q97.2), (8, .int q87.2), (7, .int q76.2), (6, .int q66.2), (5, .int s0), (0, .ref x), (1, .ref y), (3, .int x3)]) C dL_lays_122 (by decide) rfl ?_
  refine z_aload_n C dL_lays_124 7 rfl ?_
  refine z_iconst C (5 : Int32) dL_lays_125 (by decide) ?_
  refine z_iload C dL_lays_126 4 rfl ?_
  refine z_iconst C (2 : Int32) dL_lays_128 (by decide) ?_
  refine z_iconst C (0 : Int32) dL_lays_129 (by decide) ?_
  obtain ⟨q130, hq130, hf⟩ := bd_some hf
  refine z_heap (pC_sw hap) ?_
  refine z_callK (K := 1) C 133 [.ref x, .int (5 : Int32), .int q76.2, .int (2 : Int32), .int (0 : Int32)] [] (ct_L_call hst hq130) co_L_call ml_L_139 st_L_call ini_L ⟨by decide +kernel, by decide +kernel, by show _ = some 5; decide +kernel⟩ (by decide) (by decide) rfl (Nat.le_of_ble_eq_true rfl) ⟨by omega, by omega⟩ rfl dL_lays_130 ?_
  refine z_heap (pC_sw hap.symm) ?_
  refine z_istore (lv' := [(12, .int q130.2), (11, .int q119.2), (10, .int q108.2), (9, .int q97.2), (8, .int q87.2), (7, .int q76.2), (6, .int q66.2), (5, .int s0), (0, .ref x), (1, .ref y), (3, .int x3)]) C dL_lays_133 (by decide) rfl ?_
  refine z_aload_n C dL_lays_135 8 rfl ?_
  refine z_iconst C (5 : Int32) dL_lays_136 (by decide) ?_
  refine z_iconst C (0 : Int32) dL_lays_137 (by decide) ?_
  refine z_iconst C (1 : Int32) dL_lays_138 (by decide) ?_
  refine z_iconst C (0 : Int32) dL_lays_139 (by decide) ?_
  obtain ⟨q140, hq140, hf⟩ := bd_some hf
  refine z_heap (pC_sw hap) ?_
  refine z_callK (K := 1) C 143 [.ref x, .int (5 : Int32), .int (0 : Int32), .int (1 : Int32), .int (0 : Int32)] [] (ct_L_call hst hq140) co_L_call ml_L_139 st_L_call ini_L ⟨by decide +kernel, by decide +kernel, by show _ = some 5; decide +kernel⟩ (by decide) (by decide) rfl (Nat.le_of_ble_eq_true rfl) ⟨by omega, by omega⟩ rfl dL_lays_140 ?_
  refine z_heap (pC_sw hap.symm) ?_
  refine z_aload_n C dL_lays_143 8 rfl ?_
  refine z_iconst C (5 : Int32) dL_lays_144 (by decide) ?_
  refine z_iconst C (1 : Int32) dL_lays_145 (by decide) ?_
  refine z_iconst C (1 : Int32) dL_lays_146 (by decide) ?_
  refine z_iconst C (0 : Int32) dL_lays_147 (by decide) ?_
  obtain ⟨q148, hq148, hf⟩ := bd_some hf
  refine z_heap (pC_sw hap) ?_
  refine z_callK (K := 1) C 151 [.ref x, .int (5 : Int32), .int (1 : Int32), .int (1 : Int32), .int (0 : Int32)] [.int q140.2] (ct_L_call hst hq148) co_L_call ml_L_139 st_L_call ini_L ⟨by decide +kernel, by decide +kernel, by show _ = some 5; decide +kernel⟩ (by decide) (by decide) rfl (Nat.le_of_ble_eq_true rfl) ⟨by omega, by omega⟩ rfl dL_lays_148 ?_
  refine z_heap (pC_sw hap.symm) ?_
  refine z_iadd C dL_lays_151 ?_
  refine z_aload_n C dL_lays_152 8 rfl ?_
  refine z_iconst C (5 : Int32) dL_lays_153 (by decide) ?_
  refine z_iconst C (2 : Int32) dL_lays_154 (by decide) ?_
  refine z_iconst C (1 : Int32) dL_lays_155 (by decide) ?_
  refine z_iconst C (0 : Int32) dL_lays_156 (by decide) ?_
  obtain ⟨q157, hq157, hf⟩ := bd_some hf
  refine z_heap (pC_sw hap) ?_
  refine z_callK (K := 1) C 160 [.ref x, .int (5 : Int32), .int (2 : Int32), .int (1 : Int32), .int (0 : Int32)] [.int (q140.2 + q148.2)] (ct_L_call hst hq157) co_L_call ml_L_139 st_L_call ini_L ⟨by decide +kernel, by decide +kernel, by show _ = some 5; decide +kernel⟩ (by decide) (by decide) rfl (Nat.le_of_ble_eq_true rfl) ⟨by omega, by omega⟩ rfl dL_lays_157 ?_
  refine z_heap (pC_sw hap.symm) ?_
  refine z_iadd C dL_lays_160 ?_
  refine z_aload_n C dL_lays_161 8 rfl ?_
  refine z_iconst C (5 : Int32) dL_lays_162 (by decide) ?_
  refine z_iconst C (3 : Int32) dL_lays_163 (by decide) ?_
  refine z_iconst C (1 : Int32) dL_lays_164 (by decide) ?_
  refine z_iconst C (0 : Int32) dL_lays_165 (by decide) ?_
  obtain ⟨q166, hq166, hf⟩ := bd_some hf
  refine z_heap (pC_sw hap) ?_
  refine z_callK (K := 1) C 169 [.ref x, .int (5 : Int32), .int (3 : Int32), .int (1 : Int32), .int (0 : Int32)] [.int ((q140.2 + q148.2) + q157.2)] (ct_L_call hst hq166) co_L_call ml_L_139 st_L_call ini_L ⟨by decide +kernel, by decide +kernel, by show _ = some 5; decide +kernel⟩ (by decide) (by decide) rfl (Nat.le_of_ble_eq_true rfl) ⟨by omega, by omega⟩ rfl dL_lays_166 ?_
  refine z_heap (pC_sw hap.symm) ?_
  refine z_iadd C dL_lays_169 ?_
  refine z_istore (lv' := [(13, .int (((q140.2 + q148.2) + q157.2) + q166.2)), (12, .int q130.2), (11, .int q119.2), (10, .int q108.2), (9, .int q97.2), (8, .int q87.2), (7, .int q76.2), (6, .int q66.2), (5, .int s0), (0, .ref x), (1, .ref y), (3, .int x3)]) C dL_lays_170 (by decide) rfl ?_
  refine z_aload_n C dL_lays_172 9 rfl ?_
  refine z_iconst C (3 : Int32) dL_lays_173 (by decide) ?_
  refine z_iload_n C dL_lays_174 11 rfl ?_
  refine z_iconst C (0 : Int32) dL_lays_175 (by decide) ?_
  refine z_iconst C (0 : Int32) dL_lays_176 (by decide) ?_
  obtain ⟨q177, hq177, hf⟩ := bd_some hf
  refine z_heap (pC_sw hap) ?_
  refine z_callK (K := 1) C 180 [.ref x, .int (3 : Int32), .int x3, .int (0 : Int32), .int (0 : Int32)] [] (ct_L_call hst hq177) co_L_call ml_L_139 st_L_call ini_L ⟨by decide +kernel, by decide +kernel, by show _ = some 5; decide +kernel⟩ (by decide) (by decide) rfl (Nat.le_of_ble_eq_true rfl) ⟨by omega, by omega⟩ rfl dL_lays_177 ?_
  refine z_heap (pC_sw hap.symm) ?_
  refine z_istore (lv' := [(14, .int q177.2), (13, .int (((q140.2 + q148.2) + q157.2) + q166.2)), (12, .int q130.2), (11, .int q119.2), (10, .int q108.2), (9, .int q97.2), (8, .int q87.2), (7, .int q76.2), (6, .int q66.2), (5, .int s0), (0, .ref x), (1, .ref y), (3, .int x3)]) C dL_lays_180 (by decide) rfl ?_
  refine z_aload_n C dL_lays_182 10 rfl ?_
  refine z_iconst C (3 : Int32) dL_lays_183 (by decide) ?_
  refine z_iload_n C dL_lays_184 12 rfl ?_
  refine z_iconst C (1 : Int32) dL_lays_185 (by decide) ?_
  refine z_iconst C (0 : Int32) dL_lays_186 (by decide) ?_
  obtain ⟨q187, hq187, hf⟩ := bd_some hf
  refine z_heap (pC_sw hap) ?_
  refine z_callK (K := 1) C 190 [.ref x, .int (3 : Int32), .int x3, .int (1 : Int32), .int (0 : Int32)] [] (ct_L_call hst hq187) co_L_call ml_L_139 st_L_call ini_L ⟨by decide +kernel, by decide +kernel, by show _ = some 5; decide +kernel⟩ (by decide) (by decide) rfl (Nat.le_of_ble_eq_true rfl) ⟨by omega, by omega⟩ rfl dL_lays_187 ?_
  refine z_heap (pC_sw hap.symm) ?_
  refine z_istore (lv' := [(15, .int q187.2), (14, .int q177.2), (13, .int (((q140.2 + q148.2) + q157.2) + q166.2)), (12, .int q130.2), (11, .int q119.2), (10, .int q108.2), (9, .int q97.2), (8, .int q87.2), (7, .int q76.2), (6, .int q66.2), (5, .int s0), (0, .ref x), (1, .ref y), (3, .int x3)]) C dL_lays_190 (by decide) rfl ?_
  refine z_aload_n C dL_lays_192 11 rfl ?_
  refine z_iload_n C dL_lays_193 13 rfl ?_
  refine z_iload C dL_lays_194 10 rfl ?_
  obtain ⟨q196, hq196, hf⟩ := bd_some hf
  refine z_heap (pC_sw hap) ?_
  refine z_callSW C 199 [.ref x, .int x3, .int s0] [] (ct_L_plays hst hq196) co_L_plays ml_L_147 st_L_plays ini_L ⟨by decide +kernel, by decide +kernel, by show _ = some 3; decide +kernel⟩ (by decide) (by decide) rfl (Nat.le_of_ble_eq_true rfl) ⟨by omega, by omega⟩ rfl dL_lays_196 ?_
  refine z_heap (pC_sw hap.symm) ?_
  refine z_iload C dL_lays_199 9 rfl ?_
  refine z_icmp_ne C 269 dL_lays_201 (by decide) (fun c201 => ?_) (fun c201 => ?_)
  · replace hf := iN c201 hf
    exact z_sub [11, 12, 13, 10, 9, 8, 7, 6, 4, 3, 2, 1, 0] rfl (w_L_lays_b269 C hap hst hR1 hR2 ⟨by omega, by omega⟩ hf)
  · replace hf := ip c201 hf
    refine z_aload_n C dL_lays_204 12 rfl ?_
    refine z_iload_n C dL_lays_205 13 rfl ?_
    refine z_iload C dL_lays_206 10 rfl ?_
    obtain ⟨q208, hq208, hf⟩ := bd_some hf
    refine z_callSW C 211 [.ref y, .int x3, .int s0] [] (ct_L_plays hst hq208) co_L_plays ml_L_147 st_L_plays ini_L ⟨by decide +kernel, by decide +kernel, by show _ = some 3; decide +kernel⟩ (by decide) (by decide) rfl (Nat.le_of_ble_eq_true rfl) ⟨by omega, by omega⟩ rfl dL_lays_208 ?_
    refine z_iload C dL_lays_211 9 rfl ?_
    refine z_icmp_ne C 269 dL_lays_213 (by decide) (fun c213 => ?_) (fun c213 => ?_)
    · replace hf := iN c213 hf
      exact z_sub [11, 12, 13, 10, 9, 8, 7, 6, 4, 3, 2, 1, 0] rfl (w_L_lays_b269 C hap hst hR1 hR2 ⟨by omega, by omega⟩ hf)
    · replace hf := ip c213 hf
      refine z_aload_n C dL_lays_216 11 rfl ?_
      refine z_iconst C (2 : Int32) dL_lays_217 (by decide) ?_
      refine z_bipush C (10 : Int32) dL_lays_218 (by decide) ?_
      refine z_iconst C (0 : Int32) dL_lays_220 (by decide) ?_
      refine z_iconst C (0 : Int32) dL_lays_221 (by decide) ?_
      obtain ⟨q222, hq222, hf⟩ := bd_some hf
      refine z_heap (pC_sw hap) ?_
      refine z_callK (K := 1) C 225 [.ref x, .int (2 : Int32), .int (10 : Int32), .int (0 : Int32), .int (0 : Int32)] [] (ct_L_call hst hq222) co_L_call ml_L_139 st_L_call ini_L ⟨by decide +kernel, by decide +kernel, by show _ = some 5; decide +kernel⟩ (by decide) (by decide) rfl (Nat.le_of_ble_eq_true rfl) ⟨by omega, by omega⟩ rfl dL_lays_222 ?_
      refine z_heap (pC_sw hap.symm) ?_
      refine z_iload C dL_lays_225 5 rfl ?_
      refine z_iload C dL_lays_227 9 rfl ?_
      refine z_if_ne C 236 dL_lays_229 (by decide) (fun c229 => ?_) (fun c229 => ?_)
      · replace hf := iN c229 hf
        refine z_iconst C (1 : Int32) dL_lays_236 (by decide) ?_
        exact z_sub [11, 12, 13, 10, 9, 8, 7, 6, 4, 3, 2, 1, 0] rfl (w_L_lays_b237 C hap hst hR1 hR2 ⟨by omega, by omega⟩ hf)
      · replace hf := ip c229 hf
        refine z_iconst C (0 : Int32) dL_lays_232 (by decide) ?_
        refine z_goto C 237 dL_lays_233 (by decide) ?_
        exact z_sub [11, 12, 13, 10, 9, 8, 7, 6, 4, 3, 2, 1, 0] rfl (w_L_lays_b237 C hap hst hR1 hR2 ⟨by omega, by omega⟩ hf)
def f_L_lays_b43 (n : Nat) (x2 : Int32)   (c : CS) (d : CS) (s0 : Int32) : Option (CS × CS × Int32) :=
  chk (¬ (28 : Int32) = 0) (chk (¬ (2 : Int32) = 0) (if (jrem (x2 / (28 : Int32)) (2 : Int32)) = 0 then (f_L_lays_b58 n x2 c d s0 (1 : Int32)) else (f_L_lays_b58 n x2 c d s0 (0 : Int32))))
set_option maxRecDepth 100000 in
set_option maxHeartbeats 4000000 in
theorem w_L_lays_b43 {E : zE} {X : zX} {h0 : Hp} {x y : Nat} {n : Nat} {x2 : Int32}  (C : zC E X RL cL_lays 19 (some .boolean) 17) (hap : x + 223 ≤ y ∨ y + 223 ≤ x) (hst : (xl X).stackTraces = false) (hR1 : 32 ≤ (xR X).cells) (hR2 : 192 ≤ (xR X).slots)  {c : CS} {d : CS} {s0 : Int32} {r : (CS × CS × Int32)} {k n9 : Nat} (hk : (k + 31 ≤ 32 ∧ n9 + 186 ≤ 192)) (hf : f_L_lays_b43 n x2 c d s0 = some r) : zW E X 19 k n9 (MQ (xb X) (zQ E (some (.int r.2.2)) (pC E (pC E h0 x r.1) y r.2.1)) (xa X) (xs X) 32 192 (zA E)) 43 (pC E (pC E h0 x c) y d) [(0, .ref x), (1, .ref y), (2, .int x2)] [.int s0] := by
  obtain ⟨hk1, hk2⟩ := hk
  unfold f_L_lays_b43 at hf
  refine z_istore_n (lv' := [(3, .int s0), (0, .ref x), (1, .ref y), (2, .int x2)]) C dL_lays_43 (by decide) rfl ?_
  refine z_iload_n C dL_lays_44 3 rfl ?_
  refine z_bipush C (28 : Int32) dL_lays_45 (by decide) ?_
  obtain ⟨c47, hf⟩ := chk_some hf
  refine z_idiv C dL_lays_47 c47 ?_
  refine z_iconst C (2 : Int32) dL_lays_48 (by decide) ?_
  obtain ⟨c49, hf⟩ := chk_some hf
  refine z_irem C dL_lays_49 c49 ?_
  refine z_if_ne C 57 dL_lays_50 (by decide) (fun c50 => ?_) (fun c50 => ?_)
  · replace hf := iN c50 hf
    refine z_iconst C (0 : Int32) dL_lays_57 (by decide) ?_
    exact z_sub [1, 2, 0] rfl (w_L_lays_b58 C hap hst hR1 hR2 ⟨by omega, by omega⟩ hf)
  · replace hf := ip c50 hf
    refine z_iconst C (1 : Int32) dL_lays_53 (by decide) ?_
    refine z_goto C 58 dL_lays_54 (by decide) ?_
    exact z_sub [1, 2, 0] rfl (w_L_lays_b58 C hap hst hR1 hR2 ⟨by omega, by omega⟩ hf)
def f_L_lays_b42 (n : Nat) (x2 : Int32)   (c : CS) (d : CS) (x3 : Int32) : Option (CS × CS × Int32) :=
  f_L_lays_b43 n x2 c d x3
set_option maxRecDepth 100000 in
set_option maxHeartbeats 4000000 in
theorem w_L_lays_b42 {E : zE} {X : zX} {h0 : Hp} {x y : Nat} {n : Nat} {x2 : Int32}  (C : zC E X RL cL_lays 19 (some .boolean) 17) (hap : x + 223 ≤ y ∨ y + 223 ≤ x) (hst : (xl X).stackTraces = false) (hR1 : 32 ≤ (xR X).cells) (hR2 : 192 ≤ (xR X).slots)  {c : CS} {d : CS} {x3 : Int32} {r : (CS × CS × Int32)} {k n9 : Nat} (hk : (k + 31 ≤ 32 ∧ n9 + 186 ≤ 192)) (hf : f_L_lays_b42 n x2 c d x3 = some r) : zW E X 19 k n9 (MQ (xb X) (zQ E (some (.int r.2.2)) (pC E (pC E h0 x r.1) y r.2.1)) (xa X) (xs X) 32 192 (zA E)) 42 (pC E (pC E h0 x c) y d) [(0, .ref x), (1, .ref y), (2, .int x2), (3, .int x3)] [] := by
  obtain ⟨hk1, hk2⟩ := hk
  unfold f_L_lays_b42 at hf
  refine z_iload_n C dL_lays_42 3 rfl ?_
  exact z_sub [0, 1, 2] rfl (w_L_lays_b43 C hap hst hR1 hR2 ⟨by omega, by omega⟩ hf)
def f_L_lays (n : Nat) (c : CS) (d : CS) (x2 : Int32) : Option (CS × CS × Int32) :=
  (f_L_call n c (2 : Int32) (1 : Int32) (0 : Int32) (0 : Int32)).bind (fun q5 => if q5.2 = (1 : Int32) then (chk (¬ (28 : Int32) = 0) ((f_X5_best n q5.1).bind (fun q20 => if q20 = (-1 : Int32) then (f_L_lays_b42 n x2 q5.1 d (jrem x2 (28 : Int32))) else (chk (¬ (3 : Int32) = 0) (if (jrem x2 (3 : Int32)) = 0 then (f_L_lays_b43 n x2 q5.1 d q20) else (f_L_lays_b42 n x2 q5.1 d (jrem x2 (28 : Int32)))))))) else (some (q5.1, d, (1 : Int32))))
set_option maxRecDepth 100000 in
set_option maxHeartbeats 4000000 in
theorem ct_L_lays {E : zE} {l : Launch} {h0 : Hp} {x y : Nat} {n : Nat} {c : CS} {d : CS} {x2 : Int32} {r : (CS × CS × Int32)} (hap : x + 223 ≤ y ∨ y + 223 ≤ x) (hst : l.stackTraces = false) (hf : f_L_lays n c d x2 = some r) : zMK E l 17 32 yL_lays cL_lays 19 (some .boolean) [.ref x, .ref y, .int x2] (pC E (pC E h0 x c) y d) (some (.int r.2.2)) (pC E (pC E h0 x r.1) y r.2.1) := by
  refine zMK_of (lv := [(0, .ref x), (1, .ref y), (2, .int x2)]) (by decide +kernel) (Nat.le_of_ble_eq_true rfl) rfl (fun X hX C hR => ?_)
  subst hX
  replace C : zC E X RL cL_lays 19 (some .boolean) 17 := C
  have hR1 : 32 ≤ (xR X).cells := by rw [hR]; exact Nat.le_refl _
  have hR2 : 192 ≤ (xR X).slots := by rw [hR]; exact Nat.le_refl _
  obtain ⟨k, hk0⟩ : ∃ k : Nat, k = 0 := ⟨0, rfl⟩
  obtain ⟨n9, hn0⟩ : ∃ n9 : Nat, n9 = 0 := ⟨0, rfl⟩
  refine z_kn (k := k) (n := n9) hk0 hn0 ?_
  unfold f_L_lays at hf
  refine z_aload_n C dL_lays_0 0 rfl ?_
  refine z_iconst C (2 : Int32) dL_lays_1 (by decide) ?_
  refine z_iconst C (1 : Int32) dL_lays_2 (by decide) ?_
  refine z_iconst C (0 : Int32) dL_lays_3 (by decide) ?_
  refine z_iconst C (0 : Int32) dL_lays_4 (by decide) ?_
  obtain ⟨q5, hq5, hf⟩ := bd_some hf
  refine z_heap (pC_sw hap) ?_
  refine z_callK (K := 1) C 8 [.ref x, .int (2 : Int32), .int (1 : Int32), .int (0 : Int32), .int (0 : Int32)] [] (ct_L_call hst hq5) co_L_call ml_L_139 st_L_call ini_L ⟨by decide +kernel, by decide +kernel, by show _ = some 5; decide +kernel⟩ (by decide) (by decide) rfl (Nat.le_of_ble_eq_true rfl) ⟨by omega, by omega⟩ rfl dL_lays_5 ?_
  refine z_heap (pC_sw hap.symm) ?_
  refine z_iconst C (1 : Int32) dL_lays_8 (by decide) ?_
  refine z_icmp_eq C 14 dL_lays_9 (by decide) (fun c9 => ?_) (fun c9 => ?_)
  · replace hf := ip c9 hf
    refine z_iload_n C dL_lays_14 2 rfl ?_
    refine z_bipush C (28 : Int32) dL_lays_15 (by decide) ?_
    obtain ⟨c17, hf⟩ := chk_some hf
    refine z_irem C dL_lays_17 c17 ?_
    refine z_istore_n (lv' := [(3, .int (jrem x2 (28 : Int32))), (0, .ref x), (1, .ref y), (2, .int x2)]) C dL_lays_18 (by decide) rfl ?_
    refine z_aload_n C dL_lays_19 1 rfl ?_
    obtain ⟨q20, hq20, hf⟩ := bd_some hf
    refine z_heap (pC_sw hap) ?_
    refine iv_L_163 C [] [] (ct_X5_best hq20) pC_o rfl (by decide) rfl (Nat.le_of_ble_eq_true rfl) ⟨by omega, by omega⟩ dL_lays_20 ?_
    refine z_heap (pC_sw hap.symm) ?_
    refine z_istore (lv' := [(4, .int q20), (3, .int (jrem x2 (28 : Int32))), (0, .ref x), (1, .ref y), (2, .int x2)]) C dL_lays_23 (by decide) rfl ?_
    refine z_iload C dL_lays_25 0 rfl ?_
    refine z_iconst C (-1 : Int32) dL_lays_27 (by decide) ?_
    refine z_icmp_eq C 42 dL_lays_28 (by decide) (fun c28 => ?_) (fun c28 => ?_)
    · replace hf := ip c28 hf
      exact z_sub [2, 3, 4, 1] rfl (w_L_lays_b42 C hap hst hR1 hR2 ⟨by omega, by omega⟩ hf)
    · replace hf := iN c28 hf
      refine z_iload_n C dL_lays_31 4 rfl ?_
      refine z_iconst C (3 : Int32) dL_lays_32 (by decide) ?_
      obtain ⟨c33, hf⟩ := chk_some hf
      refine z_irem C dL_lays_33 c33 ?_
      refine z_if_ne C 42 dL_lays_34 (by decide) (fun c34 => ?_) (fun c34 => ?_)
      · replace hf := iN c34 hf
        exact z_sub [2, 3, 4, 1] rfl (w_L_lays_b42 C hap hst hR1 hR2 ⟨by omega, by omega⟩ hf)
      · replace hf := ip c34 hf
        refine z_iload C dL_lays_37 0 rfl ?_
        refine z_goto C 43 dL_lays_39 (by decide) ?_
        exact z_sub [2, 3, 4] rfl (w_L_lays_b43 C hap hst hR1 hR2 ⟨by omega, by omega⟩ hf)
  · replace hf := iN c9 hf
    refine z_iconst C (1 : Int32) dL_lays_12 (by decide) ?_
    obtain rfl := Option.some.inj hf
    exact z_zretK (R := (1 : Int32)) C (by decide) (by omega) (by omega) dL_lays_13 rfl
