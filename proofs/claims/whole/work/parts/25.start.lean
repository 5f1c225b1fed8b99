/-! THE LAW FROM ITS FIRST INSTRUCTION -/
set_option maxRecDepth 100000 in
set_option maxHeartbeats 4000000 in
theorem law_walk {E : zE} {X : zX} {ret : Option FieldType} {b L n1 n2 : Nat} {sc : Nat → Int32} {Q : State → Prop} {G0 : GS} {s0 : Nat → Int32} (C : zC E X RL cL_law 7 ret 17) (hst : (xl X).stackTraces = false) (hAO : va_AO "SpiralDominoes$Game" (xs X)) (hsz : (xs X).heap.size = zN E) (hroom : 746 ≤ (xR X).cells ∧ 11860 ≤ (xR X).slots) (G : zG9 E X b L sc) (hL : L ≤ 2048)
    (hG : f_X0_becomeNew n1 GI = some G0) (hM : f_X6_clear n2 (fun _ => 0) = some s0) (R : Nat → CS → MS → Prop) (hR0 : R 0 (cI0 G0) (mA MI 1 s0)) (hR : ∀ j c M o op a1 a2 a3, j < 512 → R j c M → ∃ c' M' o', Agree op a1 a2 a3 c M o c' M' o' ∧ R (j + 1) c' M')
    (K : ∀ o M c i, zW E X 7 746 11860 Q 1498 (wL E o M c) (lwv E b i) []) : zW E X 7 0 0 Q 0 hNil [(0, .ref b)] [] := by
  obtain ⟨hr1, hr2⟩ := hroom
  refine z_new (ci := 5) C [.null, .null, .null, .null, .null, .null] inX5 tyX5 tyX5_ok kl_L_8 ib_X5 ini_X5 rfl (by decide +kernel) (Or.inl rfl) ⟨by omega, by omega⟩ dL_law_0 (zN E) (by omega) ?_
  refine z_dup C dL_law_3 rfl ?_
  refine z_callI (sz := zN E + 1) C hAO [] [.ref (zN E)] (ct_X5_init (x := zN E) hG) (by omega) (Or.inr ⟨.inr (5, [.null, .null, .null, .null, .null, .null]), by rw [hsz]; simp [hup]⟩) co_X5_init ml_L_81 im_X5_init ini_X5 rfl ⟨by decide +kernel, by decide +kernel, by decide +kernel⟩ (by decide) (by decide) rfl (Nat.le_of_ble_eq_true rfl) ⟨by omega, by omega⟩ dL_law_4 ?_
  refine z_astore_n C dL_law_7 (by decide) rfl ?_
  refine z_new (ci := 6) C [.int 0, .null, .int 0, .null, .null, .null, .int 0, .null, .null, .null, .null, .null, .int 0, .int 0] inX6 tyX6 tyX6_ok kl_L_82 ib_X6 ini_X6 rfl (by decide +kernel) (Or.inr ⟨_, by rw [hsz]; exact pC_at (k := 222) rfl⟩) ⟨by omega, by omega⟩ dL_law_8 (zN E + 223) (by omega) ?_
  refine z_dup C dL_law_11 rfl ?_
  refine z_callI (sz := zN E + 223 + 1) C hAO [] [.ref (zN E + 223)] (ct_X6_init (m := zN E + 223) hM) (by omega) (Or.inr ⟨.inr (6, [.int 0, .null, .int 0, .null, .null, .null, .int 0, .null, .null, .null, .null, .null, .int 0, .int 0]), by rw [hsz]; simp [hup]⟩) co_X6_init ml_L_84 im_X6_init ini_X6 rfl ⟨by decide +kernel, by decide +kernel, by decide +kernel⟩ (by decide) (by decide) rfl (Nat.le_of_ble_eq_true rfl) ⟨by omega, by omega⟩ dL_law_12 ?_
  refine z_astore_n C dL_law_15 (by decide) rfl ?_
  refine z_iconst C (1 : Int32) dL_law_16 (by decide) ?_
  refine z_newa (atype := .long) (ty := .long) (t0 := 2) C (1, .inr (.inl (fun _ => 0))) rfl ac_long rfl (fun q => q) rfl (by decide) (by decide) (by decide) (Or.inr ⟨_, by rw [hsz]; exact pM_a8⟩) ⟨by omega, by omega⟩ dL_law_17 (zN E + 233) (by omega) ?_
  refine z_heap (h' := wL E (fun _ => 0) (mA MI 1 s0) (cI0 G0)) (by rw [pM_hup (Or.inr (Nat.le_refl _)), pC_hup (Or.inr (by omega)), wL_M]; rfl) ?_
  refine z_astore_n C dL_law_19 (by decide) rfl ?_
  refine z_iconst C (nI (4 * 0)) dL_law_20 (by decide +kernel) ?_
  refine z_istore C dL_law_21 (by decide) rfl ?_
  refine z_sub [4, 3, 2, 1, 0] rfl ?_
  exact law_loop (k0 := 234) (n0 := 8788) C hst G hL ⟨hr1, hr2⟩ R hR K 512 0 _ _ _ rfl hR0
