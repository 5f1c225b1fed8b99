/-! PURE LEVEL: calls that act -/
theorem WR.s0 {B : Nat} {c : CS} {M : MS} (W : WR B c M) (v : Int32) : WR B c (mS M 0 v) := W.fr (frC_rfl c) (frM_S M v)
theorem refuse {B : Nat} {c : CS} {M : MS} (W : WR B c M) (v : Int32) : WR (B + 1) c (mS M 0 v) := (W.s0 v).le (by omega)
theorem c_append {B : Nat} {c : CS} {M : MS} (W : WR B c M) (x : Int32) : Call (B + 1) (f_X5_append c x) (f_X6_append M x) [(0, 0), (1, 1), (2, 2)] := by
  have hin := m_inL x 0 255 0 255 (by decide) (by decide)
  obtain ⟨L, X, eL⟩ := W.tx
  have hL := X.l
  unfold f_X5_append f_X5_append_b11 f_X6_append f_X6_append_b31
  rcases rng x 0 255 (by omega) (by omega) with h | h | ⟨ch, _, h2, rfl⟩
  · have h' : x < 0 := h
    rw [if_pos (Or.inl h')] at hin
    exact ⟨1, 1, c, 0, mS M 0 1, ip_eq h' rfl, bd_eq hin (ip_eq rfl (bd_eq (m_refused M 1) rfl)), rfl, mem_2, refuse W 1⟩
  · have h' : 255 < x := h
    rw [if_pos (Or.inr h')] at hin
    refine ⟨1, 1, c, 0, mS M 0 1, ?_, bd_eq hin (ip_eq rfl (bd_eq (m_refused M 1) rfl)), rfl, mem_2, refuse W 1⟩
    by_cases h9 : x < 0
    · exact ip_eq h9 rfl
    · exact in_eq h9 (in_eq (lt_nle h') rfl)
  · rw [if_neg (show ¬ (_ < (0 : Int32) ∨ (255 : Int32) < _) from in_yes (l := 0) (u := 255) (by omega) (by omega) h2 (by omega))] at hin
    have hle : nI ch ≤ (255 : Int32) := (nI_leI (b := 255) (by omega) (by omega)).mpr h2
    by_cases hf : L = 120
    · have hfull : f_X4_isFull c.2.1 = some 1 := by
        unfold f_X4_isFull
        refine in_eq ?_ rfl
        rw [eL, hf]
        decide
      refine ⟨2, 2, c, 0, mS M 0 2, in_eq (nI_pos (by omega)) (ip_eq hle (bd_eq hfull (in_eq (by decide) rfl))), bd_eq hin (in_eq (by decide) (ip_eq ?_ (bd_eq (m_refused M 2) rfl))), rfl, mem_3, refuse W 2⟩
      rw [X.m1, hf]
      rfl
    · have hfull : f_X4_isFull c.2.1 = some 0 := by
        unfold f_X4_isFull
        refine ip_eq ?_ rfl
        rw [eL]
        exact nI_lt (a := L) (b := 120) (by omega) (by omega)
      have hadd : f_X4_add c.2.1 (nI ch) = some ((nI (L + 1), upd c.2.1.2 L (nI ch)), nI (L + 1)) := by
        unfold f_X4_add f_X4_add_b36 stt
        refine in_eq (by rw [eL]; exact nI_pos (by omega)) (in_eq (by rw [eL]; exact nI_ge (a := L) (b := 120) (by omega) (by omega)) (ck_eq (by rw [eL]; exact in_n (by omega) (by omega)) ?_))
        rw [eL, nI_1, nI_clamp (by omega)]
      refine ⟨0, 0, cT c (nI (L + 1), upd c.2.1.2 L (nI ch)), nI (L + 1), mS (mA (mS M 0 0) 0 (upd (M.2 0) L (nI ch))) 1 (nI (L + 1)), in_eq (nI_pos (by omega)) (ip_eq hle (bd_eq hfull (ip_eq rfl (bd_eq hadd rfl)))), bd_eq hin (in_eq (by decide) (in_eq (fun q => hf ?_) (bd_eq (m_refused M 0) (ip_eq rfl (ck_eq ?_ ?_))))), rfl, mem_1, ?_⟩
      · rw [X.m1] at q
        exact nI_inj (a := L) (b := 120) (by omega) (by omega) q
      · show inB (M.1 1) 120
        rw [X.m1]
        exact in_n (by omega) (by omega)
      · unfold stt
        show some (mS (mA (mS M 0 0) 0 (upd (M.2 0) (M.1 1).toNatClampNeg (nI ch))) 1 (M.1 1 + 1), M.1 1 + 1) = _
        rw [X.m1, nI_1, nI_clamp (by omega)]
      · have W1 := W.le (show B ≤ B + 1 by omega)
        refine WR.mk ⟨L + 1, ?_, rfl⟩ W1.g W1.r W1.hs W1.sl
        refine tX.mk (by omega) rfl (fun i hi => ?_) (fun i hi => ?_)
        · show upd (M.2 0) L (nI ch) i = upd c.2.1.2 L (nI ch) i
          by_cases e : i = L
          · rw [upd_eq e, upd_eq e]
          · rw [upd_ne e, upd_ne e]
            exact X.m0 i (by omega)
        · show ∃ v, v < 256 ∧ upd c.2.1.2 L (nI ch) i = nI v
          by_cases e : i = L
          · exact ⟨ch, by omega, upd_eq e⟩
          · rw [upd_ne e]
            exact X.ch i (by omega)
theorem c_clear {B : Nat} {c : CS} {M : MS} (W : WR B c M) : ∃ c' M' b, f_X5_clearText c = some (c', b) ∧ f_X6_clearText M = some (M', b) ∧ WR (B + 1) c' M' := by
  obtain ⟨L, X, eL⟩ := W.tx
  have W1 := W.le (show B ≤ B + 1 by omega)
  refine ⟨cT c (0, c.2.1.2), mS (mS M 0 0) 1 0, nI L, ?_, ?_, ?_⟩
  · unfold f_X5_clearText f_X4_becomeEmpty
    rw [eL]
    rfl
  · unfold f_X6_clearText
    rw [show (mS M 0 0).1 1 = nI L from X.m1]
  · refine WR.mk ⟨0, tX.mk (by omega) rfl (fun i hi => by omega) (fun i hi => by omega), rfl⟩ W1.g W1.r W1.hs W1.sl
theorem isN_rng (x : Int32) : (f_X5_isNumberOfPlayers x = some 0 ∧ f_X6_in x.toInt64 2 4 = some 0) ∨ ∃ P, 2 ≤ P ∧ P ≤ 4 ∧ x = nI P ∧ f_X5_isNumberOfPlayers x = some 1 ∧ f_X6_in x.toInt64 2 4 = some 1 := by
  have hin := m_inL x 2 4 2 4 (by decide) (by decide)
  unfold f_X5_isNumberOfPlayers
  rcases rng x 2 4 (by omega) (by omega) with h | h | ⟨P, h1, h2, rfl⟩
  · have h' : x < 2 := h
    rw [if_pos (Or.inl h')] at hin
    exact Or.inl ⟨ip_eq h' rfl, hin⟩
  · have h' : 4 < x := h
    rw [if_pos (Or.inr h')] at hin
    refine Or.inl ⟨?_, hin⟩
    by_cases h9 : x < 2
    · exact ip_eq h9 rfl
    · exact in_eq h9 (ip_eq h' rfl)
  · have hy := in_yes (l := 2) (u := 4) (m := P) (by omega) h1 h2 (by omega)
    rw [if_neg (show ¬ (_ < (2 : Int32) ∨ (4 : Int32) < _) from hy)] at hin
    exact Or.inr ⟨P, h1, h2, rfl, in_eq (fun z => hy (Or.inl z)) (in_eq (fun z => hy (Or.inr z)) rfl), hin⟩
theorem c_deal {n B : Nat} (hn : 3000 < n) (hB : B < 2 ^ 20) {c : CS} {M : MS} (W : WR B c M) (x : Int32) (y : Int64) : Call (B + 1) (f_X5_deal n c x y) (f_X6_deal n M x y) [(0, 0), (1, 1)] := by
  unfold f_X5_deal f_X6_deal f_X6_deal_b20
  rcases isN_rng x with ⟨q1, q2⟩ | ⟨P, h1, h2, rfl, q1, q2⟩
  · exact ⟨1, 1, c, 0, mS M 0 1, bd_eq q1 (ip_eq rfl rfl), bd_eq q2 (ip_eq rfl (bd_eq (m_refused M 1) rfl)), rfl, mem_2, refuse W 1⟩
  · obtain ⟨c1, M1, r1, r2, W1, r4, r5, r6⟩ := rem_both hn (W.s0 0)
    obtain ⟨H, s', r', g1, g2, g3, g4, g5⟩ := deal_both (n1 := n) (n2 := n) (by omega) (by omega) W1.g (by omega) (j := 1) (by omega) W1.r h1 h2 y
    refine ⟨0, 0, cG c1 0 H, H.1 0, mA (mA M1 6 r') 1 s', ?_, ?_, r6, mem_1, W1.game (by omega) g3 g4⟩
    · exact bd_eq q1 (in_eq (by decide) (bd_eq r1 (bd_eq g1 (bd_eq (v := H.1 0) rfl rfl))))
    · exact bd_eq q2 (in_eq (by decide) (bd_eq (m_refused M 0) (ip_eq rfl (bd_eq r2 (bd_eq g2 rfl)))))
theorem c_play {n B : Nat} (hn : 3000 < n) {c : CS} {M : MS} (W : WR B c M) (x lf : Int32) : Call (B + 1) (f_X5_play n c x lf) (f_X6_play n M x lf) [(0, 0), (3, 1), (2, 2)] := by
  unfold f_X5_play f_X6_play f_X6_play_b27
  rcases tile_rng x with hx | ⟨t, ht, rfl⟩
  · obtain ⟨q1, q2⟩ := tile_no hx
    exact ⟨3, 1, c, 0, mS M 0 1, bd_eq q1 (ip_eq rfl rfl), bd_eq q2 (ip_eq rfl (bd_eq (m_refused M 1) rfl)), rfl, mem_2, refuse W 1⟩
  · obtain ⟨q1, q2⟩ := tile_yes ht
    by_cases hp : (c.2.2 0).1 3 = 1
    · obtain ⟨c1, M1, r1, r2, W1, r4, r5, r6⟩ := rem_both hn (W.s0 0)
      obtain ⟨H, s', r, g1, g2, g3, g4, g5, g6⟩ := play_both (n1 := n) (n2 := n) (by omega) (by omega) W1.g W1.r (by rw [r4]; exact hp) ht lf
      refine ⟨0, 0, cG c1 0 H, r, mA M1 1 s', ?_, ?_, r6, mem_1, W1.game' (by omega) (g3.le (by omega)) g4⟩
      · exact bd_eq q1 (in_eq (by decide) (bd_eq (v := 1) (f_isPlayed.trans (by rw [if_pos hp])) (in_eq (by decide) (bd_eq r1 (bd_eq g1 rfl)))))
      · exact bd_eq q2 (in_eq (by decide) (ck_eq (by decide) (ip_eq (by rw [tnL_1]; exact W.r.r1.trans hp) (bd_eq (m_refused M 0) (ip_eq rfl (bd_eq r2 (bd_eq g2 rfl)))))))
    · refine ⟨2, 2, c, 0, mS M 0 2, bd_eq q1 (in_eq (by decide) (bd_eq (v := 0) (f_isPlayed.trans (by rw [if_neg hp])) (ip_eq rfl rfl))), bd_eq q2 (in_eq (by decide) (ck_eq (by decide) (in_eq (by rw [tnL_1]; exact fun z => hp (W.r.r1.symm.trans z)) (bd_eq (m_refused M 2) rfl)))), rfl, mem_3, refuse W 2⟩
theorem c_draw {n B : Nat} (hn : 3000 < n) {c : CS} {M : MS} (W : WR B c M) : Call (B + 1) (f_X5_draw c) (f_X6_draw n M) [(0, 0), (2, 1)] := by
  have hcd := can_draw W.g W.r
  unfold f_X5_draw f_X6_draw f_X6_draw_b16
  by_cases hb : (c.2.2 0).1 3 = 1 ∧ hbG (c.2.2 0) < 28
  · rw [if_pos hb] at hcd
    obtain ⟨c1, M1, r1, r2, W1, r4, r5, r6⟩ := rem_both hn (W.s0 0)
    obtain ⟨H, s', t, g1, g2, g3, g4, g5, g6⟩ := draw_both (n2 := n) (by omega) W1.g W1.r (by rw [r4]; exact hb.1) (by rw [r4]; exact hb.2)
    exact ⟨0, 0, cG c1 0 H, nI t, mA M1 1 s', bd_eq hcd.1 (in_eq (by decide) (bd_eq r1 (bd_eq g1 rfl))), bd_eq hcd.2 (in_eq (by decide) (bd_eq (m_refused M 0) (ip_eq rfl (bd_eq r2 (bd_eq g2 rfl))))), r6, mem_1, W1.game' (by omega) (g3.le (by omega)) g4⟩
  · rw [if_neg hb] at hcd
    exact ⟨2, 1, c, 0, mS M 0 1, bd_eq hcd.1 (ip_eq rfl rfl), bd_eq hcd.2 (ip_eq rfl (bd_eq (m_refused M 1) rfl)), rfl, mem_2, refuse W 1⟩
theorem c_pass {n B : Nat} (hn : 3000 < n) {c : CS} {M : MS} (W : WR B c M) : Call (B + 1) (f_X5_pass n c) (f_X6_pass n M) [(0, 0), (2, 1)] := by
  have hcd := can_pass W.g W.r
  unfold f_X5_pass f_X6_pass f_X6_pass_b16
  by_cases hb : (c.2.2 0).1 3 = 1 ∧ hbG (c.2.2 0) = 28
  · rw [if_pos hb] at hcd
    obtain ⟨c1, M1, r1, r2, W1, r4, r5, r6⟩ := rem_both hn (W.s0 0)
    obtain ⟨H, s', v, g1, g2, g3, g4, g5, g6⟩ := pass_both (n1 := n) (n2 := n) (by omega) (by omega) W1.g W1.r (by rw [r4]; exact hb.1) (by rw [r4]; exact hb.2)
    exact ⟨0, 0, cG c1 0 H, v, mA M1 1 s', bd_eq hcd.1 (in_eq (by decide) (bd_eq r1 (bd_eq g1 rfl))), bd_eq hcd.2 (in_eq (by decide) (bd_eq (m_refused M 0) (ip_eq rfl (bd_eq r2 (bd_eq g2 rfl))))), r6, mem_1, W1.game' (by omega) (g3.le (by omega)) g4⟩
  · rw [if_neg hb] at hcd
    exact ⟨2, 1, c, 0, mS M 0 1, bd_eq hcd.1 (ip_eq rfl rfl), bd_eq hcd.2 (ip_eq rfl (bd_eq (m_refused M 1) rfl)), rfl, mem_2, refuse W 1⟩
theorem c_undo {n B : Nat} (hn : 3000 < n) {c : CS} {M : MS} (W : WR B c M) : Call (B + 1) (f_X5_undo c) (f_X6_undo n M) [(0, 0), (2, 1)] := by
  obtain ⟨bg, sz, a1, a2, a3, a4, a5, a6⟩ := W.hs
  unfold f_X5_undo f_X6_undo f_X6_undo_b13
  by_cases hz : sz = 0
  · refine ⟨2, 1, c, 0, mS M 0 1, bd_eq (v := c.1 1) rfl (ip_eq (by rw [a4, hz]; rfl) rfl), ip_eq (by rw [a5, hz]; rfl) (bd_eq (m_refused M 1) rfl), rfl, mem_2, refuse W 1⟩
  · obtain ⟨k, rfl⟩ : ∃ k, sz = k + 1 := ⟨sz - 1, by omega⟩
    have hn0 : ¬ nI (k + 1) = 0 := nI_ne0 (by omega) (by omega)
    have W1 := W.le (show B ≤ B + 1 by omega)
    have e1 : c.1 1 - (1 : Int32) = nI k := by rw [a4, suL_1 (by omega), Nat.add_sub_cancel]
    have e2 : M.1 2 - (1 : Int32) = nI k := by rw [a5, suL_1 (by omega), Nat.add_sub_cancel]
    obtain ⟨T, h1, h2⟩ := becomeLike_eq (c.2.2 (2 + (bg + k) % 14)) (c.2.2 0)
    obtain ⟨Vk, Rk⟩ := a6 k (by omega)
    have hst : f_X1_stateOf (cS c 1 (nI k)) (nI k) = some (some (2 + (bg + k) % 14)) := f_stateOf a1 (by omega) (by rw [cS_n _ (by omega)]; exact a3)
    have hcp := m_copy (n := n) (N1 := 3038) (N2 := 217) (a := 217 * k) (b := 0) (by omega) (by omega) (by omega) (by omega) (by omega) (M.2 3) (M.2 1)
    refine ⟨0, 0, cG (cS c 1 (nI k)) 0 T, nI k, mA (mS (mS M 0 0) 2 (nI k)) 1 (cpS (M.2 3) (M.2 1) (217 * k) 0 217), ?_, ?_, rfl, mem_1, ?_⟩
    · refine bd_eq (v := c.1 1) rfl (in_eq (by rw [a4]; exact hn0) (bd_eq (v := (cG (cS c 1 (nI k)) 0 T, nI k)) ?_ rfl))
      unfold f_X1_takeBack f_X1_takeBack_b35
      refine in_eq (by rw [a4]; exact nI_nle (by omega) (by omega)) ?_
      rw [e1]
      refine bd_eq (v := some (2 + (bg + k) % 14)) (by rw [cS_1]; exact hst) ?_
      refine ck_eq ⟨by omega, by omega, by omega⟩ (bd_eq h1 ?_)
      rw [show (cG (cS c 1 (nI k)) 0 T).1 1 = nI k from cS_1 c 1 _]
    · refine in_eq (by rw [a5]; exact hn0) (bd_eq (m_refused M 0) (ip_eq rfl ?_))
      show (f_X6_copyState n 3038 217 (M.2 3) (M.2 1) (217 * (mS (mS M 0 0) 2 (M.1 2 - 1)).1 2) 0).bind _ = _
      rw [e2, show (mS (mS M 0 0) 2 (nI k)).1 2 = nI k from rfl, muL_217]
      refine bd_eq hcp ?_
      show some (mA (mS (mS M 0 0) 2 (M.1 2 - 1)) 1 _, (mA (mS (mS M 0 0) 2 (M.1 2 - 1)) 1 _).1 2) = _
      rw [e2]
      rfl
    · have W2 := W1.game' (G := T) (s := cpS (M.2 3) (M.2 1) (217 * k) 0 217) (Nat.le_refl _) ((Vk.eq h2).le (by omega)) (Rk.eq Vk h2 (fun i hi => by rw [cpS_0 hi]))
      refine WR.mk ?_ W2.g W2.r ?_ (fun i hi => by
        rw [show (cG (cS c 1 (nI k)) 0 T).1 (2 + i) = (cG c 0 T).1 (2 + i) from upd_ne (by omega)]
        exact W2.sl i hi)
      · obtain ⟨L, X, e⟩ := W2.tx
        exact ⟨L, X.fr rfl rfl, e⟩
      · refine ⟨bg, k, a1, by omega, by show (cS c 1 (nI k)).1 0 = _; rw [cS_n _ (by omega)]; exact a3, cS_1 c 1 _, rfl, fun j hj => ?_⟩
        obtain ⟨v1, v2⟩ := a6 j (by omega)
        rw [show (cG (cS c 1 (nI k)) 0 T).2.2 (2 + (bg + j) % 14) = c.2.2 (2 + (bg + j) % 14) from if_neg (by omega)]
        exact ⟨v1.le (by omega), v2⟩
theorem nar_1 : vp_nar .boolean (1 : Int32) = 1 := by decide
theorem nar_0 : vp_nar .boolean (0 : Int32) = 0 := by decide
theorem slot_rng (x : Int32) : (x < 0 ∨ 1 < x) ∨ ∃ i, i < 2 ∧ x = nI i := by
  rcases rng x 0 1 (by omega) (by omega) with h | h | ⟨t, _, h2, rfl⟩
  · exact Or.inl (Or.inl h)
  · exact Or.inl (Or.inr h)
  · exact Or.inr ⟨t, by omega, rfl⟩
theorem f_slotOf (c : CS) {i : Nat} (h : i < 2) : f_X5_slotOf c (nI i) = some i := by
  unfold f_X5_slotOf
  have h' : i = 0 ∨ i = 1 := by omega
  rcases h' with rfl | rfl
  · exact ip_eq rfl rfl
  · exact in_eq (by decide) rfl
theorem c_save {n B : Nat} (hn : 3000 < n) {c : CS} {M : MS} (W : WR B c M) (x : Int32) : Call (B + 1) (f_X5_save c x) (f_X6_save n M x) [(0, 0), (3, 1)] := by
  have hin := m_inL x 0 1 0 1 (by decide) (by decide)
  unfold f_X5_save f_X5_save_b9 f_X6_save f_X6_save_b16
  rcases slot_rng x with h | ⟨i, hi, rfl⟩
  · rw [if_pos h] at hin
    refine ⟨3, 1, c, 0, mS M 0 1, ?_, bd_eq hin (ip_eq rfl (bd_eq (m_refused M 1) rfl)), rfl, mem_2, refuse W 1⟩
    by_cases h9 : x < 0
    · exact ip_eq h9 rfl
    · obtain ⟨m, hm, rfl⟩ := nI_of h9
      have := (nI_ltI (a := 1) (by omega) hm).mp (h.resolve_left h9)
      exact in_eq h9 (in_eq (nI_nlt (a := m) (b := 2) (by omega) hm) rfl)
  · rw [if_neg (show ¬ (_ < (0 : Int32) ∨ (1 : Int32) < _) from in_yes (l := 0) (u := 1) (by omega) (by omega) (by omega) (by omega))] at hin
    obtain ⟨T, h1, h2⟩ := becomeLike_eq (c.2.2 0) (c.2.2 (16 + i))
    have W1 := W.le (show B ≤ B + 1 by omega)
    have hcp := m_copy (n := n) (N1 := 217) (N2 := 434) (a := 0) (b := 217 * i) (by omega) (by omega) (by omega) (by omega) (by omega) (M.2 1) (M.2 4)
    have e0 : ∀ j, j ≠ 16 + i → (cG c (16 + i) T).2.2 j = c.2.2 j := fun j hj => if_neg hj
    refine ⟨0, 0, cS (cG c (16 + i) T) (2 + i) 1, (c.2.2 0).1 0, mA (mA (mS M 0 0) 4 (cpS (M.2 1) (M.2 4) 0 (217 * i) 217)) 5 (upd (M.2 5) i 1), ?_, ?_, rfl, mem_1, ?_⟩
    · refine in_eq (nI_pos (by omega)) (ip_eq ((nI_ltI (b := 2) (by omega) (by omega)).mpr hi) (bd_eq (f_slotOf c hi) (ck_eq (by omega) (bd_eq (v := cS (cG c (16 + i) T) (2 + i) 1) ?_ (bd_eq (v := (c.2.2 0).1 0) ?_ rfl)))))
      · unfold f_X3_keep
        exact ck_eq ⟨by omega, by omega, by omega⟩ (bd_eq h1 rfl)
      · show some (((cG c (16 + i) T).2.2 0).1 0) = _
        rw [e0 0 (by omega)]
    · refine bd_eq hin (in_eq (by decide) (bd_eq (m_refused M 0) (ip_eq rfl ?_)))
      rw [muL_217]
      refine bd_eq hcp (ck_eq (in_n hi (by omega)) ?_)
      unfold stt
      refine ck_eq (by decide) ?_
      rw [nar_1, nI_clamp (by omega), tnL_0, mA_ne _ (show (5 : Nat) ≠ 4 by omega), mA_ne _ (show (1 : Nat) ≠ 5 by omega), mA_ne _ (show (1 : Nat) ≠ 4 by omega)]
      exact congrArg (fun z => some (_, z)) W.r.r0
    · refine WR.mk ?_ ?_ ?_ ?_ ?_
      · obtain ⟨L, X, e⟩ := W1.tx
        exact ⟨L, X.fr rfl rfl, e⟩
      · rw [show (cS (cG c (16 + i) T) (2 + i) 1).2.2 0 = c.2.2 0 from e0 0 (by omega)]
        exact W1.g
      · rw [show (cS (cG c (16 + i) T) (2 + i) 1).2.2 0 = c.2.2 0 from e0 0 (by omega)]
        exact W1.r
      · obtain ⟨bg, sz, a1, a2, a3, a4, a5, a6⟩ := W1.hs
        refine ⟨bg, sz, a1, a2, by rw [cS_n _ (by omega)]; exact a3, by rw [cS_n _ (by omega)]; exact a4, a5, fun k hk => ?_⟩
        rw [show (cS (cG c (16 + i) T) (2 + i) 1).2.2 (2 + (bg + k) % 14) = c.2.2 (2 + (bg + k) % 14) from e0 _ (by omega)]
        exact a6 k hk
      · intro j hj
        by_cases e : j = i
        · subst e
          refine Or.inr ⟨cS_1 _ _ _, upd_eq rfl, ?_, ?_⟩
          · rw [show (cS (cG c (16 + j) T) (2 + j) 1).2.2 (16 + j) = T from cG_at c _ T]
            exact (W.g.eq h2).le (by omega)
          · rw [show (cS (cG c (16 + j) T) (2 + j) 1).2.2 (16 + j) = T from cG_at c _ T]
            refine W.r.eq W.g h2 (fun k hk => ?_)
            show cpS (M.2 1) (M.2 4) 0 (217 * j) 217 (217 * j + k) = _
            rw [cpS_in hk, Nat.zero_add]
        · rw [cS_n _ (show 2 + j ≠ 2 + i by omega), show (cS (cG c (16 + i) T) (2 + i) 1).2.2 (16 + j) = c.2.2 (16 + j) from e0 _ (by omega)]
          have h5 : (mA (mA (mS M 0 0) 4 (cpS (M.2 1) (M.2 4) 0 (217 * i) 217)) 5 (upd (M.2 5) i 1)).2 5 j = M.2 5 j := by
            show upd (M.2 5) i 1 j = _
            rw [upd_ne e]
          rw [h5]
          rcases W1.sl j hj with q | ⟨q1, q2, q3, q4⟩
          · exact Or.inl q
          · refine Or.inr ⟨q1, q2, q3, q4.s q3 (fun k hk => ?_)⟩
            show cpS (M.2 1) (M.2 4) 0 (217 * i) 217 (217 * j + k) = M.2 4 (217 * j + k)
            rw [cpS_out (by omega)]
theorem c_restore {n B : Nat} (hn : 3000 < n) {c : CS} {M : MS} (W : WR B c M) (x : Int32) : Call (B + 1) (f_X5_restore c x) (f_X6_restore n M x) [(0, 0), (3, 1), (2, 2)] := by
  have hin := m_inL x 0 1 0 1 (by decide) (by decide)
  unfold f_X5_restore f_X5_restore_b9 f_X6_restore f_X6_restore_b29
  rcases slot_rng x with h | ⟨i, hi, rfl⟩
  · rw [if_pos h] at hin
    refine ⟨3, 1, c, 0, mS M 0 1, ?_, bd_eq hin (ip_eq rfl (bd_eq (m_refused M 1) rfl)), rfl, mem_2, refuse W 1⟩
    by_cases h9 : x < 0
    · exact ip_eq h9 rfl
    · obtain ⟨m, hm, rfl⟩ := nI_of h9
      have := (nI_ltI (a := 1) (by omega) hm).mp (h.resolve_left h9)
      exact in_eq h9 (in_eq (nI_nlt (a := m) (b := 2) (by omega) hm) rfl)
  · rw [if_neg (show ¬ (_ < (0 : Int32) ∨ (1 : Int32) < _) from in_yes (l := 0) (u := 1) (by omega) (by omega) (by omega) (by omega))] at hin
    have c1 : ¬ nI i < 0 := nI_pos (by omega)
    have c2 : nI i < (2 : Int32) := (nI_ltI (b := 2) (by omega) (by omega)).mpr hi
    rcases W.sl i hi with ⟨s1, s2⟩ | ⟨s1, s2, s3, s4⟩
    · have hfull : f_X3_isFull i c = some 0 := by
        unfold f_X3_isFull
        refine ck_eq (Or.inl s1) ?_
        rw [s1]
      refine ⟨2, 2, c, 0, mS M 0 2, in_eq c1 (ip_eq c2 (bd_eq (f_slotOf c hi) (ck_eq (by omega) (bd_eq hfull (ip_eq rfl rfl))))), bd_eq hin (in_eq (by decide) (ck_eq (in_n hi (by omega)) (ip_eq ?_ (bd_eq (m_refused M 2) rfl)))), rfl, mem_3, refuse W 2⟩
      rw [nI_clamp (by omega)]
      exact s2
    · have hfull : f_X3_isFull i c = some 1 := by
        unfold f_X3_isFull
        refine ck_eq (Or.inr s1) ?_
        rw [s1]
      obtain ⟨T, h1, h2⟩ := becomeLike_eq (c.2.2 (16 + i)) (c.2.2 0)
      have W1 := W.le (show B ≤ B + 1 by omega)
      have hcp := m_copy (n := n) (N1 := 434) (N2 := 217) (a := 217 * i) (b := 0) (by omega) (by omega) (by omega) (by omega) (by omega) (M.2 4) (M.2 1)
      have RT : RG T (cpS (M.2 4) (M.2 1) (217 * i) 0 217) := s4.eq s3 h2 (fun k hk => by rw [cpS_0 hk])
      refine ⟨0, 0, cS (cS (cG c 0 T) 0 0) 1 0, T.1 0, mS (mA (mS M 0 0) 1 (cpS (M.2 4) (M.2 1) (217 * i) 0 217)) 2 0, ?_, ?_, rfl, mem_1, ?_⟩
      · refine in_eq c1 (ip_eq c2 (bd_eq (f_slotOf c hi) (ck_eq (by omega) (bd_eq hfull (in_eq (by decide) (bd_eq (f_slotOf c hi) (ck_eq (by omega) (bd_eq (v := cG c 0 T) ?_ (bd_eq (v := cS (cS (cG c 0 T) 0 0) 1 0) rfl (bd_eq (v := T.1 0) rfl rfl))))))))))
        unfold f_X3_giveBack
        exact ck_eq ⟨by omega, by omega, by omega⟩ (bd_eq h1 rfl)
      · refine bd_eq hin (in_eq (by decide) (ck_eq (in_n hi (by omega)) (in_eq ?_ (bd_eq (m_refused M 0) (ip_eq rfl ?_)))))
        · rw [nI_clamp (by omega), s2]
          decide
        · rw [muL_217]
          refine bd_eq hcp (ck_eq (by decide) ?_)
          rw [tnL_0]
          exact congrArg (fun z => some (_, z)) RT.r0
      · have W2 := W1.game' (G := T) (s := cpS (M.2 4) (M.2 1) (217 * i) 0 217) (Nat.le_refl _) ((s3.eq h2).le (by omega)) RT
        refine WR.mk ?_ W2.g W2.r ?_ ?_
        · obtain ⟨L, X, e⟩ := W2.tx
          exact ⟨L, X.fr rfl rfl, e⟩
        · exact ⟨0, 0, by omega, by omega, rfl, rfl, rfl, fun k hk => by omega⟩
        · intro j hj
          rw [show (cS (cS (cG c 0 T) 0 0) 1 0).1 (2 + j) = c.1 (2 + j) by rw [cS_n _ (by omega), cS_n _ (by omega)]; rfl]
          exact W2.sl j hj
