/-! PURE LEVEL: errorPosition, load -/
theorem frM_TX (M : MS) (o p : Int32) (r s : Nat → Int32) : frM M (TX M o p r s) := ⟨fun i hi => by
  show upd (upd M.1 4 o) 3 p i = M.1 i
  rw [upd_ne (by omega), upd_ne (by omega)], fun j h1 h2 => by
  unfold TX MM
  rw [mA_ne _ h2, mA_ne _ (by omega)]
  rfl⟩
theorem text_both {n1 n2 : Nat} (hn1 : 250 < n1) (hn2 : 250 < n2) {T : TS} {M : MS} {L : Nat} (X : tX L T.2 M) (hT : T.1 = nI L) : ∃ o p r s e, f_X6_readText n2 M = some (TX M o p r s, e) ∧ f_X4_firstError n1 T = some e ∧ (¬ e = -1 ∨ (e = -1 ∧ ∀ G0 : GS, ∃ G', (∀ c0 : CS, c0.2.1 = T → c0.2.2 0 = newG G0 → f_X5_doCommandsOfText n1 c0 = some (cG c0 0 G', o)) ∧ VG G' 200 ∧ RG G' s)) := by
  have hL := X.l
  obtain ⟨g, hg, hgc⟩ := m_clear hn2 (M.2 2)
  have hM : mS (mS (mA M 2 g) 4 (0 : Int32)) 3 (0 : Int32) = TX M 0 0 (M.2 6) g := by
    rw [MM_in]
    rfl
  unfold f_X6_readText f_X4_firstError
  by_cases h0 : L = 0
  · refine ⟨0, 0, M.2 6, g, 0, ?_, ?_, Or.inl (by decide)⟩
    · refine bd_eq hg (ip_eq ?_ ?_)
      · show M.1 1 = 0
        rw [X.m1, h0]
        rfl
      · rw [hM]
    · refine bd_eq (v := 0) ?_ (in_eq (by decide) rfl)
      unfold f_X4_signAt
      refine in_eq (by decide) (ip_eq ?_ rfl)
      rw [hT, h0]
      decide
  · have hs := f_sign (i := 0) hT hL (by omega)
    have hne : ¬ (mS (mS (mA M 2 g) 4 (0 : Int32)) 3 (0 : Int32)).1 1 = 0 := fun q => by
      have q' : M.1 1 = 0 := q
      rw [X.m1] at q'
      exact nI_ne0 (by omega) (by omega) q'
    have h20 : (mS (mS (mA M 2 g) 4 (0 : Int32)) 3 (0 : Int32)).2 0 (0 : Int32).toNatClampNeg = T.2 0 := by
      rw [tnL_0]
      exact X.m0 0 (by omega)
    by_cases h78 : T.2 0 = 78
    · have key : ∀ G0 : GS, ∃ o p r s e, lo1 (f_X6_readText_h39 n2) n2 (TX M 0 (nI 1) (M.2 6) g) = some (TX M o p r s, e) ∧ lo2 (f_X4_firstError_h16 n1 T) n1 (nI 1) (nI 1) = some e ∧ (¬ e = -1 ∨ (e = -1 ∧ ∃ G', (∀ c0 : CS, c0.2.1 = T → c0.2.2 0 = newG G0 → lo4 (f_X5_doCommandsOfText_h6 n1) n1 c0 0 (nI 1) (nI 1) = some (cG c0 0 G', o)) ∧ VG G' (0 + 120) ∧ RG G' s)) := fun G0 =>
        read_all (by omega) (by omega) X hT 120 1 (by omega) (by omega) (newG G0) 0 0 (M.2 6) g n1 n2 n1 (new_VG G0) (by omega) (new_RG G0 hgc) (by omega) (by omega) (by omega)
      obtain ⟨o, p, r, s, e, q1, q2, q3⟩ := key GI
      refine ⟨o, p, r, s, e, ?_, ?_, ?_⟩
      · refine bd_eq hg (in_eq hne (ck_eq (by decide) (ip_eq (by rw [h20]; exact h78) ?_)))
        rw [hM, TX_3]
        exact q1
      · exact bd_eq hs (ip_eq h78 q2)
      · rcases q3 with q3 | ⟨q3, _⟩
        · exact Or.inl q3
        · refine Or.inr ⟨q3, fun G0 => ?_⟩
          obtain ⟨o9, p9, r9, s9, e9, z1, z2, z3⟩ := key G0
          have hz := Option.some.inj (z1.symm.trans q1)
          have ho : o9 = o := congrArg (fun v : MS × Int32 => v.1.1 4) hz
          have hs9 : s9 = s := congrArg (fun v : MS × Int32 => v.1.2 2) hz
          have he : e9 = e := congrArg (fun v : MS × Int32 => v.2) hz
          rcases z3 with z3 | ⟨_, G', w1, w2, w3⟩
          · exact absurd (he.trans q3) z3
          · exact ⟨G', fun c0 u1 u2 => by rw [← ho]; exact w1 c0 u1 u2, w2.le (by omega), by rw [← hs9]; exact w3⟩
    · refine ⟨0, 0, M.2 6, g, 0, ?_, ?_, Or.inl (by decide)⟩
      · refine bd_eq hg (in_eq hne (ck_eq (by decide) (in_eq (by rw [h20]; exact h78) ?_)))
        rw [hM]
      · exact bd_eq hs (in_eq h78 rfl)
theorem c_error {n B : Nat} (hn : 250 < n) {c : CS} {M : MS} (W : WR B c M) : ∃ M' b, f_X5_errorPosition n c = some b ∧ f_X6_errorPosition n M = some (M', b) ∧ WR (B + 1) c M' := by
  obtain ⟨L, X, eL⟩ := W.tx
  obtain ⟨o, p, r, s, e, q1, q2, q3⟩ := text_both hn hn (M := mS M 0 0) (X.fr rfl rfl) eL
  exact ⟨_, e, bd_eq q2 rfl, bd_eq q1 rfl, ((W.s0 0).fr (frC_rfl c) (frM_TX _ o p r s)).le (by omega)⟩
theorem c_load {n B : Nat} (hn : 250 < n) (hB : 200 ≤ B) {c : CS} {M : MS} (W : WR B c M) : Call (B + 1) (f_X5_load n c) (f_X6_load n M) [(0, 0), (2, 1)] := by
  obtain ⟨L, X, eL⟩ := W.tx
  obtain ⟨o, p, r, s, e, q1, q2, q3⟩ := text_both hn hn X eL
  have W1 := (W.fr (frC_rfl c) (frM_TX M o p r s)).le (show B ≤ B + 1 by omega)
  unfold f_X5_load f_X6_load f_X6_load_b18
  rcases q3 with q3 | ⟨rfl, q3⟩
  · exact ⟨2, 1, c, 0, mS (TX M o p r s) 0 1, bd_eq q2 (in_eq q3 rfl), bd_eq q1 (in_eq q3 (bd_eq (m_refused _ 1) rfl)), rfl, mem_2, W1.s0 1⟩
  · obtain ⟨G', w1, w2, w3⟩ := q3 (c.2.2 0)
    have hcp := m_copy (n := n) (N1 := 217) (N2 := 217) (a := 0) (b := 0) (by omega) (by omega) (by omega) (by omega) (by omega) s (M.2 1)
    refine ⟨0, 0, cG (cS (cS (cS (cS (cG c 0 (newG (c.2.2 0))) 0 0) 1 0) 2 0) 3 0) 0 G', o, mA (mS (mA (mS (TX M o p r s) 0 0) 1 (cpS s (M.2 1) 0 0 217)) 2 0) 5 (upd (upd (M.2 5) 0 0) 1 0), ?_, ?_, rfl, mem_1, ?_⟩
    · refine bd_eq q2 (ip_eq rfl (bd_eq (f_becomeNew (by omega) _) (bd_eq (v := cS (cS (cG c 0 (newG (c.2.2 0))) 0 0) 1 0) rfl (bd_eq (v := cS (cS (cS (cG c 0 (newG (c.2.2 0))) 0 0) 1 0) 2 0) rfl (bd_eq (v := cS (cS (cS (cS (cG c 0 (newG (c.2.2 0))) 0 0) 1 0) 2 0) 3 0) rfl (bd_eq (w1 _ rfl rfl) rfl))))))
    · refine bd_eq q1 (ip_eq rfl (bd_eq (m_refused _ 0) (ip_eq rfl (bd_eq hcp (ck_eq (by decide) ?_)))))
      unfold stt
      refine ck_eq (by decide) ?_
      rw [nar_0, tnL_0, tnL_1, mA_at, mA_mA]
      rfl
    · have W2 := W1.game' (G := G') (s := cpS s (M.2 1) 0 0 217) (Nat.le_refl _) (w2.le (by omega)) (w3.s w2 (fun i hi => by rw [cpS_0 hi, Nat.zero_add]))
      refine WR.mk ?_ ?_ ?_ ?_ ?_
      · obtain ⟨L2, X2, e2⟩ := W2.tx
        exact ⟨L2, X2.fr rfl rfl, e2⟩
      · rw [cG_at]
        exact w2.le (by omega)
      · rw [cG_at]
        exact w3.s w2 (fun i hi => by
          show cpS s (M.2 1) 0 0 217 i = s i
          rw [cpS_0 hi, Nat.zero_add])
      · exact ⟨0, 0, by omega, by omega, rfl, rfl, rfl, fun k hk => by omega⟩
      · intro i hi
        have hi' : i = 0 ∨ i = 1 := by omega
        rcases hi' with rfl | rfl
        · exact Or.inl ⟨rfl, rfl⟩
        · exact Or.inl ⟨rfl, rfl⟩
theorem c_legal {n B : Nat} (hn : 28 < n) {c : CS} {M : MS} (W : WR B c M) : ∃ M' b, f_X5_legal n c = some b ∧ f_X6_legal n M = some (M', b) ∧ WR (B + 1) c M' :=
  ⟨_, _, bd_eq (playable_eq hn hn W.g W.r) rfl, m_legal hn W.g W.r, refuse W 0⟩
theorem c_best {n B : Nat} (hn : 28 < n) {c : CS} {M : MS} (W : WR B c M) : ∃ M' b, f_X5_best n c = some b ∧ f_X6_best n M = some (M', b) ∧ WR (B + 1) c M' := by
  obtain ⟨r, h1, h2, h3⟩ := best_rs hn hn W.g W.r
  exact ⟨_, r, bd_eq h1 rfl, bd_eq h2 rfl, refuse W 0⟩
theorem c_script {n B : Nat} (hn : 250 < n) (hB : B < 2 ^ 20) {c : CS} {M : MS} (W : WR B c M) (x : Int32) (y : Int64) : Call (B + 1) (f_X5_runScript n c x y) (f_X6_runScript n M x y) [(0, 0), (1, 1)] := by
  obtain ⟨k, c', v, M', h1, h2, h3, h4, h5, h6⟩ := script_both hn hn W.g hB W.r x y
  rcases h3 with rfl | rfl
  · exact ⟨0, 0, c', v, M', h1, h2, h4, mem_1, (W.fr h5 h6).le (by omega)⟩
  · exact ⟨1, 1, c', v, M', h1, h2, h4, mem_2, (W.fr h5 h6).le (by omega)⟩
theorem c_simulate {n B : Nat} (hn : 250 < n) (hB : B < 2 ^ 20) {c : CS} {M : MS} (W : WR B c M) (y : Int64) (x : Int32) : Call (B + 1) (f_X5_simulate n c y x) (f_X6_simulate n M y x) [(0, 0), (1, 1)] := by
  obtain ⟨k, c', v, M', h1, h2, h3, h4, h5, h6⟩ := sim_both hn hn W.g hB W.r y x
  rcases h3 with rfl | rfl
  · exact ⟨0, 0, c', v, M', h1, h2, h4, mem_1, (W.fr h5 h6).le (by omega)⟩
  · exact ⟨1, 1, c', v, M', h1, h2, h4, mem_2, (W.fr h5 h6).le (by omega)⟩
