/-! PURE LEVEL: calls that act, or are refused -/
theorem isN_no {x : Int32} (h : x < nI 2 ∨ nI 4 < x) : f_X5_isNumberOfPlayers x = some 0 := by
  unfold f_X5_isNumberOfPlayers
  by_cases h9 : x < 2
  · exact ip_eq h9 rfl
  · exact in_eq h9 (ip_eq (h.resolve_left h9) rfl)
theorem isN_yes {P : Nat} (h2 : 2 ≤ P) (h4 : P ≤ 4) : f_X5_isNumberOfPlayers (nI P) = some 1 := by
  unfold f_X5_isNumberOfPlayers
  exact in_eq (nI_nlt (a := P) (b := 2) h2 (by omega)) (in_eq (nI_nlt (a := 4) (b := P) h4 (by omega)) rfl)
theorem e_append {n : Nat} {c : CS} {x z0 z1 : Int32} (h : x < 0 ∨ nI 255 < x) : f_L_call n c (0 : Int32) x z0 z1 = some (c, (-9999002 : Int32)) :=
  k_tryAppend_1 (v := 0) (by
    unfold f_X5_append f_X5_append_b11
    by_cases h9 : x < 0
    · exact ip_eq h9 rfl
    · exact in_eq h9 (in_eq (lt_nle (h.resolve_left h9)) rfl))
section ACT
variable {n B : Nat} {c : CS} {z0 z1 z2 : Int32}
theorem e_deals {x : Int32} {y : Int64} (h : x < nI 2 ∨ nI 4 < x) : f_L_deals n c x y = some (c, (-9999002 : Int32)) :=
  t_deals_1 (v := 0) (by
    unfold f_X5_deal
    exact bd_eq (isN_no h) (ip_eq rfl rfl))
theorem a_deals (hn : 28 < n) (hB : B < 2 ^ 20) (W : WI B c) {P : Nat} (h2 : 2 ≤ P) (h4 : P ≤ 4) (y : Int64) : ∃ c' v, f_L_deals n c (nI P) y = some (c', v) ∧ WI (B + 1) c' := by
  obtain ⟨c1, r1, W1, r4, _⟩ := f_remember W
  obtain ⟨H, r, h, g1, g2, g3, g4, g5⟩ := f_deal hn W1.g (by omega) h2 h4 y
  refine ⟨cG c1 0 H, H.1 0, t_deals_0 ?_, W1.game (by omega) g5 (XG.deal W1.g (by omega) W1.x g3 g2 h2 h4 g4)⟩
  unfold f_X5_deal
  exact bd_eq (isN_yes h2 h4) (in_eq (by decide) (bd_eq r1 (bd_eq g1 (bd_eq (v := H.1 0) rfl rfl))))
theorem e_plays_i {x lf : Int32} (h : x < 0 ∨ nI 27 < x) : f_L_plays n c x lf = some (c, (-9999001 : Int32)) :=
  t_plays_3 (v := 0) (by
    unfold f_X5_play
    exact bd_eq (tile_no h) (ip_eq rfl rfl))
theorem e_plays_s {t : Nat} {lf : Int32} (ht : t < 28) (hp : ¬ (c.2.2 0).1 3 = 1) : f_L_plays n c (nI t) lf = some (c, (-9999003 : Int32)) :=
  t_plays_2 (v := 0) (by
    unfold f_X5_play
    exact bd_eq (f_isTile_n ht) (in_eq (by decide) (bd_eq (v := 0) (f_isPlayed.trans (by rw [if_neg hp])) (ip_eq rfl rfl))))
/-- a tile is played -/
theorem a_plays (hn : 28 < n) (hB : B < 2 ^ 20) (W : WI B c) {t : Nat} (ht : t < 28) (hp : (c.2.2 0).1 3 = 1) (lf : Int32) : ∃ c1 H, f_L_plays n c (nI t) lf = some (cG c1 0 H, rsn (c.2.2 0) t) ∧ WI (B + 1) (cG c1 0 H) ∧ topP (cG c1 0 H) (c.2.2 0) ∧
    ((rsn (c.2.2 0) t = 0 ∧ ∃ K f w d a b a' b' P tt, layS (c.2.2 0) K t f w d a b a' b' P tt lf ∧ H = layF K P tt) ∨ (¬ rsn (c.2.2 0) t = 0 ∧ H = gS (c.2.2 0) 1 ((c.2.2 0).1 1 + 1))) := by
  obtain ⟨c1, r1, W1, r4, r5⟩ := f_remember W
  have Wg := W1.g
  have Wx := W1.x
  rw [r4] at Wg Wx
  have go : ∀ H v, f_X0_layOrRefuse n (c.2.2 0) (nI t) lf = some (H, v) → f_L_plays n c (nI t) lf = some (cG c1 0 H, v) := fun H v h => t_plays_0 (by
    unfold f_X5_play
    exact bd_eq (f_isTile_n ht) (in_eq (by decide) (bd_eq (v := 1) (f_isPlayed.trans (by rw [if_pos hp])) (in_eq (by decide) (bd_eq r1 (bd_eq (by rw [r4]; exact h) rfl))))))
  by_cases h0 : rsn (c.2.2 0) t = 0
  · obtain ⟨K, f, w, d, a, b, a', b', P, tt, S, h⟩ := f_play_yes hn Wg ht h0 lf
    refine ⟨c1, layF K P tt, ?_, W1.game (by omega) ((layF_VG Wg ht S).le (by omega)) (XG.lay Wg (by omega) Wx ht S), r5.game, Or.inl ⟨h0, K, f, w, d, a, b, a', b', P, tt, S, rfl⟩⟩
    rw [h0]
    exact go _ _ h
  · exact ⟨c1, _, go _ _ (f_play_no Wg ht h0 lf), W1.game (by omega) ((ref_VG Wg).le (by omega)) (XG.le (ref_VG Wg) (XG.ref Wg Wx _) (by omega)), r5.game, Or.inr ⟨h0, rfl⟩⟩
theorem a_draw (hB : B < 2 ^ 20) (W : WI B c) (hp : (c.2.2 0).1 3 = 1) (hb : hbG (c.2.2 0) < 28) : ∃ c' v, f_L_call n c (8 : Int32) z0 z1 z2 = some (c', v) ∧ WI (B + 1) c' := by
  have hcd := f_can_draw W.g
  rw [if_pos ⟨hp, hb⟩] at hcd
  obtain ⟨c1, r1, W1, r4, r5⟩ := f_remember W
  have Wg := W1.g
  have Wx := W1.x
  rw [r4] at Wg Wx
  obtain ⟨t, ht, e, h1, h2⟩ := Wg.he (hbG (c.2.2 0)) (Nat.le_refl _) hb
  have VD := draw_VG Wg hp hb ht e h2
  refine ⟨cG c1 0 (drwG (c.2.2 0) t), nI t, k_tryDraw_0 ?_, W1.game (by omega) (VD.le (by omega)) (XG.le VD (XG.draw Wg Wx hp hb ht e) (by omega))⟩
  unfold f_X5_draw
  exact bd_eq hcd (in_eq (by decide) (bd_eq r1 (bd_eq (by rw [r4]; exact f_draw Wg hp hb ht e) rfl)))
theorem e_draw (W : WI B c) (h : ¬ ((c.2.2 0).1 3 = 1 ∧ hbG (c.2.2 0) < 28)) : f_L_call n c (8 : Int32) z0 z1 z2 = some (c, (-9999003 : Int32)) :=
  k_tryDraw_2 (v := 0) (by
    have hcd := f_can_draw W.g
    rw [if_neg h] at hcd
    unfold f_X5_draw
    exact bd_eq hcd (ip_eq rfl rfl))
theorem a_pass (hn : 28 < n) (hB : B < 2 ^ 20) (W : WI B c) (hp : (c.2.2 0).1 3 = 1) (hb : hbG (c.2.2 0) = 28) : ∃ c' v, f_L_call n c (9 : Int32) z0 z1 z2 = some (c', v) ∧ WI (B + 1) c' := by
  have hcd := f_can_pass W.g
  rw [if_pos ⟨hp, hb⟩] at hcd
  obtain ⟨c1, r1, W1, r4, r5⟩ := f_remember W
  have Wg := W1.g
  have Wx := W1.x
  rw [r4] at Wg Wx
  obtain ⟨P, t, q, h1, h2, h3, h4, e1, e2, e3⟩ := Wg.pl hp
  have VP := pass_VG Wg h1 h2 h3 h4 e1 e2 e3
  refine ⟨cG c1 0 (passG (c.2.2 0) P t q), if q + 1 < P then 1 else 2, k_tryPass_0 ?_, W1.game (by omega) (VP.le (by omega)) (XG.pass Wg (by omega) Wx hp h1 h2 h3 h4 e1 e2 e3)⟩
  unfold f_X5_pass
  exact bd_eq hcd (in_eq (by decide) (bd_eq r1 (bd_eq (by rw [r4]; exact f_pass hn Wg hp hb h1 h2 h3 h4 e1 e2 e3) rfl)))
theorem e_pass (W : WI B c) (h : ¬ ((c.2.2 0).1 3 = 1 ∧ hbG (c.2.2 0) = 28)) : f_L_call n c (9 : Int32) z0 z1 z2 = some (c, (-9999003 : Int32)) :=
  k_tryPass_2 (v := 0) (by
    have hcd := f_can_pass W.g
    rw [if_neg h] at hcd
    unfold f_X5_pass
    exact bd_eq hcd (ip_eq rfl rfl))
theorem a_undo (W : WI B c) : ∃ c' v, f_L_call n c (10 : Int32) z0 z1 z2 = some (c', v) ∧ WI (B + 1) c' := by
  by_cases h : ∃ G, topP c G
  · obtain ⟨G, h⟩ := h
    obtain ⟨c', T, v, h1, h2, _, _⟩ := f_undo W h
    exact ⟨c', v, k_tryUndo_0 h1, h2.le (by omega)⟩
  · exact ⟨c, _, k_tryUndo_2 (f_undo_no W (fun G q => h ⟨G, q⟩)), W.le (by omega)⟩
theorem slot_rng (x : Int32) : (x < 0 ∨ nI 1 < x) ∨ ∃ i, i < 2 ∧ x = nI i := by
  rcases rng x 0 1 (by omega) (by omega) with h | h | ⟨t, _, h2, rfl⟩
  · exact Or.inl (Or.inl h)
  · exact Or.inl (Or.inr h)
  · exact Or.inr ⟨t, by omega, rfl⟩
theorem f_slotOf (c : CS) {i : Nat} (h : i < 2) : f_X5_slotOf c (nI i) = some i := by
  unfold f_X5_slotOf
  have h' : i = 0 ∨ i = 1 := by omega
  rcases h' with rfl | rfl
  · exact ip_eq rfl rfl
  · exact in_eq (by decide) rfl
theorem e_keep {x : Int32} (h : x < 0 ∨ nI 1 < x) : f_L_call n c (14 : Int32) x z0 z1 = some (c, (-9999001 : Int32)) :=
  k_tryKeep_3 (v := 0) (by
    unfold f_X5_save f_X5_save_b9
    by_cases h9 : x < 0
    · exact ip_eq h9 rfl
    · obtain ⟨m, hm, rfl⟩ := nI_of h9
      have := (nI_ltI (a := 1) (by omega) hm).mp (h.resolve_left h9)
      exact in_eq h9 (in_eq (nI_nlt (a := m) (b := 2) (by omega) hm) rfl))
theorem a_keep (W : WI B c) {i : Nat} (hi : i < 2) : ∃ c' v, f_L_call n c (14 : Int32) (nI i) z0 z1 = some (c', v) ∧ WI (B + 1) c' := by
  obtain ⟨T, h1, h2⟩ := becomeLike_eq (c.2.2 0) (c.2.2 (16 + i))
  have W1 := W.le (show B ≤ B + 1 by omega)
  have e0 : ∀ j, j ≠ 16 + i → (cG c (16 + i) T).2.2 j = c.2.2 j := fun j hj => if_neg hj
  refine ⟨cS (cG c (16 + i) T) (2 + i) 1, (c.2.2 0).1 0, k_tryKeep_0 ?_, ?_⟩
  · unfold f_X5_save
    refine in_eq (nI_pos (by omega)) (ip_eq ((nI_ltI (b := 2) (by omega) (by omega)).mpr hi) (bd_eq (f_slotOf c hi) (ck_eq (by omega) (bd_eq (v := cS (cG c (16 + i) T) (2 + i) 1) ?_ (bd_eq (v := (c.2.2 0).1 0) ?_ rfl)))))
    · unfold f_X3_keep
      exact ck_eq ⟨by omega, by omega, by omega⟩ (bd_eq h1 rfl)
    · show some (((cG c (16 + i) T).2.2 0).1 0) = _
      rw [e0 0 (by omega)]
  · refine WI.mk ?_ ?_ ?_ ?_
    · rw [show (cS (cG c (16 + i) T) (2 + i) 1).2.2 0 = c.2.2 0 from e0 0 (by omega)]
      exact W1.g
    · rw [show (cS (cG c (16 + i) T) (2 + i) 1).2.2 0 = c.2.2 0 from e0 0 (by omega)]
      exact W1.x
    · obtain ⟨bg, sz, a1, a2, a3, a4, a6⟩ := W1.hs
      refine ⟨bg, sz, a1, a2, by rw [cS_n _ (by omega)]; exact a3, by rw [cS_n _ (by omega)]; exact a4, fun k hk => ?_⟩
      rw [show (cS (cG c (16 + i) T) (2 + i) 1).2.2 (2 + (bg + k) % 14) = c.2.2 (2 + (bg + k) % 14) from e0 _ (by omega)]
      exact a6 k hk
    · intro j hj
      by_cases e : j = i
      · subst e
        refine Or.inr ⟨cS_1 _ _ _, ?_⟩
        rw [show (cS (cG c (16 + j) T) (2 + j) 1).2.2 (16 + j) = T from cG_at _ _ _]
        exact ⟨W1.g.eq h2, XG.eq W1.g W1.x h2⟩
      · rw [cS_n _ (by omega), show (cS (cG c (16 + i) T) (2 + i) 1).2.2 (16 + j) = c.2.2 (16 + j) from e0 _ (by omega)]
        exact W1.sl j hj
theorem e_back {x : Int32} (h : x < 0 ∨ nI 1 < x) : f_L_call n c (15 : Int32) x z0 z1 = some (c, (-9999001 : Int32)) :=
  k_tryBack_3 (v := 0) (by
    unfold f_X5_restore f_X5_restore_b9
    by_cases h9 : x < 0
    · exact ip_eq h9 rfl
    · obtain ⟨m, hm, rfl⟩ := nI_of h9
      have := (nI_ltI (a := 1) (by omega) hm).mp (h.resolve_left h9)
      exact in_eq h9 (in_eq (nI_nlt (a := m) (b := 2) (by omega) hm) rfl))
theorem a_back (W : WI B c) {i : Nat} (hi : i < 2) : ∃ c' v, f_L_call n c (15 : Int32) (nI i) z0 z1 = some (c', v) ∧ WI (B + 1) c' := by
  have W1 := W.le (show B ≤ B + 1 by omega)
  have hpos : ¬ nI i < 0 := nI_pos (by omega)
  have hlt : nI i < (2 : Int32) := (nI_ltI (b := 2) (by omega) (by omega)).mpr hi
  rcases W1.sl i hi with h0 | ⟨h0, Vk, Xk⟩
  · refine ⟨c, _, k_tryBack_2 (v := 0) ?_, W1⟩
    unfold f_X5_restore
    refine in_eq hpos (ip_eq hlt (bd_eq (f_slotOf c hi) (ck_eq (by omega) (bd_eq (v := 0) ?_ (ip_eq rfl rfl)))))
    unfold f_X3_isFull
    exact ck_eq (Or.inl h0) (congrArg some h0)
  · obtain ⟨T, h1, h2⟩ := becomeLike_eq (c.2.2 (16 + i)) (c.2.2 0)
    refine ⟨cS (cS (cG c 0 T) 0 0) 1 0, T.1 0, k_tryBack_0 ?_, ?_⟩
    · unfold f_X5_restore
      refine in_eq hpos (ip_eq hlt (bd_eq (f_slotOf c hi) (ck_eq (by omega) (bd_eq (v := 1) ?_ (in_eq (by decide) (bd_eq (f_slotOf c hi) (ck_eq (by omega) (bd_eq (v := cG c 0 T) ?_ (bd_eq (v := cS (cS (cG c 0 T) 0 0) 1 0) rfl (bd_eq (v := T.1 0) rfl rfl))))))))))
      · unfold f_X3_isFull
        exact ck_eq (Or.inr h0) (congrArg some h0)
      · unfold f_X3_giveBack
        exact ck_eq ⟨by omega, by omega, by omega⟩ (bd_eq h1 rfl)
    · have W2 := W1.game (G := T) (Nat.le_refl _) (Vk.eq h2) (XG.eq Vk Xk h2)
      refine WI.mk W2.g W2.x ⟨0, 0, by omega, by omega, ?_, cS_1 _ _ _, fun k hk => by omega⟩ (fun j hj => ?_)
      · rw [cS_n _ (by omega), cS_1]
        rfl
      · rw [cS_n _ (by omega), cS_n _ (by omega)]
        exact W2.sl j hj
/-! scripts and simulations -/
theorem e_script_0 {x : Int32} {y : Int64} (h : x < nI 1) : f_L_doScript n c x y = some (c, (-9999002 : Int32)) :=
  t_doScript_1 (v := 0) (by
    unfold f_X5_runScript f_X5_runScript_b10
    exact ip_eq h rfl)
theorem e_sim {x : Int32} {y : Int64} (h : nI 200 < x) : f_L_doSimulate n c y x = some (c, (-9999002 : Int32)) :=
  t_doSimulate_1 (v := 0) (by
    have h0 := lt0_of (u := 200) (by omega) h
    obtain ⟨m, hm, rfl⟩ := nI_of h0
    have := (nI_ltI (a := 200) (by omega) hm).mp h
    unfold f_X5_simulate f_X5_simulate_b12
    exact in_eq (fun q => by
      have := (gtL_1 hm).mp q
      omega) (in_eq (lt_nle h) rfl))
theorem a_sim (hn : 250 < n) (hB : B < 2 ^ 20) (W : WI B c) (y : Int64) {m : Nat} (h1 : 1 ≤ m) (h2 : m ≤ 200) : ∃ c' v, f_L_doSimulate n c y (nI m) = some (c', v) ∧ WI B c' ∧ c'.2.2 0 = c.2.2 0 := by
  obtain ⟨T, v, h⟩ := f_sim hn W.g hB y h1 h2
  exact ⟨cG c 1 T, v, t_doSimulate_0 h, W.fr (frC_G c T), rfl⟩
end ACT
