/-! PURE LEVEL: calls that only look -/
theorem lt0_of {x : Int32} {u : Nat} (hu : u < 2 ^ 31) (h : nI u < x) : ¬ x < 0 := fun q => by
  have h1 := Int32.lt_iff_toInt_lt.mp h
  have h2 := Int32.lt_iff_toInt_lt.mp q
  rw [nI_toInt hu] at h1
  have : (0 : Int32).toInt = 0 := by decide
  omega
theorem about_v {n B w : Nat} {c : CS} {z0 z1 v : Int32} (W : WI B c) (hw : w ≤ 11) (h : f_X0_numberOfGame n (c.2.2 0) (nI w) = some v) : f_L_call n c (2 : Int32) (nI w) z0 z1 = some (c, v) :=
  k_tryAbout_0 (v := v) (by
    unfold f_X5_about
    exact in_eq (nI_pos (by omega)) (ip_eq ((geL_11 (by omega)).mpr hw) (bd_eq h rfl)))
section AB
variable {n B : Nat} {c : CS} {z0 z1 : Int32}
theorem ab_0 (W : WI B c) : f_L_call n c (2 : Int32) (0 : Int32) z0 z1 = some (c, (c.2.2 0).1 0) := about_v (w := 0) W (by omega) (ip_eq rfl rfl)
theorem ab_1 (W : WI B c) : f_L_call n c (2 : Int32) (1 : Int32) z0 z1 = some (c, (c.2.2 0).1 3) := about_v (w := 1) W (by omega) (in_eq (by decide) (ip_eq rfl rfl))
theorem ab_2 (W : WI B c) : f_L_call n c (2 : Int32) (2 : Int32) z0 z1 = some (c, (c.2.2 0).1 4) := about_v (w := 2) W (by omega) (in_eq (by decide) (in_eq (by decide) (ip_eq rfl rfl)))
theorem ab_3 (W : WI B c) : f_L_call n c (2 : Int32) (3 : Int32) z0 z1 = some (c, if (c.2.2 0).1 3 = 1 then (c.2.2 0).1 5 else -1) := about_v (w := 3) W (by omega) (in_eq (by decide) (in_eq (by decide) (in_eq (by decide) (ip_eq rfl (bd_eq (v := if (c.2.2 0).1 3 = 1 then (c.2.2 0).1 5 else -1) (by
  by_cases hp : (c.2.2 0).1 3 = 1
  · rw [if_pos hp]
    exact bd_eq f_isPlayed (by rw [if_pos hp]; rfl)
  · rw [if_neg hp]
    exact bd_eq f_isPlayed (by rw [if_neg hp]; rfl)) rfl)))))
theorem ab_4 (W : WI B c) : f_L_call n c (2 : Int32) (4 : Int32) z0 z1 = some (c, nI (28 - hbG (c.2.2 0))) := about_v (w := 4) W (by omega) (in_eq (by decide) (in_eq (by decide) (in_eq (by decide) (in_eq (by decide) (ip_eq rfl (bd_eq (v := nI (28 - hbG (c.2.2 0))) (by unfold f_X0_heapSize; rw [W.g.hb, slL_28 W.g.hb28]) rfl))))))
theorem ab_5 (W : WI B c) : f_L_call n c (2 : Int32) (5 : Int32) z0 z1 = some (c, nI (szG (c.2.2 0))) := about_v (w := 5) W (by omega) (in_eq (by decide) (in_eq (by decide) (in_eq (by decide) (in_eq (by decide) (in_eq (by decide) (ip_eq rfl (bd_eq (v := nI (szG (c.2.2 0))) (congrArg some W.g.sz) rfl)))))))
theorem ab_6 (W : WI B c) : f_L_call n c (2 : Int32) (6 : Int32) z0 z1 = some (c, (c.2.2 0).2.1 1) := about_v (w := 6) W (by omega) (in_eq (by decide) (in_eq (by decide) (in_eq (by decide) (in_eq (by decide) (in_eq (by decide) (in_eq (by decide) (ip_eq rfl (bd_eq (v := (c.2.2 0).2.1 1) rfl rfl))))))))
theorem ab_7 (W : WI B c) : f_L_call n c (2 : Int32) (7 : Int32) z0 z1 = some (c, (c.2.2 0).2.1 2) := about_v (w := 7) W (by omega) (in_eq (by decide) (in_eq (by decide) (in_eq (by decide) (in_eq (by decide) (in_eq (by decide) (in_eq (by decide) (in_eq (by decide) (ip_eq rfl (bd_eq (v := (c.2.2 0).2.1 2) rfl rfl)))))))))
theorem ab_8 (W : WI B c) : f_L_call n c (2 : Int32) (8 : Int32) z0 z1 = some (c, (c.2.2 0).1 6) := about_v (w := 8) W (by omega) (in_eq (by decide) (in_eq (by decide) (in_eq (by decide) (in_eq (by decide) (in_eq (by decide) (in_eq (by decide) (in_eq (by decide) (in_eq (by decide) (ip_eq rfl rfl)))))))))
theorem ab_9 (hn : 28 < n) (W : WI B c) : f_L_call n c (2 : Int32) (9 : Int32) z0 z1 = some (c, nI (pipT (c.2.2 0) (szG (c.2.2 0)))) := about_v (w := 9) W (by omega) (in_eq (by decide) (in_eq (by decide) (in_eq (by decide) (in_eq (by decide) (in_eq (by decide) (in_eq (by decide) (in_eq (by decide) (in_eq (by decide) (in_eq (by decide) (ip_eq rfl (bd_eq (f_pips hn W.g) rfl)))))))))))
theorem ab_10 (W : WI B c) : f_L_call n c (2 : Int32) (10 : Int32) z0 z1 = some (c, (c.2.2 0).1 1) := about_v (w := 10) W (by omega) (in_eq (by decide) (in_eq (by decide) (in_eq (by decide) (in_eq (by decide) (in_eq (by decide) (in_eq (by decide) (in_eq (by decide) (in_eq (by decide) (in_eq (by decide) (in_eq (by decide) (ip_eq rfl rfl)))))))))))
theorem ab_11 (W : WI B c) : f_L_call n c (2 : Int32) (11 : Int32) z0 z1 = some (c, (c.2.2 0).1 2) := about_v (w := 11) W (by omega) (in_eq (by decide) (in_eq (by decide) (in_eq (by decide) (in_eq (by decide) (in_eq (by decide) (in_eq (by decide) (in_eq (by decide) (in_eq (by decide) (in_eq (by decide) (in_eq (by decide) (in_eq (by decide) rfl)))))))))))
theorem e_about {x : Int32} (h : x < 0 ∨ nI 11 < x) : f_L_call n c (2 : Int32) x z0 z1 = some (c, (-9999002 : Int32)) :=
  k_tryAbout_1 (v := 0) (by
    unfold f_X5_about f_X5_about_b10
    by_cases h9 : x < 0
    · exact ip_eq h9 rfl
    · exact in_eq h9 (in_eq (lt_nle (h.resolve_left h9)) rfl))
theorem look_about (hn : 28 < n) (W : WI B c) (x : Int32) : ∃ v, f_L_call n c (2 : Int32) x z0 z1 = some (c, v) := by
  rcases rng x 0 11 (by omega) (by omega) with h | h | ⟨w, _, hw, rfl⟩
  · exact ⟨_, e_about (Or.inl h)⟩
  · exact ⟨_, e_about (Or.inr h)⟩
  · match w, hw with
    | 0, _ => exact ⟨_, ab_0 W⟩
    | 1, _ => exact ⟨_, ab_1 W⟩
    | 2, _ => exact ⟨_, ab_2 W⟩
    | 3, _ => exact ⟨_, ab_3 W⟩
    | 4, _ => exact ⟨_, ab_4 W⟩
    | 5, _ => exact ⟨_, ab_5 W⟩
    | 6, _ => exact ⟨_, ab_6 W⟩
    | 7, _ => exact ⟨_, ab_7 W⟩
    | 8, _ => exact ⟨_, ab_8 W⟩
    | 9, _ => exact ⟨_, ab_9 hn W⟩
    | 10, _ => exact ⟨_, ab_10 W⟩
    | 11, _ => exact ⟨_, ab_11 W⟩
end AB
/-! tiles -/
theorem tile_no {x : Int32} (h : x < 0 ∨ nI 27 < x) : f_X5_isTile x = some 0 := by
  unfold f_X5_isTile
  by_cases h1 : x < 0
  · exact ip_eq h1 rfl
  · obtain ⟨m, hm, rfl⟩ := nI_of h1
    have := (nI_ltI (a := 27) (by omega) hm).mp (h.resolve_left h1)
    exact in_eq h1 (ip_eq ((leL_28 hm).mpr (by omega)) rfl)
theorem tile_rng (x : Int32) : (x < 0 ∨ nI 27 < x) ∨ ∃ t, t < 28 ∧ x = nI t := by
  rcases rng x 0 27 (by omega) (by omega) with h | h | ⟨t, _, h2, rfl⟩
  · exact Or.inl (Or.inl h)
  · exact Or.inl (Or.inr h)
  · exact Or.inr ⟨t, by omega, rfl⟩
section TI
variable {n B t w : Nat} {c : CS} {z0 z1 v : Int32}
theorem tile_v (ht : t < 28) (hw : w ≤ 4) (h : f_X0_numberOfTile n (c.2.2 0) (nI t) (nI w) = some v) : f_L_call n c (3 : Int32) (nI t) (nI w) z0 = some (c, v) :=
  k_tryTile_0 (v := v) (by
    unfold f_X5_tileOf
    exact bd_eq (f_isTile_n ht) (in_eq (by decide) (in_eq (nI_pos (by omega)) (ip_eq ((geL_4 (by omega)).mpr hw) (bd_eq h rfl)))))
theorem e_tile_i {x y : Int32} (h : x < 0 ∨ nI 27 < x) : f_L_call n c (3 : Int32) x y z0 = some (c, (-9999001 : Int32)) :=
  k_tryTile_3 (v := 0) (by
    unfold f_X5_tileOf
    exact bd_eq (tile_no h) (ip_eq rfl rfl))
theorem e_tile_a {y : Int32} (ht : t < 28) (h : y < 0 ∨ nI 4 < y) : f_L_call n c (3 : Int32) (nI t) y z0 = some (c, (-9999002 : Int32)) :=
  k_tryTile_1 (v := 0) (by
    unfold f_X5_tileOf f_X5_tileOf_b26
    refine bd_eq (f_isTile_n ht) (in_eq (by decide) ?_)
    by_cases h9 : y < 0
    · exact ip_eq h9 rfl
    · exact in_eq h9 (in_eq (lt_nle (h.resolve_left h9)) rfl))
theorem look_tile (hn : 28 < n) (W : WI B c) (x y : Int32) : ∃ v, f_L_call n c (3 : Int32) x y z0 = some (c, v) := by
  rcases tile_rng x with h | ⟨t, ht, rfl⟩
  · exact ⟨_, e_tile_i h⟩
  · rcases rng y 0 4 (by omega) (by omega) with h | h | ⟨w, _, hw, rfl⟩
    · exact ⟨_, e_tile_a ht (Or.inl h)⟩
    · exact ⟨_, e_tile_a ht (Or.inr h)⟩
    · obtain ⟨q0, q1, q2, ⟨r3, q3, _⟩, ⟨r4, q4, _⟩⟩ := f_tile hn W.g ht
      match w, hw with
      | 0, _ => exact ⟨_, tile_v (w := 0) ht (by omega) q0⟩
      | 1, _ => exact ⟨_, tile_v (w := 1) ht (by omega) q1⟩
      | 2, _ => exact ⟨_, tile_v (w := 2) ht (by omega) q2⟩
      | 3, _ => exact ⟨_, tile_v (w := 3) ht (by omega) q3⟩
      | 4, _ => exact ⟨_, tile_v (w := 4) ht (by omega) q4⟩
theorem why_v (W : WI B c) (ht : t < 28) : f_L_call n c (11 : Int32) (nI t) z0 z1 = some (c, rsn (c.2.2 0) t) :=
  k_tryWhy_0 (by
    unfold f_X5_why
    exact bd_eq (f_isTile_n ht) (in_eq (by decide) (bd_eq (f_reason W.g ht).1 rfl)))
theorem e_why {x : Int32} (h : x < 0 ∨ nI 27 < x) : f_L_call n c (11 : Int32) x z0 z1 = some (c, (-9999001 : Int32)) :=
  k_tryWhy_3 (v := 0) (by
    unfold f_X5_why
    exact bd_eq (tile_no h) (ip_eq rfl rfl))
/-! the table -/
theorem laid_v (W : WI B c) (ht : t < szG (c.2.2 0)) (hw : w ≤ 5) (h : f_X2_numberOfPlace (c.2.2 0) (nI t) (nI w) = some v) : f_L_call n c (4 : Int32) (nI t) (nI w) z0 = some (c, v) :=
  k_tryLaid_0 (v := v) (by
    have h28 := W.g.sz28
    unfold f_X5_laid
    exact in_eq (nI_pos (by omega)) (bd_eq (v := ()) rfl (bd_eq (v := nI (szG (c.2.2 0))) (congrArg some W.g.sz) (ip_eq ((nI_ltI (by omega) (by omega)).mpr ht) (in_eq (nI_pos (by omega)) (ip_eq ((geL_5 (by omega)).mpr hw) (bd_eq (v := ()) rfl (bd_eq h rfl))))))))
theorem e_laid_i {x y : Int32} (W : WI B c) (h : x < 0 ∨ nI (szG (c.2.2 0)) ≤ x) : f_L_call n c (4 : Int32) x y z0 = some (c, (-9999001 : Int32)) :=
  k_tryLaid_3 (v := 0) (by
    have h28 := W.g.sz28
    unfold f_X5_laid f_X5_laid_b18
    by_cases h9 : x < 0
    · exact ip_eq h9 rfl
    · refine in_eq h9 (bd_eq (v := ()) rfl (bd_eq (v := nI (szG (c.2.2 0))) (congrArg some W.g.sz) (in_eq (fun q => ?_) rfl)))
      have h1 := Int32.le_iff_toInt_le.mp (h.resolve_left h9)
      have h2 := Int32.lt_iff_toInt_lt.mp q
      omega)
theorem e_laid_a {y : Int32} (W : WI B c) (ht : t < szG (c.2.2 0)) (h : y < 0 ∨ nI 5 < y) : f_L_call n c (4 : Int32) (nI t) y z0 = some (c, (-9999002 : Int32)) :=
  k_tryLaid_1 (v := 0) (by
    have h28 := W.g.sz28
    unfold f_X5_laid f_X5_laid_b37
    refine in_eq (nI_pos (by omega)) (bd_eq (v := ()) rfl (bd_eq (v := nI (szG (c.2.2 0))) (congrArg some W.g.sz) (ip_eq ((nI_ltI (by omega) (by omega)).mpr ht) ?_)))
    by_cases h9 : y < 0
    · exact ip_eq h9 rfl
    · exact in_eq h9 (in_eq (lt_nle (h.resolve_left h9)) rfl))
theorem look_laid (W : WI B c) (x y : Int32) : ∃ v, f_L_call n c (4 : Int32) x y z0 = some (c, v) := by
  have h28 := W.g.sz28
  by_cases h0 : x < 0
  · exact ⟨_, e_laid_i W (Or.inl h0)⟩
  · obtain ⟨k, hk, rfl⟩ := nI_of h0
    by_cases hk2 : szG (c.2.2 0) ≤ k
    · exact ⟨_, e_laid_i W (Or.inr (nI_le hk2 hk))⟩
    · rcases rng y 0 5 (by omega) (by omega) with h | h | ⟨w, _, hw, rfl⟩
      · exact ⟨_, e_laid_a W (Nat.not_le.mp hk2) (Or.inl h)⟩
      · exact ⟨_, e_laid_a W (Nat.not_le.mp hk2) (Or.inr h)⟩
      · obtain ⟨q0, q1, q2, q3, q4, q5⟩ := f_laid W.g (Nat.not_le.mp hk2)
        match w, hw with
        | 0, _ => exact ⟨_, laid_v (w := 0) W (Nat.not_le.mp hk2) (by omega) q0⟩
        | 1, _ => exact ⟨_, laid_v (w := 1) W (Nat.not_le.mp hk2) (by omega) q1⟩
        | 2, _ => exact ⟨_, laid_v (w := 2) W (Nat.not_le.mp hk2) (by omega) q2⟩
        | 3, _ => exact ⟨_, laid_v (w := 3) W (Nat.not_le.mp hk2) (by omega) q3⟩
        | 4, _ => exact ⟨_, laid_v (w := 4) W (Nat.not_le.mp hk2) (by omega) q4⟩
        | 5, _ => exact ⟨_, laid_v (w := 5) W (Nat.not_le.mp hk2) (by omega) q5⟩
end TI
/-! players -/
theorem player_no {x : Int32} (h : x < 0 ∨ nI 3 < x) : f_X5_isPlayer x = some 0 := by
  unfold f_X5_isPlayer
  by_cases h1 : x < 0
  · exact ip_eq h1 rfl
  · obtain ⟨m, hm, rfl⟩ := nI_of h1
    have := (nI_ltI (a := 3) (by omega) hm).mp (h.resolve_left h1)
    exact in_eq h1 (ip_eq ((leL_4 hm).mpr (by omega)) rfl)
theorem player_rng (x : Int32) : (x < 0 ∨ nI 3 < x) ∨ ∃ p, p < 4 ∧ x = nI p := by
  rcases rng x 0 3 (by omega) (by omega) with h | h | ⟨t, _, h2, rfl⟩
  · exact Or.inl (Or.inl h)
  · exact Or.inl (Or.inr h)
  · exact Or.inr ⟨t, by omega, rfl⟩
section PL
variable {n B p w : Nat} {c : CS} {z0 z1 v : Int32}
theorem player_v (hp : p < 4) (hw : w ≤ 3) (h : f_X0_numberOfPlayer n (c.2.2 0) (nI p) (nI w) = some v) : f_L_call n c (5 : Int32) (nI p) (nI w) z0 = some (c, v) :=
  k_tryPlayer_0 (v := v) (by
    unfold f_X5_playerOf
    exact bd_eq (f_isPlayer_n hp) (in_eq (by decide) (in_eq (nI_pos (by omega)) (ip_eq ((geL_3 (by omega)).mpr hw) (bd_eq h rfl)))))
theorem pl_0 (hn : 28 < n) (hp : p < 4) : f_L_call n c (5 : Int32) (nI p) (0 : Int32) z0 = some (c, nI (cntH ((c.2.2 0).2.2 1) (nI p) 28)) := player_v (w := 0) hp (by omega) (by
  unfold f_X0_numberOfPlayer
  exact bd_eq (f_isPlayer_n hp) (in_eq (by decide) (ip_eq rfl (bd_eq (f_tilesOf hn _ _) rfl))))
theorem pl_1 (hn : 28 < n) (hp : p < 4) : f_L_call n c (5 : Int32) (nI p) (1 : Int32) z0 = some (c, nI (pipH ((c.2.2 0).2.2 1) (nI p) 28)) := player_v (w := 1) hp (by omega) (by
  unfold f_X0_numberOfPlayer
  exact bd_eq (f_isPlayer_n hp) (in_eq (by decide) (in_eq (by decide) (ip_eq rfl (bd_eq (f_pipsOf hn _ _) rfl)))))
theorem pl_2 (hp : p < 4) : f_L_call n c (5 : Int32) (nI p) (2 : Int32) z0 = some (c, (c.2.2 0).2.2 2 p) := player_v (w := 2) hp (by omega) (by
  unfold f_X0_numberOfPlayer
  exact bd_eq (f_isPlayer_n hp) (in_eq (by decide) (in_eq (by decide) (in_eq (by decide) (ip_eq rfl (ck_eq (in_n hp (by omega)) (by rw [nI_clamp (by omega)])))))))
theorem pl_3 (hp : p < 4) : f_L_call n c (5 : Int32) (nI p) (3 : Int32) z0 = some (c, (c.2.2 0).2.2 3 p) := player_v (w := 3) hp (by omega) (by
  unfold f_X0_numberOfPlayer
  exact bd_eq (f_isPlayer_n hp) (in_eq (by decide) (in_eq (by decide) (in_eq (by decide) (in_eq (by decide) (ck_eq (in_n hp (by omega)) (by rw [nI_clamp (by omega)])))))))
theorem e_player_i {x y : Int32} (h : x < 0 ∨ nI 3 < x) : f_L_call n c (5 : Int32) x y z0 = some (c, (-9999001 : Int32)) :=
  k_tryPlayer_3 (v := 0) (by
    unfold f_X5_playerOf
    exact bd_eq (player_no h) (ip_eq rfl rfl))
theorem e_player_a {y : Int32} (hp : p < 4) (h : y < 0 ∨ nI 3 < y) : f_L_call n c (5 : Int32) (nI p) y z0 = some (c, (-9999002 : Int32)) :=
  k_tryPlayer_1 (v := 0) (by
    unfold f_X5_playerOf f_X5_playerOf_b26
    refine bd_eq (f_isPlayer_n hp) (in_eq (by decide) ?_)
    by_cases h9 : y < 0
    · exact ip_eq h9 rfl
    · exact in_eq h9 (in_eq (lt_nle (h.resolve_left h9)) rfl))
theorem look_player (hn : 28 < n) (x y : Int32) : ∃ v, f_L_call n c (5 : Int32) x y z0 = some (c, v) := by
  rcases player_rng x with h | ⟨p, hp, rfl⟩
  · exact ⟨_, e_player_i h⟩
  · rcases rng y 0 3 (by omega) (by omega) with h | h | ⟨w, _, hw, rfl⟩
    · exact ⟨_, e_player_a hp (Or.inl h)⟩
    · exact ⟨_, e_player_a hp (Or.inr h)⟩
    · match w, hw with
      | 0, _ => exact ⟨_, pl_0 hn hp⟩
      | 1, _ => exact ⟨_, pl_1 hn hp⟩
      | 2, _ => exact ⟨_, pl_2 hp⟩
      | 3, _ => exact ⟨_, pl_3 hp⟩
theorem chain_v {m : Nat} (hn : 28 < n) (W : WI B c) (hp : p < 4) (hm : m < 6) : f_L_call n c (12 : Int32) (nI p) (nI (m + 1)) z0 = some (c, if (c.2.2 0).1 3 = 1 then nI (cl (m + 1) (hnd (c.2.2 0) (nI p)) ((c.2.2 0).2.1 1)) else 0) :=
  k_tryChain_0 (by
    unfold f_X5_chain
    exact bd_eq (f_isPlayer_n hp) (in_eq (by decide) (in_eq (fun q => by
      have := (gtL_1 (j := m + 1) (by omega)).mp q
      omega) (ip_eq ((geL_6 (by omega)).mpr (by omega)) (bd_eq (f_longest hn W.g (nI p) hm) rfl)))))
theorem e_chain_i {x y : Int32} (h : x < 0 ∨ nI 3 < x) : f_L_call n c (12 : Int32) x y z0 = some (c, (-9999001 : Int32)) :=
  k_tryChain_3 (v := 0) (by
    unfold f_X5_chain
    exact bd_eq (player_no h) (ip_eq rfl rfl))
theorem e_chain_a {y : Int32} (hp : p < 4) (h : y < nI 1 ∨ nI 6 < y) : f_L_call n c (12 : Int32) (nI p) y z0 = some (c, (-9999002 : Int32)) :=
  k_tryChain_1 (v := 0) (by
    unfold f_X5_chain f_X5_chain_b28
    refine bd_eq (f_isPlayer_n hp) (in_eq (by decide) ?_)
    by_cases h9 : y < 1
    · exact ip_eq h9 rfl
    · exact in_eq h9 (in_eq (lt_nle (h.resolve_left h9)) rfl))
end PL
/-! cells, the reach -/
section CE
variable {n B : Nat} {c : CS} {z0 z1 v : Int32}
theorem cell_yes {x y : Nat} (hx : x < 25) (hy : y < 25) : f_X5_isCell (nI x) (nI y) = some 1 := by
  unfold f_X5_isCell
  exact in_eq (nI_pos (by omega)) (in_eq (nI_ge (a := x) (b := 25) hx (by omega)) (in_eq (nI_pos (by omega)) (in_eq (nI_ge (a := y) (b := 25) hy (by omega)) rfl)))
theorem cell_no {x y : Int32} (h : (x < 0 ∨ nI 24 < x) ∨ (y < 0 ∨ nI 24 < y)) : f_X5_isCell x y = some 0 := by
  have big : ∀ {u : Int32}, ¬ u < 0 → nI 24 < u → (25 : Int32) ≤ u := fun {u} h0 h1 => by
    obtain ⟨m, hm, rfl⟩ := nI_of h0
    have := (nI_ltI (a := 24) (by omega) hm).mp h1
    exact nI_le (a := 25) (by omega) hm
  unfold f_X5_isCell
  by_cases h1 : x < 0
  · exact ip_eq h1 rfl
  · refine in_eq h1 ?_
    by_cases h2 : (25 : Int32) ≤ x
    · exact ip_eq h2 rfl
    · refine in_eq h2 ?_
      have hy := h.resolve_left (fun q => q.elim h1 (fun z => h2 (big h1 z)))
      by_cases h3 : y < 0
      · exact ip_eq h3 rfl
      · exact in_eq h3 (ip_eq (big h3 (hy.resolve_left h3)) rfl)
theorem at_v {x y : Nat} (hx : x < 25) (hy : y < 25) (h : f_X2_pipsAt n (c.2.2 0) (nI x) (nI y) = some v) : f_L_call n c (6 : Int32) (nI x) (nI y) z0 = some (c, v) :=
  k_tryAt_0 (v := v) (by
    unfold f_X5_at
    exact bd_eq (cell_yes hx hy) (in_eq (by decide) (bd_eq (v := ()) rfl (bd_eq h rfl))))
theorem e_at {x y : Int32} (h : (x < 0 ∨ nI 24 < x) ∨ (y < 0 ∨ nI 24 < y)) : f_L_call n c (6 : Int32) x y z0 = some (c, (-9999001 : Int32)) :=
  k_tryAt_3 (v := 0) (by
    unfold f_X5_at
    exact bd_eq (cell_no h) (ip_eq rfl rfl))
theorem look_at (hn : 28 < n) (W : WI B c) (x y : Int32) : ∃ v, f_L_call n c (6 : Int32) x y z0 = some (c, v) := by
  rcases rng x 0 24 (by omega) (by omega) with h | h | ⟨a, _, ha, rfl⟩
  · exact ⟨_, e_at (Or.inl (Or.inl h))⟩
  · exact ⟨_, e_at (Or.inl (Or.inr h))⟩
  · rcases rng y 0 24 (by omega) (by omega) with h | h | ⟨b, _, hb, rfl⟩
    · exact ⟨_, e_at (Or.inr (Or.inl h))⟩
    · exact ⟨_, e_at (Or.inr (Or.inr h))⟩
    · obtain ⟨r, h1, _⟩ := f_pipsAt hn W.g (nI a) (nI b)
      exact ⟨_, at_v (by omega) (by omega) h1⟩
theorem free_0 (hn : 28 < n) (W : WI B c) : f_L_call n c (7 : Int32) (0 : Int32) z0 z1 = some (c, nI (625 - 2 * szG (c.2.2 0))) :=
  k_tryFree_0 (by
    unfold f_X5_free f_X5_free_b19
    exact ip_eq rfl (ip_eq rfl (bd_eq (v := ()) rfl (bd_eq (f_free hn W.g).1 rfl))))
theorem free_1 (hn : 28 < n) (W : WI B c) : f_L_call n c (7 : Int32) (1 : Int32) z0 z1 = some (c, nI (625 - 2 * szG (c.2.2 0))) :=
  k_tryFree_0 (by
    unfold f_X5_free f_X5_free_b19
    exact in_eq (by decide) (ip_eq rfl (in_eq (by decide) (bd_eq (v := ()) rfl (bd_eq (f_free hn W.g).2 rfl)))))
theorem e_free {x : Int32} (h0 : ¬ x = 0) (h1 : ¬ x = 1) : f_L_call n c (7 : Int32) x z0 z1 = some (c, (-9999002 : Int32)) :=
  k_tryFree_1 (v := 0) (by
    unfold f_X5_free
    exact in_eq h0 (in_eq h1 rfl))
theorem reach_v {w : Nat} (hw : w ≤ 5) (h : f_X2_numberOfReach n (c.2.2 0) (nI w) = some v) : f_L_call n c (13 : Int32) (nI w) z0 z1 = some (c, v) :=
  k_tryReach_0 (v := v) (by
    unfold f_X5_reach
    exact in_eq (nI_pos (by omega)) (ip_eq ((geL_5 (by omega)).mpr hw) (bd_eq (v := ()) rfl (bd_eq h rfl))))
theorem re_0 (hn : 28 < n) (W : WI B c) : f_L_call n c (13 : Int32) (0 : Int32) z0 z1 = some (c, if szG (c.2.2 0) = 0 then -1 else nI (mnN (cX (c.2.2 0)) (dX' (c.2.2 0)) (szG (c.2.2 0)))) := reach_v (w := 0) (by omega) (ip_eq rfl (bd_eq (f_least_x hn W.g) rfl))
theorem re_4 (hn : 28 < n) (W : WI B c) : f_L_call n c (13 : Int32) (4 : Int32) z0 z1 = some (c, nI (trn (c.2.2 0) 1 (szG (c.2.2 0)))) := reach_v (w := 4) (by omega) (in_eq (by decide) (in_eq (by decide) (in_eq (by decide) (in_eq (by decide) (ip_eq rfl (bd_eq (f_turns hn W.g 1) rfl))))))
theorem re_5 (hn : 28 < n) (W : WI B c) : f_L_call n c (13 : Int32) (5 : Int32) z0 z1 = some (c, nI (trn (c.2.2 0) 3 (szG (c.2.2 0)))) := reach_v (w := 5) (by omega) (in_eq (by decide) (in_eq (by decide) (in_eq (by decide) (in_eq (by decide) (in_eq (by decide) (bd_eq (f_turns hn W.g 3) rfl))))))
theorem e_reach {x : Int32} (h : x < 0 ∨ nI 5 < x) : f_L_call n c (13 : Int32) x z0 z1 = some (c, (-9999002 : Int32)) :=
  k_tryReach_1 (v := 0) (by
    unfold f_X5_reach f_X5_reach_b9
    by_cases h9 : x < 0
    · exact ip_eq h9 rfl
    · exact in_eq h9 (in_eq (lt_nle (h.resolve_left h9)) rfl))
theorem look_reach (hn : 28 < n) (W : WI B c) (x : Int32) : ∃ v, f_L_call n c (13 : Int32) x z0 z1 = some (c, v) := by
  rcases rng x 0 5 (by omega) (by omega) with h | h | ⟨w, _, hw, rfl⟩
  · exact ⟨_, e_reach (Or.inl h)⟩
  · exact ⟨_, e_reach (Or.inr h)⟩
  · match w, hw with
    | 0, _ => exact ⟨_, re_0 hn W⟩
    | 1, _ => exact ⟨_, reach_v (w := 1) (by omega) (in_eq (by decide) (ip_eq rfl (bd_eq (f_greatest_x hn W.g) rfl)))⟩
    | 2, _ => exact ⟨_, reach_v (w := 2) (by omega) (in_eq (by decide) (in_eq (by decide) (ip_eq rfl (bd_eq (f_least_y hn W.g) rfl))))⟩
    | 3, _ => exact ⟨_, reach_v (w := 3) (by omega) (in_eq (by decide) (in_eq (by decide) (in_eq (by decide) (ip_eq rfl (bd_eq (f_greatest_y hn W.g) rfl)))))⟩
    | 4, _ => exact ⟨_, re_4 hn W⟩
    | 5, _ => exact ⟨_, re_5 hn W⟩
theorem legal_v (hn : 28 < n) (W : WI B c) : f_X5_legal n c = some (mskH (rsn (c.2.2 0)) 0 28) := by
  unfold f_X5_legal
  exact bd_eq (f_playable hn W.g) rfl
theorem best_v (hn : 28 < n) (W : WI B c) : ∃ r, f_X5_best n c = some r ∧ bestP (c.2.2 0) 28 r := by
  obtain ⟨r, h1, h2⟩ := f_best hn W.g
  refine ⟨r, ?_, h2⟩
  unfold f_X5_best
  exact bd_eq h1 rfl
end CE
