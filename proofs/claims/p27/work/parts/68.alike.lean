/-! PURE LEVEL: two tables that are the same value are told alike -/
theorem alike_step {n B : Nat} (hn : 28 < n) {c : CS} (W : WI B c) (x2 : Int32) (K : CS → CS → Int32 → Int32 → Option (CS × CS × Int32)) {j : Nat} (hj : j < 28) : f_L_alike_h58 n x2 K c c 1 (nI j) = K c c 1 (nI (j + 1)) := by
  obtain ⟨v1, h1⟩ := look_tile (n := n) (z0 := 0) hn W (nI j) (jrem x2 (5 : Int32))
  obtain ⟨v2, h2⟩ := look_about (n := n) (z0 := 0) (z1 := 0) hn W (nI j)
  obtain ⟨v3, h3⟩ := look_laid (n := n) (z0 := 0) W (nI j) (jrem x2 (6 : Int32))
  obtain ⟨v4, h4⟩ := look_player (n := n) (c := c) (z0 := 0) hn (nI j) (jrem x2 (4 : Int32))
  obtain ⟨v5, h5⟩ := look_reach (n := n) (z0 := 0) (z1 := 0) hn W (nI j)
  obtain ⟨v6, h6⟩ := look_at (n := n) (z0 := 0) hn W (nI j) (jrem x2 (25 : Int32))
  have hle : ¬ (28 : Int32) ≤ nI j := fun q => by
    have := (leL_28 (j := j) (by omega)).mp q
    omega
  unfold f_L_alike_h58 f_L_alike_b224
  refine in_eq hle (in_eq (show ¬ (1 : Int32) = 0 by decide) (ck_eq (by decide) (bd_eq h1 (ck_eq (by decide) (bd_eq h1 (ip_eq rfl (bd_eq h2 (bd_eq h2 (ip_eq rfl (ck_eq (by decide) (bd_eq h3 (ck_eq (by decide) (bd_eq h3 (ip_eq rfl (ck_eq (by decide) (bd_eq h4 (ck_eq (by decide) (bd_eq h4 (ip_eq rfl (bd_eq h5 (bd_eq h5 (ip_eq rfl (ck_eq (by decide) (bd_eq h6 (ck_eq (by decide) (bd_eq h6 (ip_eq rfl ?_)))))))))))))))))))))))))))
  rw [nI_1]
theorem alike_loop {n B : Nat} (hn : 28 < n) {c : CS} (W : WI B c) (x2 : Int32) : ∀ d j m, j + d = 28 → d < m → lo4 (f_L_alike_h58 n x2) m c c 1 (nI j) = some (c, c, 1) := by
  intro d
  induction d with
  | zero =>
    intro j m h1 h2
    obtain ⟨m', rfl⟩ : ∃ k, m = k + 1 := ⟨m - 1, by omega⟩
    rw [lo4_s]
    exact ip_eq ((leL_28 (j := j) (by omega)).mpr (by omega)) (ck_eq (Or.inr rfl) rfl)
  | succ d ih =>
    intro j m h1 h2
    obtain ⟨m', rfl⟩ : ∃ k, m = k + 1 := ⟨m - 1, by omega⟩
    rw [lo4_s, alike_step hn W x2 _ (by omega)]
    exact ih (j + 1) m' (by omega) (by omega)
theorem alike_ok {n B x : Nat} (hn : 250 < n) (hB : B < 2 ^ 20) {c : CS} (W : WI B c) (hx : x < 2 ^ 20) : ∃ c', f_L_alike n c c (nI x) = some (c', c', 1) ∧ WI B c' ∧ c'.2.2 0 = c.2.2 0 := by
  have h90 : (1 : Int32) + jrem (nI x) (90 : Int32) = nI (1 + x % 90) := by
    rw [show jrem (nI x) (90 : Int32) = nI (x % 90) from jrem_n (d := 90) (by omega) (by omega) (by omega), alL_1]
  have m90 : x % 90 < 90 := Nat.mod_lt _ (by omega)
  obtain ⟨c', v, h1, W', h2⟩ := a_sim hn hB W (nI x).toInt64 (m := 1 + x % 90) (by omega) (by omega)
  obtain ⟨b, hb1, hb2⟩ := best_v (n := n) (by omega) W'
  refine ⟨c', ?_, W', h2⟩
  unfold f_L_alike f_L_alike_b54
  rw [h90]
  exact ck_eq (by decide) (bd_eq h1 (ck_eq (by decide) (bd_eq h1 (ip_eq rfl (bd_eq (legal_v (by omega) W') (bd_eq (legal_v (by omega) W') (ip_eq rfl (bd_eq hb1 (bd_eq hb1 (ip_eq rfl (alike_loop (by omega) W' _ 28 0 29 (by omega) (by omega))))))))))))
