/-! PURE LEVEL: what is done at a table -/
theorem act_deal {n B y : Nat} (hn : 28 < n) (hB : B < 2 ^ 20) {c : CS} (W : WI B c) (hy : y < 2 ^ 31) (x1 : Int32) : ∃ c' v, f_L_act_b70 n x1 c (nI y) = some (c', v) ∧ WI (B + 1) c' := by
  have h3 : (2 : Int32) + jrem (nI y) (3 : Int32) = nI (2 + y % 3) := by rw [jrem_3 hy, alL_2]
  have m3 : y % 3 < 3 := Nat.mod_lt _ (by omega)
  obtain ⟨c', v, h1, h2⟩ := a_deals (n := n) hn hB W (P := 2 + y % 3) (by omega) (by omega) ((nI y).toInt64 * (4294967437 : Int64))
  refine ⟨c', v, ?_, h2⟩
  unfold f_L_act_b70
  rw [h3]
  exact ck_eq (by decide) (bd_eq h1 rfl)
theorem act_step {n B y N k : Nat} (hn : 28 < n) (hB : B < 2 ^ 19) {c : CS} (W : WI B c) (x1 x4 : Int32) (hk : k < N) (hN : N < 100) (K : CS → Int32 → Int32 → Option (CS × Int32)) : ∃ c' v, f_L_act_h192 n x1 (nI y) (nI N) K c x4 (nI k) = K c' v (nI (k + 1)) ∧ WI (B + 1) c' := by
  have hle : ¬ nI N ≤ nI k := nI_ge hk (by omega)
  obtain ⟨r, hb1, hb2⟩ := best_v (n := n) hn W
  unfold f_L_act_h192 f_L_act_b235 f_L_act_b290
  rcases hb2 with ⟨rfl, _⟩ | ⟨b, hb, _, rfl, hb0, _⟩
  · by_cases hp : (c.2.2 0).1 3 = 1
    · by_cases h28 : hbG (c.2.2 0) = 28
      · obtain ⟨c', v, h1, h2⟩ := a_pass (n := n) (z0 := 0) (z1 := 0) (z2 := 0) hn (by omega) W hp h28
        refine ⟨c', (3 : Int32) * x4 + v, in_eq hle (bd_eq hb1 (ip_eq rfl (bd_eq (ab_1 W) (ip_eq hp (bd_eq (ab_4 W) (ip_eq ?_ (bd_eq h1 ?_))))))), h2⟩
        · show nI (28 - hbG (c.2.2 0)) ≤ 0
          rw [h28]
          decide
        · rw [nI_1]
      · have hb28 := W.g.hb28
        obtain ⟨c', v, h1, h2⟩ := a_draw (n := n) (z0 := 0) (z1 := 0) (z2 := 0) (by omega) W hp (by omega)
        refine ⟨c', (3 : Int32) * x4 + v, in_eq hle (bd_eq hb1 (ip_eq rfl (bd_eq (ab_1 W) (ip_eq hp (bd_eq (ab_4 W) (in_eq (nI_nle (n := 28 - hbG (c.2.2 0)) (by omega) (by omega)) (bd_eq h1 ?_))))))), h2⟩
        rw [nI_1]
    · refine ⟨c, (3 : Int32) * x4 + 7, in_eq hle (bd_eq hb1 (ip_eq rfl (bd_eq (ab_1 W) (in_eq hp ?_)))), W.le (by omega)⟩
      rw [nI_1]
  · have hp := (rsn_0 (by
      have := (f_reason W.g hb).2
      rwa [hb0] at this)).1
    by_cases hs : jsshr (nI y) (nI k + (3 : Int32)) &&& (1 : Int32) = 1
    · obtain ⟨c1, H, h1, h2, _⟩ := a_plays (n := n) hn (by omega) W hb hp 1
      refine ⟨cG c1 0 H, (3 : Int32) * x4 + rsn (c.2.2 0) b, in_eq hle (bd_eq hb1 (in_eq (nI_ne_m1 (by omega)) (ip_eq hs (bd_eq h1 ?_)))), h2⟩
      rw [nI_1]
    · obtain ⟨c1, H, h1, h2, _⟩ := a_plays (n := n) hn (by omega) W hb hp 0
      refine ⟨cG c1 0 H, (3 : Int32) * x4 + rsn (c.2.2 0) b, in_eq hle (bd_eq hb1 (in_eq (nI_ne_m1 (by omega)) (in_eq hs (bd_eq h1 ?_)))), h2⟩
      rw [nI_1]
theorem act_loop {n B y N : Nat} (hn : 28 < n) (hB : B < 2 ^ 18) (x1 : Int32) (hN : N < 100) : ∀ d k m (c : CS) (x4 : Int32), k + d = N → d < m → WI (B + k) c → ∃ c' v, lo3 (f_L_act_h192 n x1 (nI y) (nI N)) m c x4 (nI k) = some (c', v) ∧ WI (B + N) c' := by
  intro d
  induction d with
  | zero =>
    intro k m c x4 h1 h2 W
    obtain ⟨m', rfl⟩ : ∃ j, m = j + 1 := ⟨m - 1, by omega⟩
    rw [lo3_s]
    exact ⟨c, x4, ip_eq (nI_le (by omega) (by omega)) rfl, W.le (by omega)⟩
  | succ d ih =>
    intro k m c x4 h1 h2 W
    obtain ⟨m', rfl⟩ : ∃ j, m = j + 1 := ⟨m - 1, by omega⟩
    obtain ⟨c', v, h3, h4⟩ := act_step (y := y) hn (by omega) W x1 x4 (show k < N by omega) hN (lo3 (f_L_act_h192 n x1 (nI y) (nI N)) m')
    rw [lo3_s, h3]
    exact ih (k + 1) m' c' v (by omega) (by omega) (by rw [← Nat.add_assoc]; exact h4)
theorem act_ok {n B x : Nat} (hn : 28 < n) (hB : B < 2 ^ 17) {c : CS} (W : WI B c) (hx : x < 2 ^ 31) : ∃ c' v, f_L_act n c (nI x) = some (c', v) ∧ WI (B + 5) c' := by
  have hy : x / 16 < 2 ^ 31 := by omega
  have d16 : nI x / (16 : Int32) = nI (x / 16) := jdiv_16 hx
  have r2 : jrem (nI (x / 16)) (2 : Int32) = nI (x / 16 % 2) := jrem_2 hy
  have r28 : jrem (nI (x / 16)) (28 : Int32) = nI (x / 16 % 28) := jrem_n (d := 28) hy (by omega) (by omega)
  have r5 : (1 : Int32) + jrem (nI (x / 16)) (5 : Int32) = nI (1 + x / 16 % 5) := by
    rw [show jrem (nI (x / 16)) (5 : Int32) = nI (x / 16 % 5) from jrem_n (d := 5) hy (by omega) (by omega), alL_1]
  have m2 : x / 16 % 2 < 2 := Nat.mod_lt _ (by omega)
  have m28 : x / 16 % 28 < 28 := Nat.mod_lt _ (by omega)
  have m5 : x / 16 % 5 < 5 := Nat.mod_lt _ (by omega)
  unfold f_L_act stt
  rw [d16, r5, r2, r28]
  by_cases c31 : jrem (nI x) (32 : Int32) = 31
  · obtain ⟨c', v, h1, h2⟩ := a_keep (n := n) (z0 := 0) (z1 := 0) W m2
    exact ⟨c', v, ck_eq (by decide) (bd_eq (ab_1 W) (ck_eq (by decide) (ip_eq c31 (ck_eq (by decide) (bd_eq h1 rfl))))), h2.le (by omega)⟩
  · by_cases c30 : jrem (nI x) (32 : Int32) = 30
    · obtain ⟨c', v, h1, h2⟩ := a_back (n := n) (z0 := 0) (z1 := 0) W m2
      exact ⟨c', v, ck_eq (by decide) (bd_eq (ab_1 W) (ck_eq (by decide) (in_eq c31 (ck_eq (by decide) (ip_eq c30 (ck_eq (by decide) (bd_eq h1 rfl))))))), h2.le (by omega)⟩
    · by_cases hp : (c.2.2 0).1 3 = 1
      · by_cases c61 : jrem (nI x) (64 : Int32) = 61
        · obtain ⟨c', v, h1, h2⟩ := act_deal (n := n) hn (by omega) W hy (nI x)
          exact ⟨c', v, ck_eq (by decide) (bd_eq (ab_1 W) (ck_eq (by decide) (in_eq c31 (ck_eq (by decide) (in_eq c30 (ip_eq hp (ck_eq (by decide) (ip_eq c61 h1)))))))), h2.le (by omega)⟩
        · by_cases c28 : jrem (nI x) (32 : Int32) = 28
          · obtain ⟨c', v, h1, h2⟩ := a_undo (n := n) (z0 := 0) (z1 := 0) (z2 := 0) W
            exact ⟨c', v, ck_eq (by decide) (bd_eq (ab_1 W) (ck_eq (by decide) (in_eq c31 (ck_eq (by decide) (in_eq c30 (ip_eq hp (ck_eq (by decide) (in_eq c61 (ck_eq (by decide) (ip_eq c28 (bd_eq h1 rfl))))))))))), h2.le (by omega)⟩
          · by_cases c27 : jrem (nI x) (32 : Int32) = 27
            · have key : ∀ lf : Int32, ∃ c' v, f_L_act_b133 n (nI x) c lf (nI (x / 16 % 28)) = some (c', v) ∧ WI (B + 5) c' := fun lf => by
                obtain ⟨c1, H, h1, h2, _⟩ := a_plays (n := n) hn (by omega) W m28 hp lf
                refine ⟨cG c1 0 H, rsn (c.2.2 0) (x / 16 % 28), ?_, h2.le (by omega)⟩
                · unfold f_L_act_b133
                  exact bd_eq h1 rfl
              by_cases ho : jrem (nI (x / 16) / (28 : Int32)) (2 : Int32) = 0
              · obtain ⟨c', v, h1, h2⟩ := key 1
                exact ⟨c', v, ck_eq (by decide) (bd_eq (ab_1 W) (ck_eq (by decide) (in_eq c31 (ck_eq (by decide) (in_eq c30 (ip_eq hp (ck_eq (by decide) (in_eq c61 (ck_eq (by decide) (in_eq c28 (ck_eq (by decide) (ip_eq c27 (ck_eq (by decide) (ck_eq (by decide) (ck_eq (by decide) (ip_eq ho h1)))))))))))))))), h2⟩
              · obtain ⟨c', v, h1, h2⟩ := key 0
                exact ⟨c', v, ck_eq (by decide) (bd_eq (ab_1 W) (ck_eq (by decide) (in_eq c31 (ck_eq (by decide) (in_eq c30 (ip_eq hp (ck_eq (by decide) (in_eq c61 (ck_eq (by decide) (in_eq c28 (ck_eq (by decide) (ip_eq c27 (ck_eq (by decide) (ck_eq (by decide) (ck_eq (by decide) (in_eq ho h1)))))))))))))))), h2⟩
            · by_cases c26 : jrem (nI x) (32 : Int32) = 26
              · by_cases h28 : hbG (c.2.2 0) = 28
                · obtain ⟨c', v, h1, h2⟩ := a_pass (n := n) (z0 := 0) (z1 := 0) (z2 := 0) hn (by omega) W hp h28
                  refine ⟨c', v, ck_eq (by decide) (bd_eq (ab_1 W) (ck_eq (by decide) (in_eq c31 (ck_eq (by decide) (in_eq c30 (ip_eq hp (ck_eq (by decide) (in_eq c61 (ck_eq (by decide) (in_eq c28 (ck_eq (by decide) (in_eq c27 (ck_eq (by decide) (ip_eq c26 (bd_eq (ab_4 W) (ip_eq ?_ (bd_eq h1 rfl))))))))))))))))), h2.le (by omega)⟩
                  show nI (28 - hbG (c.2.2 0)) ≤ 0
                  rw [h28]
                  decide
                · have hb28 := W.g.hb28
                  obtain ⟨c', v, h1, h2⟩ := a_draw (n := n) (z0 := 0) (z1 := 0) (z2 := 0) (by omega) W hp (by omega)
                  exact ⟨c', v, ck_eq (by decide) (bd_eq (ab_1 W) (ck_eq (by decide) (in_eq c31 (ck_eq (by decide) (in_eq c30 (ip_eq hp (ck_eq (by decide) (in_eq c61 (ck_eq (by decide) (in_eq c28 (ck_eq (by decide) (in_eq c27 (ck_eq (by decide) (ip_eq c26 (bd_eq (ab_4 W) (in_eq (nI_nle (n := 28 - hbG (c.2.2 0)) (by omega) (by omega)) (bd_eq h1 rfl))))))))))))))))), h2.le (by omega)⟩
              · obtain ⟨c', v, h1, h2⟩ := act_loop (n := n) (B := B) (y := x / 16) (N := 1 + x / 16 % 5) hn (by omega) (nI x) (by omega) (1 + x / 16 % 5) 0 29 c 0 (by omega) (by omega) W
                exact ⟨c', v, ck_eq (by decide) (bd_eq (ab_1 W) (ck_eq (by decide) (in_eq c31 (ck_eq (by decide) (in_eq c30 (ip_eq hp (ck_eq (by decide) (in_eq c61 (ck_eq (by decide) (in_eq c28 (ck_eq (by decide) (in_eq c27 (ck_eq (by decide) (in_eq c26 (ck_eq (by decide) h1))))))))))))))), h2.le (by omega)⟩
      · obtain ⟨c', v, h1, h2⟩ := act_deal (n := n) hn (by omega) W hy (nI x)
        exact ⟨c', v, ck_eq (by decide) (bd_eq (ab_1 W) (ck_eq (by decide) (in_eq c31 (ck_eq (by decide) (in_eq c30 (in_eq hp h1)))))), h2.le (by omega)⟩
