/-! PURE LEVEL: the law itself -/
theorem fr_empty {H : GS} (h : ∀ y, y < 25 → H.2.2 9 y = 0) : (∀ x y, x < 25 → y < 25 → ¬ bitG H x y) ∧ frY H 25 = 625 := by
  have hb0 : ∀ x y, x < 25 → y < 25 → ¬ bitG H x y := fun x y hx hy q => by
    apply q
    rw [h y hy, bit_bt _ (by omega)]
    exact b_0 x
  have fr : ∀ y, y < 25 → ∀ n, n ≤ 25 → frX H y n = n := by
    intro y hy n
    induction n with
    | zero => intro _; rfl
    | succ n ih =>
      intro hn
      simp only [frX]
      rw [ih (by omega), if_neg (hb0 n y (by omega) hy)]
  have frr : ∀ n, n ≤ 25 → frY H n = 25 * n := by
    intro n
    induction n with
    | zero => intro _; rfl
    | succ n ih =>
      intro hn
      simp only [frY]
      rw [ih (by omega), fr n (by omega) 25 (by omega)]
      omega
  exact ⟨hb0, frr 25 (by omega)⟩
def newG (G : GS) : GS := emp (gA (gA (gA (gS (gS (gS (gS (gS (gS (gS (gS G 0 0) 1 0) 2 0) 3 0) 4 0) 5 0) 6 0) 7 28) 1 (fil (G.2.2 1) (-1) 28)) 2 (fil (G.2.2 2) 0 4)) 3 (fil (G.2.2 3) 0 4))
theorem f_becomeNew {n : Nat} (hn : 28 < n) (G : GS) : f_X0_becomeNew n G = some (newG G) := by
  unfold f_X0_becomeNew stt
  exact bd_eq (f_fill (by omega) (by omega) _ _) (bd_eq (f_fill (by omega) (by omega) _ _) (bd_eq (f_fill (by omega) (by omega) _ _) (bd_eq (f_becomeEmpty hn _) rfl)))
theorem new_VG (G : GS) : VG (newG G) 0 := by
  have hsz : szG (newG G) = 0 := rfl
  have hhb : hbG (newG G) = 28 := rfl
  have h9 : ∀ y, y < 25 → (newG G).2.2 9 y = 0 := fun y hy => fil_in hy
  obtain ⟨hb0, hfr⟩ := fr_empty h9
  refine VG.mk ?_ ?_ ?_ ?_ ?_ ?_ ?_ ?_ ?_ ?_ ?_ ?_ ?_ ?_ ?_ ?_ ?_ ?_ ?_ ?_ ?_
  · rfl
  · omega
  · rfl
  · omega
  · exact ⟨0, rfl, Nat.le_refl 0⟩
  · exact Or.inl rfl
  · intro q
    exact absurd (show (0 : Int32) = 1 from q) (by decide)
  · intro t ht
    exact Or.inl (fil_in ht)
  · intro k hk
    omega
  · intro j k hj
    omega
  · intro i h1 h2
    omega
  · intro i j h1 h2
    omega
  · exact ⟨0, by omega, rfl⟩
  · intro k hk
    omega
  · intro k hk
    omega
  · exact Or.inl ⟨hsz, rfl⟩
  · intro _
    exact ⟨rfl, rfl⟩
  · intro k hk
    omega
  · intro k hk
    omega
  · intro x y hx hy
    exact ⟨fun q => absurd q (hb0 x y hx hy), fun ⟨k, hk, _⟩ => by omega⟩
  · rw [hsz, hfr]
theorem new_XG (G : GS) : XG (newG G) 0 := by
  have hsz : szG (newG G) = 0 := rfl
  have hhb : hbG (newG G) = 28 := rfl
  refine XG.mk (fun q => absurd rfl q) (fun _ => ⟨hhb, hsz, fun t ht => fil_in ht⟩) ⟨fun _ => rfl, fun _ => rfl⟩ ⟨0, by omega, rfl, fun t ht => Or.inl (fil_in ht)⟩ ?_ ?_ ?_ ?_ (fun _ => rfl) ?_ (fun p hp => ⟨0, Nat.le_refl 0, fil_in hp⟩) (fun q => absurd (show (0 : Int32) = 2 from q) (by decide))
  · intro k hk
    omega
  · intro k hk
    omega
  · intro k hk
    omega
  · intro hk
    omega
  · intro j k x y hj
    omega
theorem st_0 : WI 0 (cI0 (newG GI)) := WI.mk (new_VG GI) (new_XG GI) ⟨0, 0, by omega, by omega, rfl, rfl, fun k hk => by omega⟩ (fun i hi => Or.inl rfl)
/-- a cell of the script, without its sign -/
theorem and_pos (u : Int32) : ∃ x, x < 2 ^ 31 ∧ u &&& (2147483647 : Int32) = nI x := by
  refine ⟨(u &&& (2147483647 : Int32)).toBitVec.toNat, ?_, ?_⟩
  · rw [Int32.toBitVec_and, BitVec.toNat_and]
    exact Nat.and_lt_two_pow _ (by decide)
  · apply Int32.toBitVec_inj.1
    show _ = BitVec.ofNat 32 _
    rw [BitVec.ofNat_toNat, BitVec.setWidth_eq]
theorem cell_ok {L : Nat} (hL : L ≤ 260) (sc : Nat → Int32) {k : Nat} (hk : k < 1000) : ∃ x, x < 2 ^ 31 ∧ f_L_cell L sc (nI k) = some (nI x) := by
  unfold f_L_cell
  by_cases h : L ≤ k
  · obtain ⟨x, h1, h2⟩ := and_pos (((15520091 : Int32) * (nI k + (3 : Int32))) + (12011 : Int32))
    exact ⟨x, h1, ip_eq (nI_le h (by omega)) (congrArg some h2)⟩
  · obtain ⟨x, h1, h2⟩ := and_pos (sc (nI k).toNatClampNeg)
    exact ⟨x, h1, in_eq (nI_ge (by omega) (by omega)) (ck_eq (in_n (by omega) (by omega)) (congrArg some h2))⟩
theorem law_step {n B L N j : Nat} (hn : 250 < n) (hB : B < 2 ^ 16) (hL : L ≤ 260) (sc : Nat → Int32) {c : CS} (W : WI B c) (hj : j < N) (hN : N < 100) (K : CS → CS → Int32 → Int32 → Option (CS × CS × Int32)) : ∃ c', f_L_law_h34 n L sc (nI N) K c c 1 (nI j) = K c' c' 1 (nI (j + 1)) ∧ WI (B + 6) c' := by
  obtain ⟨x, hx, hc⟩ := cell_ok hL sc (k := 1 + j) (by omega)
  obtain ⟨c1, a, ha, W1⟩ := act_ok (n := n) (by omega) (by omega) W hx
  have r5 : jrem (nI x) (100000 : Int32) = nI (x % 100000) := jrem_n (d := 100000) hx (by omega) (by omega)
  have r3 : jrem (nI x) (1000 : Int32) = nI (x % 1000) := jrem_n (d := 1000) hx (by omega) (by omega)
  have r4 : jrem (nI x) (5000 : Int32) = nI (x % 5000) := jrem_n (d := 5000) hx (by omega) (by omega)
  have d3 : nI x / (3 : Int32) = nI (x / 3) := jdiv_n (d := 3) hx (by omega) (by omega)
  have d7 : nI x / (7 : Int32) = nI (x / 7) := jdiv_n (d := 7) hx (by omega) (by omega)
  have m5 : x % 100000 < 100000 := Nat.mod_lt _ (by omega)
  have m3 : x % 1000 < 1000 := Nat.mod_lt _ (by omega)
  have m4 : x % 5000 < 5000 := Nat.mod_lt _ (by omega)
  have f1 := refuses_ok (n := n) (by omega) W (x := x % 100000) (by omega)
  have f2 := refuses_ok (n := n) (by omega) W1 (x := x % 1000) (by omega)
  obtain ⟨c2, h2, W2, _⟩ := alike_ok (n := n) (x := x % 5000) hn (by omega) W1 (by omega)
  have h3 := holds_ok (n := n) (x := x / 3) (by omega) (by omega) W2 (by omega)
  obtain ⟨c3, h4, W3⟩ := lays_ok (n := n) (x := x / 7) (by omega) (by omega) W2 (by omega)
  refine ⟨c3, ?_, W3.le (by omega)⟩
  have e145 : f_L_law_b145 n L sc (nI N) K c2 c2 (nI j) (nI x) = K c3 c3 1 (nI (j + 1)) := by
    unfold f_L_law_b145 f_L_law_b163
    rw [d7]
    refine ck_eq (by decide) (bd_eq h4 (in_eq (show ¬ (1 : Int32) = 0 by decide) ?_))
    rw [nI_1]
  have hle : ¬ nI N ≤ nI j := nI_ge hj (by omega)
  unfold f_L_law_h34
  refine in_eq hle (in_eq (by decide) (bd_eq (v := nI x) (by rw [alL_1]; exact hc) (bd_eq ha ?_)))
  rw [r5, r3, r4, d3]
  refine ck_eq (by decide) (bd_eq f1 (in_eq (show ¬ (1 : Int32) = 0 by decide) (bd_eq ha (ip_eq rfl (ck_eq (by decide) (bd_eq f2 (in_eq (show ¬ (1 : Int32) = 0 by decide) (ck_eq (by decide) (bd_eq h2 (in_eq (show ¬ (1 : Int32) = 0 by decide) (ck_eq (by decide) ?_)))))))))))
  by_cases ho : jrem (nI j) (2 : Int32) = 0
  · exact ip_eq ho (ck_eq (by decide) (bd_eq h3 (in_eq (show ¬ (1 : Int32) = 0 by decide) e145)))
  · exact in_eq ho (ck_eq (by decide) (bd_eq h3 (in_eq (show ¬ (1 : Int32) = 0 by decide) e145)))
theorem law_loop {n L N : Nat} (hn : 250 < n) (hL : L ≤ 260) (sc : Nat → Int32) (hN : N < 100) : ∀ d j m (c : CS), j + d = N → d < m → WI (6 * j) c → ∃ c', lo4 (f_L_law_h34 n L sc (nI N)) m c c 1 (nI j) = some (c', c', 1) := by
  intro d
  induction d with
  | zero =>
    intro j m c h1 h2 W
    obtain ⟨m', rfl⟩ : ∃ k, m = k + 1 := ⟨m - 1, by omega⟩
    rw [lo4_s]
    exact ⟨c, ip_eq (nI_le (by omega) (by omega)) (ck_eq rfl rfl)⟩
  | succ d ih =>
    intro j m c h1 h2 W
    obtain ⟨m', rfl⟩ : ∃ k, m = k + 1 := ⟨m - 1, by omega⟩
    obtain ⟨c', h3, W'⟩ := law_step hn (by omega) hL sc W (show j < N by omega) hN (lo4 (f_L_law_h34 n L sc (nI N)) m')
    rw [lo4_s, h3]
    exact ih (j + 1) m' c' (by omega) (by omega) (by rw [show 6 * (j + 1) = 6 * j + 6 by omega]; exact W')
/-- the law answers true -/
theorem law_ok {L : Nat} (hL : L ≤ 260) (sc : Nat → Int32) : ∃ c', f_L_law 5000 L sc (cI0 (newG GI)) (cI0 (newG GI)) = some (c', c', 1) := by
  obtain ⟨x, hx, hc⟩ := cell_ok hL sc (k := 0) (by omega)
  have r : (14 : Int32) + jrem (nI x) (27 : Int32) = nI (14 + x % 27) := by
    rw [show jrem (nI x) (27 : Int32) = nI (x % 27) from jrem_n (d := 27) hx (by omega) (by omega), alL_14]
  have m27 : x % 27 < 27 := Nat.mod_lt _ (by omega)
  obtain ⟨c', h⟩ := law_loop (n := 5000) (L := L) (N := 14 + x % 27) (by omega) hL sc (by omega) (14 + x % 27) 0 41 (cI0 (newG GI)) (by omega) (by omega) st_0
  refine ⟨c', ?_⟩
  unfold f_L_law
  refine bd_eq hc (ck_eq (by decide) ?_)
  rw [r]
  exact h
