/-! PURE LEVEL: a round is dealt -/
def tR (r : Nat → Int32) (k : Nat) : Nat := (r k).toNatClampNeg
theorem tR_ok {r : Nat → Int32} (h : isP r) {k : Nat} (hk : k < 28) : r k = nI (tR r k) ∧ tR r k < 28 := by
  obtain ⟨t, ht, e⟩ := h.1 k hk
  unfold tR
  rw [e, nI_clamp (by omega)]
  exact ⟨rfl, ht⟩
theorem tR_inj {r : Nat → Int32} (h : isP r) {j k : Nat} (hj : j < 28) (hk : k < 28) (e : tR r j = tR r k) : j = k := by
  apply h.2.2 j k hj hk
  rw [(tR_ok h hj).1, (tR_ok h hk).1, e]
theorem tR_sur {r : Nat → Int32} (h : isP r) {t : Nat} (ht : t < 28) : ∃ k, k < 28 ∧ tR r k = t := by
  obtain ⟨k, hk, e⟩ := h.2.1 t ht
  refine ⟨k, hk, ?_⟩
  unfold tR
  rw [e, nI_clamp (by omega)]
def gv (h0 r : Nat → Int32) : Nat → (Nat → Int32)
  | 0 => h0
  | i + 1 => upd (gv h0 r i) (tR r i) (nI (i / 5))
theorem gv_at {h0 r : Nat → Int32} (h : isP r) : ∀ i, i ≤ 28 → ∀ k, k < 28 → gv h0 r i (tR r k) = if k < i then nI (k / 5) else h0 (tR r k) := by
  intro i
  induction i with
  | zero => intro _ k _; exact (if_neg (by omega)).symm
  | succ i ih =>
    intro hi k hk
    show upd (gv h0 r i) (tR r i) (nI (i / 5)) (tR r k) = _
    by_cases e : k = i
    · subst e
      rw [upd_eq rfl, if_pos (by omega)]
    · rw [upd_ne (fun q => e (tR_inj h hk (by omega) q)), ih (by omega) k hk]
      by_cases h2 : k < i
      · rw [if_pos h2, if_pos (by omega)]
      · rw [if_neg h2, if_neg (by omega)]
def emp (G : GS) : GS := gA (gL (gL (gL (gL (gL G 0 0) 1 (-1)) 2 0) 3 12) 4 12) 9 (fil (G.2.2 9) 0 25)
theorem f_becomeEmpty {n : Nat} (hn : 28 < n) (G : GS) : f_X2_becomeEmpty n G = some (emp G) := by
  unfold f_X2_becomeEmpty stt
  exact bd_eq (f_fill (by omega) (by omega) _ _) rfl
def delG (G : GS) (P : Nat) (r h0 h : Nat → Int32) : GS :=
  gS (gS (gS (gS (gS (emp (gA (gS (gA (gA G 0 r) 1 h0) 7 (nI P * 5)) 1 h)) 4 (nI P)) 5 (jrem (G.1 0) (nI P))) 6 0) 3 1) 0 (G.1 0 + 1)
def dealS (G : GS) (H : GS) (P : Nat) (r : Nat → Int32) (hf : Nat → Int32) : Prop :=
  (H.1 0 = G.1 0 + 1) ∧
  (H.1 1 = G.1 1) ∧
  (H.1 2 = G.1 2) ∧
  (H.1 3 = 1) ∧
  (H.1 4 = nI P) ∧
  (H.1 5 = jrem (G.1 0) (nI P)) ∧
  (H.1 6 = 0) ∧
  (H.1 7 = nI P * 5) ∧
  (H.2.1 0 = 0) ∧
  (H.2.1 1 = -1) ∧
  (H.2.1 2 = 0) ∧
  (H.2.1 3 = 12) ∧
  (H.2.1 4 = 12) ∧
  (H.2.2 0 = r) ∧
  (H.2.2 1 = hf) ∧
  (H.2.2 2 = G.2.2 2) ∧
  (H.2.2 3 = G.2.2 3) ∧
  (∀ y, y < 25 → H.2.2 9 y = 0)
theorem dealS.g0 {G : GS} {H : GS} {P : Nat} {r : Nat → Int32} {hf : Nat → Int32} (h : dealS G H P r hf) : H.1 0 = G.1 0 + 1 := h.1
theorem dealS.g1 {G : GS} {H : GS} {P : Nat} {r : Nat → Int32} {hf : Nat → Int32} (h : dealS G H P r hf) : H.1 1 = G.1 1 := h.2.1
theorem dealS.g2 {G : GS} {H : GS} {P : Nat} {r : Nat → Int32} {hf : Nat → Int32} (h : dealS G H P r hf) : H.1 2 = G.1 2 := h.2.2.1
theorem dealS.g3 {G : GS} {H : GS} {P : Nat} {r : Nat → Int32} {hf : Nat → Int32} (h : dealS G H P r hf) : H.1 3 = 1 := h.2.2.2.1
theorem dealS.g4 {G : GS} {H : GS} {P : Nat} {r : Nat → Int32} {hf : Nat → Int32} (h : dealS G H P r hf) : H.1 4 = nI P := h.2.2.2.2.1
theorem dealS.g5 {G : GS} {H : GS} {P : Nat} {r : Nat → Int32} {hf : Nat → Int32} (h : dealS G H P r hf) : H.1 5 = jrem (G.1 0) (nI P) := h.2.2.2.2.2.1
theorem dealS.g6 {G : GS} {H : GS} {P : Nat} {r : Nat → Int32} {hf : Nat → Int32} (h : dealS G H P r hf) : H.1 6 = 0 := h.2.2.2.2.2.2.1
theorem dealS.g7 {G : GS} {H : GS} {P : Nat} {r : Nat → Int32} {hf : Nat → Int32} (h : dealS G H P r hf) : H.1 7 = nI P * 5 := h.2.2.2.2.2.2.2.1
theorem dealS.l0 {G : GS} {H : GS} {P : Nat} {r : Nat → Int32} {hf : Nat → Int32} (h : dealS G H P r hf) : H.2.1 0 = 0 := h.2.2.2.2.2.2.2.2.1
theorem dealS.l1 {G : GS} {H : GS} {P : Nat} {r : Nat → Int32} {hf : Nat → Int32} (h : dealS G H P r hf) : H.2.1 1 = -1 := h.2.2.2.2.2.2.2.2.2.1
theorem dealS.l2 {G : GS} {H : GS} {P : Nat} {r : Nat → Int32} {hf : Nat → Int32} (h : dealS G H P r hf) : H.2.1 2 = 0 := h.2.2.2.2.2.2.2.2.2.2.1
theorem dealS.l3 {G : GS} {H : GS} {P : Nat} {r : Nat → Int32} {hf : Nat → Int32} (h : dealS G H P r hf) : H.2.1 3 = 12 := h.2.2.2.2.2.2.2.2.2.2.2.1
theorem dealS.l4 {G : GS} {H : GS} {P : Nat} {r : Nat → Int32} {hf : Nat → Int32} (h : dealS G H P r hf) : H.2.1 4 = 12 := h.2.2.2.2.2.2.2.2.2.2.2.2.1
theorem dealS.a0 {G : GS} {H : GS} {P : Nat} {r : Nat → Int32} {hf : Nat → Int32} (h : dealS G H P r hf) : H.2.2 0 = r := h.2.2.2.2.2.2.2.2.2.2.2.2.2.1
theorem dealS.a1 {G : GS} {H : GS} {P : Nat} {r : Nat → Int32} {hf : Nat → Int32} (h : dealS G H P r hf) : H.2.2 1 = hf := h.2.2.2.2.2.2.2.2.2.2.2.2.2.2.1
theorem dealS.a2 {G : GS} {H : GS} {P : Nat} {r : Nat → Int32} {hf : Nat → Int32} (h : dealS G H P r hf) : H.2.2 2 = G.2.2 2 := h.2.2.2.2.2.2.2.2.2.2.2.2.2.2.2.1
theorem dealS.a3 {G : GS} {H : GS} {P : Nat} {r : Nat → Int32} {hf : Nat → Int32} (h : dealS G H P r hf) : H.2.2 3 = G.2.2 3 := h.2.2.2.2.2.2.2.2.2.2.2.2.2.2.2.2.1
theorem dealS.a9 {G : GS} {H : GS} {P : Nat} {r : Nat → Int32} {hf : Nat → Int32} (h : dealS G H P r hf) : ∀ y, y < 25 → H.2.2 9 y = 0 := h.2.2.2.2.2.2.2.2.2.2.2.2.2.2.2.2.2
theorem dealS.mk {G : GS} {H : GS} {P : Nat} {r : Nat → Int32} {hf : Nat → Int32} (g0 : H.1 0 = G.1 0 + 1) (g1 : H.1 1 = G.1 1) (g2 : H.1 2 = G.1 2) (g3 : H.1 3 = 1) (g4 : H.1 4 = nI P) (g5 : H.1 5 = jrem (G.1 0) (nI P)) (g6 : H.1 6 = 0) (g7 : H.1 7 = nI P * 5) (l0 : H.2.1 0 = 0) (l1 : H.2.1 1 = -1) (l2 : H.2.1 2 = 0) (l3 : H.2.1 3 = 12) (l4 : H.2.1 4 = 12) (a0 : H.2.2 0 = r) (a1 : H.2.2 1 = hf) (a2 : H.2.2 2 = G.2.2 2) (a3 : H.2.2 3 = G.2.2 3) (a9 : ∀ y, y < 25 → H.2.2 9 y = 0) : dealS G H P r hf := ⟨g0, g1, g2, g3, g4, g5, g6, g7, l0, l1, l2, l3, l4, a0, a1, a2, a3, a9⟩
theorem delG_S (G : GS) (P : Nat) (r h0 h : Nat → Int32) : dealS G (delG G P r h0 h) P r h :=
  dealS.mk rfl rfl rfl rfl rfl rfl rfl rfl rfl rfl rfl rfl rfl rfl rfl rfl rfl (fun _ hy => fil_in hy)
theorem f_startRound {n : Nat} (hn : 28 < n) (G : GS) {P : Nat} (h2 : 2 ≤ P) (h4 : P ≤ 4) (y : Int64) : f_X0_startRound n G (nI P) y = some (delG G P (shu (ini (G.2.2 0) 28) y 27) (fil (G.2.2 1) (-1) 28) (gv (fil (G.2.2 1) (-1) 28) (shu (ini (G.2.2 0) 28) y 27) (5 * P)), 1) := by
  have hP := isP_shu 27 (ini (G.2.2 0) 28) y (by omega) (isP_ini _)
  unfold f_X0_startRound
  refine in_eq (fun q => ?_) (ip_eq ?_ ?_)
  · have := (gtL_2 (j := P) (by omega)).mp q
    omega
  · exact (geL_4 (by omega)).mpr h4
  refine bd_eq (f_shuffle hn G y) ?_
  refine bd_eq (f_fill (by omega) (by omega) _ _) ?_
  generalize shu (ini (G.2.2 0) 28) y 27 = r at *
  show lo2 (f_X0_startRound_h35 n (nI P) y) n (gS (gA (gA G 0 r) 1 (fil (G.2.2 1) (-1) 28)) 7 (nI P * 5)) 0 = _
  generalize hh0 : fil (G.2.2 1) (-1) 28 = h0
  have e5 : nI P * (5 : Int32) = nI (P * 5) := nI_mul P 5
  refine ex_eq (for2 (A := GS) (5 * P) (fun j g => g = gA (gS (gA (gA G 0 r) 1 h0) 7 (nI P * 5)) 1 (gv h0 r j)) _ ?_ ?_ n 0 _ (by omega) (by omega) (gA_self _ 1).symm)
  · rintro K g rfl
    refine ⟨_, ?_, rfl⟩
    unfold f_X0_startRound_h35
    refine ip_eq ?_ ?_
    · show nI P * 5 ≤ nI (5 * P)
      rw [e5]
      exact (nI_leI (by omega) (by omega)).mpr (by omega)
    · unfold f_X0_startRound_b72
      refine bd_eq (f_becomeEmpty hn _) ?_
      refine ck_eq (nI_ne0 (by omega) (by omega)) ?_
      rfl
  · rintro K g j hj rfl
    left
    have ht := tR_ok hP (k := j) (by omega)
    refine ⟨gA (gS (gA (gA G 0 r) 1 h0) 7 (nI P * 5)) 1 (gv h0 r (j + 1)), ?_, rfl⟩
    unfold f_X0_startRound_h35
    refine in_eq ?_ (in_eq ?_ ?_)
    · show ¬ nI P * 5 ≤ nI j
      rw [e5]
      intro q
      have := (nI_leI (by omega) (by omega)).mp q
      omega
    · intro q
      have := (leL_28 (j := j) (by omega)).mp q
      omega
    · refine ck_eq (in_n (by omega) (by omega)) (ck_eq (by decide) ?_)
      rw [nI_clamp (by omega), show nI j / (5 : Int32) = nI (j / 5) from jdiv_n (d := 5) (by omega) (by decide) (by decide), show (gA (gS (gA (gA G 0 r) 1 h0) 7 (nI P * 5)) 1 (gv h0 r j)).2.2 0 j = nI (tR r j) from ht.1]
      refine bd_eq (f_giveTo_n ht.2 _ _) ?_
      rw [nI_1, gA_gA]
      rfl
theorem deal_VG {G H : GS} {B P : Nat} {r h : Nat → Int32} (V : VG G B) (hB : B < 2 ^ 30) (hP : isP r) (S : dealS G H P r h) (h2 : 2 ≤ P) (h4 : P ≤ 4) (hh : ∀ k, k < 28 → h (tR r k) = if k < 5 * P then nI (k / 5) else -1) : VG H (B + 1) := by
  have hsz : szG H = 0 := by
    unfold szG
    rw [S.l0]
    rfl
  have e7 : H.1 7 = nI (5 * P) := by
    rw [S.g7, show nI P * (5 : Int32) = nI (P * 5) from nI_mul P 5, Nat.mul_comm]
  have hhb : hbG H = 5 * P := by
    unfold hbG
    rw [e7, nI_clamp (by omega)]
  have hb0 : ∀ x y, x < 25 → y < 25 → ¬ bitG H x y := fun x y hx hy q => by
    apply q
    rw [S.a9 y hy, bit_bt _ (by omega)]
    exact b_0 x
  obtain ⟨rr, hr1, hr2⟩ := V.rd
  have fr : ∀ y, y < 25 → ∀ n, n ≤ 25 → frX H y n = n := by
    intro y hy n
    induction n with
    | zero => intro _; rfl
    | succ n ih =>
      intro hn
      simp only [frX]
      rw [ih (by omega), if_neg (hb0 n y (by omega) hy)]
  have frr : ∀ n, n ≤ 25 → frY H n = 25 * n := by
    intro n
    induction n with
    | zero => intro _; rfl
    | succ n ih =>
      intro hn
      simp only [frY]
      rw [ih (by omega), fr n (by omega) 25 (by omega)]
      omega
  refine VG.mk ?_ ?_ ?_ ?_ ?_ ?_ ?_ ?_ ?_ ?_ ?_ ?_ ?_ ?_ ?_ ?_ ?_ ?_ ?_ ?_ ?_
  · rw [hsz, S.l0]; rfl
  · omega
  · rw [hhb]; exact e7
  · omega
  · exact ⟨rr + 1, by rw [S.g0, hr1, nI_1], by omega⟩
  · rw [S.g3]; exact Or.inr (Or.inl rfl)
  · intro _
    refine ⟨P, rr % P, 0, h2, h4, Nat.mod_lt _ (by omega), by omega, S.g4, ?_, S.g6⟩
    rw [S.g5, hr1, jrem_n (by omega) (by omega) (by omega)]
  · intro t ht
    obtain ⟨k, hk, rfl⟩ := tR_sur hP ht
    rw [S.a1, hh k hk]
    split
    · exact Or.inr ⟨k / 5, by omega, rfl⟩
    · exact Or.inl rfl
  · intro k hk
    omega
  · intro j k hj
    omega
  · intro i h5 h6
    rw [hhb] at h5
    refine ⟨tR r i, (tR_ok hP h6).2, by rw [S.a0]; exact (tR_ok hP h6).1, ?_, fun k hk => by omega⟩
    rw [S.a1, hh i h6, if_neg (by omega)]
  · intro i j _ h5 _ h6 e
    rw [S.a0] at e
    exact hP.2.2 i j h5 h6 e
  · rw [S.l2]; exact ⟨0, by omega, rfl⟩
  · intro k hk
    omega
  · intro k hk
    omega
  · exact Or.inl ⟨hsz, S.l1⟩
  · intro _
    exact ⟨S.l3, S.l4⟩
  · intro k hk
    omega
  · intro k hk
    omega
  · intro x y hx hy
    exact ⟨fun q => absurd q (hb0 x y hx hy), fun ⟨k, hk, _⟩ => by omega⟩
  · rw [hsz, frr 25 (by omega)]
/-! the model's side -/
theorem f_deal {n : Nat} (hn : 28 < n) {G : GS} {B : Nat} (V : VG G B) (hB : B < 2 ^ 30) {P : Nat} (h2 : 2 ≤ P) (h4 : P ≤ 4) (y : Int64) :
    ∃ H r h, f_X0_startRound n G (nI P) y = some (H, 1) ∧ dealS G H P r h ∧ isP r ∧ (∀ k, k < 28 → h (tR r k) = if k < 5 * P then nI (k / 5) else -1) ∧ VG H (B + 1) := by
  have hp1 := isP_shu 27 (ini (G.2.2 0) 28) y (by omega) (isP_ini _)
  have hf := f_startRound hn G h2 h4 y
  generalize shu (ini (G.2.2 0) 28) y 27 = r at *
  have S := delG_S G P r (fil (G.2.2 1) (-1) 28) (gv (fil (G.2.2 1) (-1) 28) r (5 * P))
  have hh : ∀ k, k < 28 → gv (fil (G.2.2 1) (-1) 28) r (5 * P) (tR r k) = if k < 5 * P then nI (k / 5) else -1 := fun k hk => by
    rw [gv_at hp1 (5 * P) (by omega) k hk, fil_in (tR_ok hp1 hk).2]
  exact ⟨_, r, _, hf, S, hp1, hh, deal_VG V hB hp1 S h2 h4 hh⟩
