/-! PURE LEVEL: a round is dealt -/
def tR (r : Nat → Int32) (k : Nat) : Nat := (r k).toNatClampNeg
theorem tR_ok {r : Nat → Int32} (h : isP r) {k : Nat} (hk : k < 28) : r k = nI (tR r k) ∧ tR r k < 28 := by
  obtain ⟨t, ht, e⟩ := h.1 k hk
  unfold tR
  rw [e, nI_clamp (by omega)]
  exact ⟨rfl, ht⟩
theorem tR_inj {r : Nat → Int32} (h : isP r) {j k : Nat} (hj : j < 28) (hk : k < 28) (e : tR r j = tR r k) : j = k := by
  apply h.2.2 j k hj hk
  rw [(tR_ok h hj).1, (tR_ok h hk).1, e]
theorem tR_sur {r : Nat → Int32} (h : isP r) {t : Nat} (ht : t < 28) : ∃ k, k < 28 ∧ tR r k = t := by
  obtain ⟨k, hk, e⟩ := h.2.1 t ht
  refine ⟨k, hk, ?_⟩
  unfold tR
  rw [e, nI_clamp (by omega)]
def gv (h0 r : Nat → Int32) : Nat → (Nat → Int32)
  | 0 => h0
  | i + 1 => upd (gv h0 r i) (tR r i) (nI (i / 5))
theorem gv_at {h0 r : Nat → Int32} (h : isP r) : ∀ i, i ≤ 28 → ∀ k, k < 28 → gv h0 r i (tR r k) = if k < i then nI (k / 5) else h0 (tR r k) := by
  intro i
  induction i with
  | zero => intro _ k _; exact (if_neg (by omega)).symm
  | succ i ih =>
    intro hi k hk
    show upd (gv h0 r i) (tR r i) (nI (i / 5)) (tR r k) = _
    by_cases e : k = i
    · subst e
      rw [upd_eq rfl, if_pos (by omega)]
    · rw [upd_ne (fun q => e (tR_inj h hk (by omega) q)), ih (by omega) k hk]
      by_cases h2 : k < i
      · rw [if_pos h2, if_pos (by omega)]
      · rw [if_neg h2, if_neg (by omega)]
def emp (G : GS) : GS := gA (gL (gL (gL (gL (gL G 0 0) 1 (-1)) 2 0) 3 12) 4 12) 9 (fil (G.2.2 9) 0 25)
theorem f_becomeEmpty {n : Nat} (hn : 28 < n) (G : GS) : f_X2_becomeEmpty n G = some (emp G) := by
  unfold f_X2_becomeEmpty stt
  exact bd_eq (f_fill (by omega) (by omega) _ _) rfl
def delG (G : GS) (P : Nat) (r h0 h : Nat → Int32) : GS :=
  gS (gS (gS (gS (gS (emp (gA (gS (gA (gA G 0 r) 1 h0) 7 (nI P * 5)) 1 h)) 4 (nI P)) 5 (jrem (G.1 0) (nI P))) 6 0) 3 1) 0 (G.1 0 + 1)
def dealS (G : GS) (H : GS) (P : Nat) (r : Nat → Int32) (hf : Nat → Int32) : Prop :=
  (H.1 0 = G.1 0 + 1) ∧
  (H.1 1 = G.1 1) ∧
  (H.1 2 = G.1 2) ∧
  (H.1 3 = 1) ∧
  (H.1 4 = nI P) ∧
  (H.1 5 = jrem (G.1 0) (nI P)) ∧
  (H.1 6 = 0) ∧
  (H.1 7 = nI P * 5) ∧
  (H.2.1 0 = 0) ∧
  (H.2.1 1 = -1) ∧
  (H.2.1 2 = 0) ∧
  (H.2.1 3 = 12) ∧
  (H.2.1 4 = 12) ∧
  (H.2.2 0 = r) ∧
  (H.2.2 1 = hf) ∧
  (H.2.2 2 = G.2.2 2) ∧
  (H.2.2 3 = G.2.2 3) ∧
  (∀ y, y < 25 → H.2.2 9 y = 0)
theorem dealS.g0 {G : GS} {H : GS} {P : Nat} {r : Nat → Int32} {hf : Nat → Int32} (h : dealS G H P r hf) : H.1 0 = G.1 0 + 1 := h.1
theorem dealS.g1 {G : GS} {H : GS} {P : Nat} {r : Nat → Int32} {hf : Nat → Int32} (h : dealS G H P r hf) : H.1 1 = G.1 1 := h.2.1
theorem dealS.g2 {G : GS} {H : GS} {P : Nat} {r : Nat → Int32} {hf : Nat → Int32} (h : dealS G H P r hf) : H.1 2 = G.1 2 := h.2.2.1
theorem dealS.g3 {G : GS} {H : GS} {P : Nat} {r : Nat → Int32} {hf : Nat → Int32} (h : dealS G H P r hf) : H.1 3 = 1 := h.2.2.2.1
theorem dealS.g4 {G : GS} {H : GS} {P : Nat} {r : Nat → Int32} {hf : Nat → Int32} (h : dealS G H P r hf) : H.1 4 = nI P := h.2.2.2.2.1
theorem dealS.g5 {G : GS} {H : GS} {P : Nat} {r : Nat → Int32} {hf : Nat → Int32} (h : dealS G H P r hf) : H.1 5 = jrem (G.1 0) (nI P) := h.2.2.2.2.2.1
theorem dealS.g6 {G : GS} {H : GS} {P : Nat} {r : Nat → Int32} {hf : Nat → Int32} (h : dealS G H P r hf) : H.1 6 = 0 := h.2.2.2.2.2.2.1
theorem dealS.g7 {G : GS} {H : GS} {P : Nat} {r : Nat → Int32} {hf : Nat → Int32} (h : dealS G H P r hf) : H.1 7 = nI P * 5 := h.2.2.2.2.2.2.2.1
theorem dealS.l0 {G : GS} {H : GS} {P : Nat} {r : Nat → Int32} {hf : Nat → Int32} (h : dealS G H P r hf) : H.2.1 0 = 0 := h.2.2.2.2.2.2.2.2.1
theorem dealS.l1 {G : GS} {H : GS} {P : Nat} {r : Nat → Int32} {hf : Nat → Int32} (h : dealS G H P r hf) : H.2.1 1 = -1 := h.2.2.2.2.2.2.2.2.2.1
theorem dealS.l2 {G : GS} {H : GS} {P : Nat} {r : Nat → Int32} {hf : Nat → Int32} (h : dealS G H P r hf) : H.2.1 2 = 0 := h.2.2.2.2.2.2.2.2.2.2.1
theorem dealS.l3 {G : GS} {H : GS} {P : Nat} {r : Nat → Int32} {hf : Nat → Int32} (h : dealS G H P r hf) : H.2.1 3 = 12 := h.2.2.2.2.2.2.2.2.2.2.2.1
theorem dealS.l4 {G : GS} {H : GS} {P : Nat} {r : Nat → Int32} {hf : Nat → Int32} (h : dealS G H P r hf) : H.2.1 4 = 12 := h.2.2.2.2.2.2.2.2.2.2.2.2.1
theorem dealS.a0 {G : GS} {H : GS} {P : Nat} {r : Nat → Int32} {hf : Nat → Int32} (h : dealS G H P r hf) : H.2.2 0 = r := h.2.2.2.2.2.2.2.2.2.2.2.2.2.1
theorem dealS.a1 {G : GS} {H : GS} {P : Nat} {r : Nat → Int32} {hf : Nat → Int32} (h : dealS G H P r hf) : H.2.2 1 = hf := h.2.2.2.2.2.2.2.2.2.2.2.2.2.2.1
theorem dealS.a2 {G : GS} {H : GS} {P : Nat} {r : Nat → Int32} {hf : Nat → Int32} (h : dealS G H P r hf) : H.2.2 2 = G.2.2 2 := h.2.2.2.2.2.2.2.2.2.2.2.2.2.2.2.1
theorem dealS.a3 {G : GS} {H : GS} {P : Nat} {r : Nat → Int32} {hf : Nat → Int32} (h : dealS G H P r hf) : H.2.2 3 = G.2.2 3 := h.2.2.2.2.2.2.2.2.2.2.2.2.2.2.2.2.1
theorem dealS.a9 {G : GS} {H : GS} {P : Nat} {r : Nat → Int32} {hf : Nat → Int32} (h : dealS G H P r hf) : ∀ y, y < 25 → H.2.2 9 y = 0 := h.2.2.2.2.2.2.2.2.2.2.2.2.2.2.2.2.2
theorem dealS.mk {G : GS} {H : GS} {P : Nat} {r : Nat → Int32} {hf : Nat → Int32} (g0 : H.1 0 = G.1 0 + 1) (g1 : H.1 1 = G.1 1) (g2 : H.1 2 = G.1 2) (g3 : H.1 3 = 1) (g4 : H.1 4 = nI P) (g5 : H.1 5 = jrem (G.1 0) (nI P)) (g6 : H.1 6 = 0) (g7 : H.1 7 = nI P * 5) (l0 : H.2.1 0 = 0) (l1 : H.2.1 1 = -1) (l2 : H.2.1 2 = 0) (l3 : H.2.1 3 = 12) (l4 : H.2.1 4 = 12) (a0 : H.2.2 0 = r) (a1 : H.2.2 1 = hf) (a2 : H.2.2 2 = G.2.2 2) (a3 : H.2.2 3 = G.2.2 3) (a9 : ∀ y, y < 25 → H.2.2 9 y = 0) : dealS G H P r hf := ⟨g0, g1, g2, g3, g4, g5, g6, g7, l0, l1, l2, l3, l4, a0, a1, a2, a3, a9⟩
theorem delG_S (G : GS) (P : Nat) (r h0 h : Nat → Int32) : dealS G (delG G P r h0 h) P r h :=
  dealS.mk rfl rfl rfl rfl rfl rfl rfl rfl rfl rfl rfl rfl rfl rfl rfl rfl rfl (fun _ hy => fil_in hy)
theorem f_startRound {n : Nat} (hn : 28 < n) (G : GS) {P : Nat} (h2 : 2 ≤ P) (h4 : P ≤ 4) (y : Int64) : f_X0_startRound n G (nI P) y = some (delG G P (shu (ini (G.2.2 0) 28) y 27) (fil (G.2.2 1) (-1) 28) (gv (fil (G.2.2 1) (-1) 28) (shu (ini (G.2.2 0) 28) y 27) (5 * P)), 1) := by
  have hP := isP_shu 27 (ini (G.2.2 0) 28) y (by omega) (isP_ini _)
  unfold f_X0_startRound
  refine in_eq (fun q => ?_) (ip_eq ?_ ?_)
  · have := (gtL_2 (j := P) (by omega)).mp q
    omega
  · exact (geL_4 (by omega)).mpr h4
  refine bd_eq (f_shuffle hn G y) ?_
  refine bd_eq (f_fill (by omega) (by omega) _ _) ?_
  generalize shu (ini (G.2.2 0) 28) y 27 = r at *
  show lo2 (f_X0_startRound_h35 n (nI P) y) n (gS (gA (gA G 0 r) 1 (fil (G.2.2 1) (-1) 28)) 7 (nI P * 5)) 0 = _
  generalize hh0 : fil (G.2.2 1) (-1) 28 = h0
  have e5 : nI P * (5 : Int32) = nI (P * 5) := nI_mul P 5
  refine ex_eq (for2 (A := GS) (5 * P) (fun j g => g = gA (gS (gA (gA G 0 r) 1 h0) 7 (nI P * 5)) 1 (gv h0 r j)) _ ?_ ?_ n 0 _ (by omega) (by omega) (gA_self _ 1).symm)
  · rintro K g rfl
    refine ⟨_, ?_, rfl⟩
    unfold f_X0_startRound_h35
    refine ip_eq ?_ ?_
    · show nI P * 5 ≤ nI (5 * P)
      rw [e5]
      exact (nI_leI (by omega) (by omega)).mpr (by omega)
    · unfold f_X0_startRound_b72
      refine bd_eq (f_becomeEmpty hn _) ?_
      refine ck_eq (nI_ne0 (by omega) (by omega)) ?_
      rfl
  · rintro K g j hj rfl
    left
    have ht := tR_ok hP (k := j) (by omega)
    refine ⟨gA (gS (gA (gA G 0 r) 1 h0) 7 (nI P * 5)) 1 (gv h0 r (j + 1)), ?_, rfl⟩
    unfold f_X0_startRound_h35
    refine in_eq ?_ (in_eq ?_ ?_)
    · show ¬ nI P * 5 ≤ nI j
      rw [e5]
      intro q
      have := (nI_leI (by omega) (by omega)).mp q
      omega
    · intro q
      have := (leL_28 (j := j) (by omega)).mp q
      omega
    · refine ck_eq (in_n (by omega) (by omega)) (ck_eq (by decide) ?_)
      rw [nI_clamp (by omega), show nI j / (5 : Int32) = nI (j / 5) from jdiv_n (d := 5) (by omega) (by decide) (by decide), show (gA (gS (gA (gA G 0 r) 1 h0) 7 (nI P * 5)) 1 (gv h0 r j)).2.2 0 j = nI (tR r j) from ht.1]
      refine bd_eq (f_giveTo_n ht.2 _ _) ?_
      rw [nI_1, gA_gA]
      rfl
theorem deal_VG {G H : GS} {B P : Nat} {r h : Nat → Int32} (V : VG G B) (hB : B < 2 ^ 30) (hP : isP r) (S : dealS G H P r h) (h2 : 2 ≤ P) (h4 : P ≤ 4) (hh : ∀ k, k < 28 → h (tR r k) = if k < 5 * P then nI (k / 5) else -1) : VG H (B + 1) := by
  have hsz : szG H = 0 := by
    unfold szG
    rw [S.l0]
    rfl
  have e7 : H.1 7 = nI (5 * P) := by
    rw [S.g7, show nI P * (5 : Int32) = nI (P * 5) from nI_mul P 5, Nat.mul_comm]
  have hhb : hbG H = 5 * P := by
    unfold hbG
    rw [e7, nI_clamp (by omega)]
  have hb0 : ∀ x y, x < 25 → y < 25 → ¬ bitG H x y := fun x y hx hy q => by
    apply q
    rw [S.a9 y hy, bit_bt _ (by omega)]
    exact b_0 x
  obtain ⟨rr, hr1, hr2⟩ := V.rd
  have fr : ∀ y, y < 25 → ∀ n, n ≤ 25 → frX H y n = n := by
    intro y hy n
    induction n with
    | zero => intro _; rfl
    | succ n ih =>
      intro hn
      simp only [frX]
      rw [ih (by omega), if_neg (hb0 n y (by omega) hy)]
  have frr : ∀ n, n ≤ 25 → frY H n = 25 * n := by
    intro n
    induction n with
    | zero => intro _; rfl
    | succ n ih =>
      intro hn
      simp only [frY]
      rw [ih (by omega), fr n (by omega) 25 (by omega)]
      omega
  refine VG.mk ?_ ?_ ?_ ?_ ?_ ?_ ?_ ?_ ?_ ?_ ?_ ?_ ?_ ?_ ?_ ?_ ?_ ?_ ?_ ?_ ?_
  · rw [hsz, S.l0]; rfl
  · omega
  · rw [hhb]; exact e7
  · omega
  · exact ⟨rr + 1, by rw [S.g0, hr1, nI_1], by omega⟩
  · rw [S.g3]; exact Or.inr (Or.inl rfl)
  · intro _
    refine ⟨P, rr % P, 0, h2, h4, Nat.mod_lt _ (by omega), by omega, S.g4, ?_, S.g6⟩
    rw [S.g5, hr1, jrem_n (by omega) (by omega) (by omega)]
  · intro t ht
    obtain ⟨k, hk, rfl⟩ := tR_sur hP ht
    rw [S.a1, hh k hk]
    split
    · exact Or.inr ⟨k / 5, by omega, rfl⟩
    · exact Or.inl rfl
  · intro k hk
    omega
  · intro j k hj
    omega
  · intro i h5 h6
    rw [hhb] at h5
    refine ⟨tR r i, (tR_ok hP h6).2, by rw [S.a0]; exact (tR_ok hP h6).1, ?_, fun k hk => by omega⟩
    rw [S.a1, hh i h6, if_neg (by omega)]
  · intro i j _ h5 _ h6 e
    rw [S.a0] at e
    exact hP.2.2 i j h5 h6 e
  · rw [S.l2]; exact ⟨0, by omega, rfl⟩
  · intro k hk
    omega
  · intro k hk
    omega
  · exact Or.inl ⟨hsz, S.l1⟩
  · intro _
    exact ⟨S.l3, S.l4⟩
  · intro k hk
    omega
  · intro k hk
    omega
  · intro x y hx hy
    exact ⟨fun q => absurd q (hb0 x y hx hy), fun ⟨k, hk, _⟩ => by omega⟩
  · rw [hsz, frr 25 (by omega)]
/-! the model's side -/
def dealT (s : Nat → Int32) (f : Nat → Int32) (P : Nat) (r : Nat → Int32) : Prop :=
  (f 0 = s 0 + 1) ∧
  (f 1 = 1) ∧
  (f 2 = nI P) ∧
  (f 3 = jrem (s 0) (nI P)) ∧
  (f 4 = nI (28 - 5 * P)) ∧
  (f 5 = 0) ∧
  (f 6 = -1) ∧
  (f 7 = 0) ∧
  (f 8 = 0) ∧
  (f 9 = s 9) ∧
  (f 10 = s 10) ∧
  (f 11 = 0) ∧
  (f 12 = 0) ∧
  (∀ i, 13 ≤ i → i < 21 → f i = s i) ∧
  (∀ k, k < 28 → f (21 + tR r k) = if k < 5 * P then nI (k / 5) else -1) ∧
  (∀ k, 5 * P + k < 28 → f (49 + k) = r (5 * P + k))
theorem dealT.q0 {s : Nat → Int32} {f : Nat → Int32} {P : Nat} {r : Nat → Int32} (h : dealT s f P r) : f 0 = s 0 + 1 := h.1
theorem dealT.q1 {s : Nat → Int32} {f : Nat → Int32} {P : Nat} {r : Nat → Int32} (h : dealT s f P r) : f 1 = 1 := h.2.1
theorem dealT.q2 {s : Nat → Int32} {f : Nat → Int32} {P : Nat} {r : Nat → Int32} (h : dealT s f P r) : f 2 = nI P := h.2.2.1
theorem dealT.q3 {s : Nat → Int32} {f : Nat → Int32} {P : Nat} {r : Nat → Int32} (h : dealT s f P r) : f 3 = jrem (s 0) (nI P) := h.2.2.2.1
theorem dealT.q4 {s : Nat → Int32} {f : Nat → Int32} {P : Nat} {r : Nat → Int32} (h : dealT s f P r) : f 4 = nI (28 - 5 * P) := h.2.2.2.2.1
theorem dealT.q5 {s : Nat → Int32} {f : Nat → Int32} {P : Nat} {r : Nat → Int32} (h : dealT s f P r) : f 5 = 0 := h.2.2.2.2.2.1
theorem dealT.q6 {s : Nat → Int32} {f : Nat → Int32} {P : Nat} {r : Nat → Int32} (h : dealT s f P r) : f 6 = -1 := h.2.2.2.2.2.2.1
theorem dealT.q7 {s : Nat → Int32} {f : Nat → Int32} {P : Nat} {r : Nat → Int32} (h : dealT s f P r) : f 7 = 0 := h.2.2.2.2.2.2.2.1
theorem dealT.q8 {s : Nat → Int32} {f : Nat → Int32} {P : Nat} {r : Nat → Int32} (h : dealT s f P r) : f 8 = 0 := h.2.2.2.2.2.2.2.2.1
theorem dealT.q9 {s : Nat → Int32} {f : Nat → Int32} {P : Nat} {r : Nat → Int32} (h : dealT s f P r) : f 9 = s 9 := h.2.2.2.2.2.2.2.2.2.1
theorem dealT.q10 {s : Nat → Int32} {f : Nat → Int32} {P : Nat} {r : Nat → Int32} (h : dealT s f P r) : f 10 = s 10 := h.2.2.2.2.2.2.2.2.2.2.1
theorem dealT.q11 {s : Nat → Int32} {f : Nat → Int32} {P : Nat} {r : Nat → Int32} (h : dealT s f P r) : f 11 = 0 := h.2.2.2.2.2.2.2.2.2.2.2.1
theorem dealT.q12 {s : Nat → Int32} {f : Nat → Int32} {P : Nat} {r : Nat → Int32} (h : dealT s f P r) : f 12 = 0 := h.2.2.2.2.2.2.2.2.2.2.2.2.1
theorem dealT.sc {s : Nat → Int32} {f : Nat → Int32} {P : Nat} {r : Nat → Int32} (h : dealT s f P r) : ∀ i, 13 ≤ i → i < 21 → f i = s i := h.2.2.2.2.2.2.2.2.2.2.2.2.2.1
theorem dealT.ho {s : Nat → Int32} {f : Nat → Int32} {P : Nat} {r : Nat → Int32} (h : dealT s f P r) : ∀ k, k < 28 → f (21 + tR r k) = if k < 5 * P then nI (k / 5) else -1 := h.2.2.2.2.2.2.2.2.2.2.2.2.2.2.1
theorem dealT.he {s : Nat → Int32} {f : Nat → Int32} {P : Nat} {r : Nat → Int32} (h : dealT s f P r) : ∀ k, 5 * P + k < 28 → f (49 + k) = r (5 * P + k) := h.2.2.2.2.2.2.2.2.2.2.2.2.2.2.2
theorem dealT.mk {s : Nat → Int32} {f : Nat → Int32} {P : Nat} {r : Nat → Int32} (q0 : f 0 = s 0 + 1) (q1 : f 1 = 1) (q2 : f 2 = nI P) (q3 : f 3 = jrem (s 0) (nI P)) (q4 : f 4 = nI (28 - 5 * P)) (q5 : f 5 = 0) (q6 : f 6 = -1) (q7 : f 7 = 0) (q8 : f 8 = 0) (q9 : f 9 = s 9) (q10 : f 10 = s 10) (q11 : f 11 = 0) (q12 : f 12 = 0) (sc : ∀ i, 13 ≤ i → i < 21 → f i = s i) (ho : ∀ k, k < 28 → f (21 + tR r k) = if k < 5 * P then nI (k / 5) else -1) (he : ∀ k, 5 * P + k < 28 → f (49 + k) = r (5 * P + k)) : dealT s f P r := ⟨q0, q1, q2, q3, q4, q5, q6, q7, q8, q9, q10, q11, q12, sc, ho, he⟩
def ow (s r : Nat → Int32) (P : Nat) : Nat → (Nat → Int32)
  | 0 => s
  | k + 1 => upd (upd (ow s r P k) (21 + tR r k) (if k < 5 * P then nI (k / 5) else -1)) (49 + k) 0
theorem ow_out {s r : Nat → Int32} {P : Nat} (h : isP r) {i : Nat} (hi : i < 21 ∨ 77 ≤ i) : ∀ k, k ≤ 28 → ow s r P k i = s i := by
  intro k
  induction k with
  | zero => intro _; rfl
  | succ k ih =>
    intro hk
    have ht := (tR_ok h (k := k) (by omega)).2
    show upd (upd (ow s r P k) (21 + tR r k) _) (49 + k) 0 i = s i
    rw [upd_ne (by omega), upd_ne (by omega), ih (by omega)]
theorem ow_at {s r : Nat → Int32} {P : Nat} (h : isP r) {m : Nat} (hm : m < 28) : ∀ k, k ≤ 28 → m < k → ow s r P k (21 + tR r m) = if m < 5 * P then nI (m / 5) else -1 := by
  intro k
  have h1 := (tR_ok h hm).2
  induction k with
  | zero => intro _ h; omega
  | succ k ih =>
    intro hk hmk
    have ht := (tR_ok h (k := k) (by omega)).2
    show upd (upd (ow s r P k) (21 + tR r k) _) (49 + k) 0 (21 + tR r m) = _
    rw [upd_ne (by omega)]
    by_cases e : m = k
    · subst e
      rw [upd_eq rfl]
    · rw [upd_ne (fun q => e (tR_inj h hm (by omega) (by omega))), ih (by omega) (by omega)]
def hq (s r : Nat → Int32) (P : Nat) : Nat → (Nat → Int32)
  | 0 => s
  | k + 1 => upd (hq s r P k) (49 + k) (r (5 * P + k))
theorem hq_out {s r : Nat → Int32} {P i : Nat} : ∀ k, i < 49 ∨ 49 + k ≤ i → hq s r P k i = s i := by
  intro k
  induction k with
  | zero => intro _; rfl
  | succ k ih =>
    intro hi
    show upd (hq s r P k) (49 + k) _ i = s i
    rw [upd_ne (by omega), ih (by omega)]
theorem hq_at {s r : Nat → Int32} {P m : Nat} : ∀ k, m < k → hq s r P k (49 + m) = r (5 * P + m) := by
  intro k
  induction k with
  | zero => intro h; omega
  | succ k ih =>
    intro hm
    show upd (hq s r P k) (49 + k) _ (49 + m) = _
    by_cases e : m = k
    · subst e
      rw [upd_eq rfl]
    · rw [upd_ne (by omega), ih (by omega)]
def fin9 (s : Nat → Int32) (P : Nat) : Nat → Int32 := upd (upd (upd (upd (upd (upd (upd (upd (upd (upd s 1 1) 2 (nI P)) 3 (jrem (s 0) (nI P))) 0 (s 0 + 1)) 5 0) 6 (-1)) 7 0) 8 0) 11 0) 12 0
def dlS (s r : Nat → Int32) (P : Nat) : Nat → Int32 := fin9 (hq (ow (upd s 4 (nI (28 - 5 * P))) r P 28) r P (28 - 5 * P)) P
theorem dlS_T {s r : Nat → Int32} (h : isP r) {P : Nat} (h4 : P ≤ 4) : dealT s (dlS s r P) P r := by
  have base : ∀ i, i < 21 → i ≠ 4 → hq (ow (upd s 4 (nI (28 - 5 * P))) r P 28) r P (28 - 5 * P) i = s i := fun i hi h5 => by
    rw [hq_out _ (by omega), ow_out h (by omega) 28 (by omega), upd_ne h5]
  unfold dlS fin9
  refine dealT.mk ?_ ?_ ?_ ?_ ?_ ?_ ?_ ?_ ?_ ?_ ?_ ?_ ?_ ?_ ?_ ?_
  · simp (disch := omega) only [upd_ne, upd_eq, base]
  · simp (disch := omega) only [upd_ne, upd_eq]
  · simp (disch := omega) only [upd_ne, upd_eq]
  · simp (disch := omega) only [upd_ne, upd_eq, base]
  · simp (disch := omega) only [upd_ne, upd_eq]
    rw [hq_out _ (by omega), ow_out h (by omega) 28 (by omega), upd_eq rfl]
  · simp (disch := omega) only [upd_ne, upd_eq]
  · simp (disch := omega) only [upd_ne, upd_eq]
  · simp (disch := omega) only [upd_ne, upd_eq]
  · simp (disch := omega) only [upd_ne, upd_eq]
  · simp (disch := omega) only [upd_ne, upd_eq, base]
  · simp (disch := omega) only [upd_ne, upd_eq, base]
  · simp (disch := omega) only [upd_ne, upd_eq]
  · simp (disch := omega) only [upd_ne, upd_eq]
  · intro i h1 h2
    simp (disch := omega) only [upd_ne, upd_eq, base]
  · intro k hk
    have ht := (tR_ok h hk).2
    simp (disch := omega) only [upd_ne, upd_eq]
    rw [hq_out _ (by omega), ow_at h hk 28 (by omega) hk]
  · intro k hk
    simp (disch := omega) only [upd_ne, upd_eq]
    rw [hq_at _ (by omega)]
theorem m_h32 {n j : Nat} (hn : 28 < n) (hj : j ≠ 6) (M : MS) {P : Nat} (h4 : P ≤ 4) (y : Int64) : ∀ k m f x, k < 28 → k < m → lo3 (f_X6_dealOn_h32 n j (nI P) y) m (mA M 6 f) x (nI k) = lo2 (f_X6_dealOn_h112 n j (nI P) y) n (mA (mA M 6 (shu f x k)) j (upd (M.2 j) 4 (nI (28 - 5 * P)))) 0 := by
  intro k
  induction k with
  | zero =>
    intro m f x _ hm
    obtain ⟨m', rfl⟩ : ∃ m', m = m' + 1 := ⟨m - 1, by omega⟩
    rw [lo3_s]
    refine ip_eq (by decide) (ck_eq (by decide) ?_)
    rw [mA_ne M hj, tnL_4, muL_5, slL_28 (by omega)]
    rfl
  | succ k ih =>
    intro m f x hk hm
    obtain ⟨m', rfl⟩ : ∃ m', m = m' + 1 := ⟨m - 1, by omega⟩
    have h1 := ix_lt (lcg x) k
    have h2 := ih m' (swp f (k + 1) (ix (lcg x) % (k + 1 + 1))) (lcg x) (by omega) (by omega)
    have h3 := jr_ix (lcg x) (m := k + 1 + 1) (by omega) (by omega)
    have h5 : shu f x (k + 1) = shu (swp f (k + 1) (ix (lcg x) % (k + 1 + 1))) (lcg x) k := rfl
    rw [lo3_s, h5]
    unfold f_X6_dealOn_h32 stt
    have h6 : x * (6364136223846793005 : Int64) + (1442695040888963407 : Int64) = lcg x := rfl
    rw [h6]
    generalize lcg x = x' at *
    refine in_eq (fun q => ?_) ?_
    · have := (geL_0 (j := k + 1) (by omega)).mp q
      omega
    · refine ck_eq (by rw [adL_1]; exact nI_ne0 (by omega) (by omega)) ?_
      rw [adL_1, h3]
      generalize ix x' % (k + 1 + 1) = w at *
      refine ck_eq (in_n (by omega) (by omega)) (ck_eq (in_n (by omega) (by omega)) (ck_eq (in_n (by omega) (by omega)) (ck_eq (in_n (by omega) (by omega)) ?_)))
      rw [nI_clamp (n := k + 1) (by omega), nI_clamp (n := w) (by omega), nI_m1, mA_at, mA_mA, mA_at, mA_mA]
      exact h2
theorem m_h112 {n j : Nat} (hn : 28 < n) (hj : j ≠ 6) (M : MS) {P : Nat} (h4 : P ≤ 4) (y : Int64) {r s : Nat → Int32} (hr : isP r) : ∀ d k m, k + d = 28 → d < m → lo2 (f_X6_dealOn_h112 n j (nI P) y) m (mA (mA M 6 r) j (ow s r P k)) (nI k) = lo2 (f_X6_dealOn_h166 n j (nI P) y) n (mA (mA M 6 r) j (ow s r P 28)) 0 := by
  intro d
  induction d with
  | zero =>
    intro k m h1 h2
    obtain ⟨m', rfl⟩ : ∃ m', m = m' + 1 := ⟨m - 1, by omega⟩
    have e : k = 28 := by omega
    subst e
    rw [lo2_s]
    exact ip_eq (by decide) rfl
  | succ d ih =>
    intro k m h1 h2
    obtain ⟨m', rfl⟩ : ∃ m', m = m' + 1 := ⟨m - 1, by omega⟩
    have ht := tR_ok hr (k := k) (by omega)
    have h3 := ih (k + 1) m' (by omega) (by omega)
    have e6 : (mA (mA M 6 r) j (ow s r P k)).2 6 = r := by rw [mA_ne _ hj.symm, mA_at]
    have e5 : nI k / (5 : Int32) = nI (k / 5) := jdiv_n (d := 5) (by omega) (by decide) (by decide)
    have hb : ∀ v, f_X6_dealOn_b148 n j (nI P) y (lo2 (f_X6_dealOn_h112 n j (nI P) y) m') (mA (mA M 6 r) j (ow s r P k)) (nI k) v (nI (21 + tR r k)) = lo2 (f_X6_dealOn_h112 n j (nI P) y) m' (mA (mA M 6 r) j (upd (upd (ow s r P k) (21 + tR r k) v) (49 + k) 0)) (nI (k + 1)) := fun v => by
      unfold f_X6_dealOn_b148 stt
      refine ck_eq (in_n (by omega) (by omega)) ?_
      rw [alL_49]
      refine ck_eq (in_n (by omega) (by omega)) ?_
      rw [nI_clamp (by omega), nI_clamp (by omega), mA_at, mA_mA, mA_at, mA_mA, nI_1]
    rw [lo2_s]
    generalize lo2 (f_X6_dealOn_h112 n j (nI P) y) m' = K at *
    unfold f_X6_dealOn_h112
    refine in_eq (fun q => ?_) (ck_eq (by decide) (ck_eq (in_n (by omega) (by omega)) ?_))
    · have := (leL_28 (j := k) (by omega)).mp q
      omega
    · rw [e6, e5, nI_clamp (by omega), ht.1, alL_21]
      by_cases h : k < 5 * P
      · refine in_eq (fun q => ?_) ?_
        · have := (nI_leI (by omega) (by omega)).mp q
          omega
        · rw [hb, ← h3]
          show _ = K (mA (mA M 6 r) j (upd (upd (ow s r P k) (21 + tR r k) (if k < 5 * P then nI (k / 5) else -1)) (49 + k) 0)) _
          rw [if_pos h]
      · refine ip_eq ?_ ?_
        · exact (nI_leI (by omega) (by omega)).mpr (by omega)
        · rw [hb, ← h3]
          show _ = K (mA (mA M 6 r) j (upd (upd (ow s r P k) (21 + tR r k) (if k < 5 * P then nI (k / 5) else -1)) (49 + k) 0)) _
          rw [if_neg h]
theorem m_h166 {n j : Nat} (hj : j ≠ 6) (M : MS) {P : Nat} (h2 : 2 ≤ P) (h4 : P ≤ 4) (y : Int64) {r s : Nat → Int32} (h0 : s 4 = nI (28 - 5 * P)) : ∀ d k m, k + d = 28 - 5 * P → d < m → lo2 (f_X6_dealOn_h166 n j (nI P) y) m (mA (mA M 6 r) j (hq s r P k)) (nI k) = some (mA (mA M 6 r) j (fin9 (hq s r P (28 - 5 * P)) P), s 0 + 1) := by
  intro d
  induction d with
  | zero =>
    intro k m h1 h3
    obtain ⟨m', rfl⟩ : ∃ m', m = m' + 1 := ⟨m - 1, by omega⟩
    have e : k = 28 - 5 * P := by omega
    have e4 : hq s r P k 4 = nI k := by rw [hq_out _ (by omega), h0, e]
    have e0 : hq s r P k 0 = s 0 := hq_out _ (by omega)
    rw [lo2_s]
    unfold f_X6_dealOn_h166
    refine ck_eq (by decide) ?_
    refine ip_eq (by rw [mA_at, tnL_4, e4]; exact nI_le (Nat.le_refl k) (by omega)) ?_
    rw [← e]
    unfold fin9
    simp only [stt, mA_at, mA_mA, tnL_0, tnL_1, tnL_2, tnL_3, tnL_5, tnL_6, tnL_7, tnL_8, tnL_11, tnL_12, ckL_0, ckL_1, ckL_2, ckL_3, ckL_5, ckL_6, ckL_7, ckL_8, ckL_11, ckL_12]
    refine ck_eq (nI_ne0 (by omega) (by omega)) ?_
    simp (disch := omega) only [upd_ne, upd_eq, e0]
  | succ d ih =>
    intro k m h1 h3
    obtain ⟨m', rfl⟩ : ∃ m', m = m' + 1 := ⟨m - 1, by omega⟩
    have h5 := ih (k + 1) m' (by omega) (by omega)
    have e4 : hq s r P k 4 = nI (28 - 5 * P) := by rw [hq_out _ (by omega), h0]
    have e6 : (mA (mA M 6 r) j (hq s r P k)).2 6 = r := by rw [mA_ne _ hj.symm, mA_at]
    rw [lo2_s]
    generalize lo2 (f_X6_dealOn_h166 n j (nI P) y) m' = K at *
    unfold f_X6_dealOn_h166
    refine ck_eq (by decide) (in_eq (fun q => ?_) (ck_eq (by rw [muL_5, nI_add]; exact in_n (by omega) (by omega)) (ck_eq (by rw [alL_49]; exact in_n (by omega) (by omega)) ?_)))
    · rw [mA_at, tnL_4, e4] at q
      have := (nI_leI (by omega) (by omega)).mp q
      omega
    · unfold stt
      rw [e6, muL_5, nI_add, alL_49, nI_clamp (by omega), nI_clamp (by omega), mA_at, mA_mA, nI_1]
      exact h5
theorem m_dealOn {n j : Nat} (hn : 28 < n) (hj : j ≠ 6) (M : MS) {P : Nat} (h2 : 2 ≤ P) (h4 : P ≤ 4) (y : Int64) : f_X6_dealOn n j M (nI P) y = some (mA (mA M 6 (shu (ini (M.2 6) 28) y 27)) j (dlS (M.2 j) (shu (ini (M.2 6) 28) y 27) P), M.2 j 0 + 1) := by
  have hP := isP_shu 27 (ini (M.2 6) 28) y (by omega) (isP_ini _)
  unfold f_X6_dealOn
  refine ex_eq (for2 (A := MS) 28 (fun i g => g = mA M 6 (ini (M.2 6) i)) _ ?_ ?_ n 0 M (by omega) (by omega) (by rw [ini_0, mA_self]))
  · rintro K g rfl
    refine ⟨_, ?_, rfl⟩
    refine ip_eq (by decide) ?_
    refine (m_h32 hn hj M h4 y 27 n _ y (by omega) (by omega)).trans ?_
    generalize shu (ini (M.2 6) 28) y 27 = r at *
    refine (m_h112 (s := upd (M.2 j) 4 (nI (28 - 5 * P))) hn hj M h4 y hP 28 0 n (by omega) (by omega)).trans ?_
    have h0 : ow (upd (M.2 j) 4 (nI (28 - 5 * P))) r P 28 4 = nI (28 - 5 * P) := by
      rw [ow_out hP (by omega) 28 (by omega), upd_eq rfl]
    have e0 : ow (upd (M.2 j) 4 (nI (28 - 5 * P))) r P 28 0 = M.2 j 0 := by
      rw [ow_out hP (by omega) 28 (by omega), upd_ne (by omega)]
    refine (m_h166 (n := n) (s := ow (upd (M.2 j) 4 (nI (28 - 5 * P))) r P 28) hj M h2 h4 y h0 (28 - 5 * P) 0 n (by omega) (by omega)).trans ?_
    rw [e0]
    rfl
  · rintro K g i hi rfl
    left
    refine ⟨mA M 6 (ini (M.2 6) (i + 1)), ?_, rfl⟩
    unfold f_X6_dealOn_h3
    refine in_eq (fun q => ?_) ?_
    · have := (leL_28 (j := i) (by omega)).mp q
      omega
    · refine ck_eq (in_n hi (by omega)) ?_
      rw [nI_clamp (by omega), mA_at, mA_mA, ini_s, nI_1]
theorem deal_RG {G H : GS} {s f r r' h : Nat → Int32} {B P : Nat} (V : VG G B) (R : RG G s) (h4 : P ≤ 4) (hP : isP r) (S : dealS G H P r h) (hh : ∀ k, k < 28 → h (tR r k) = if k < 5 * P then nI (k / 5) else -1) (T : dealT s f P r') (hr : ∀ k, k < 28 → r' k = r k) : RG H f := by
  have hsz : szG H = 0 := by
    unfold szG
    rw [S.l0]
    rfl
  have e7 : H.1 7 = nI (5 * P) := by
    rw [S.g7, show nI P * (5 : Int32) = nI (P * 5) from nI_mul P 5, Nat.mul_comm]
  have hhb : hbG H = 5 * P := by
    unfold hbG
    rw [e7, nI_clamp (by omega)]
  refine RG.mk ?_ ?_ ?_ ?_ ?_ ?_ ?_ ?_ ?_ ?_ ?_ ?_ ?_ ?_ ?_ ?_ ?_ ?_ ?_ ?_ ?_ ?_
  · rw [T.q0, S.g0, R.r0]
  · rw [T.q1, S.g3]
  · rw [T.q2, S.g4]
  · rw [T.q3, S.g5, R.r0]
  · rw [T.q4, hhb]
  · rw [T.q5, hsz]; rfl
  · rw [T.q6, S.l1]
  · rw [T.q7, S.l2]
  · rw [T.q8, S.g6]
  · rw [T.q9, S.g1]; exact R.r9
  · rw [T.q10, S.g2]; exact R.r10
  · rw [T.q11, hsz]; rfl
  · rw [T.q12, hsz]; rfl
  · intro p hp
    rw [T.sc _ (by omega) (by omega), S.a2]; exact R.sc p hp
  · intro p hp
    rw [T.sc _ (by omega) (by omega), S.a3]; exact R.wo p hp
  · intro t ht
    obtain ⟨k, hk, rfl⟩ := tR_sur hP ht
    have e : tR r k = tR r' k := by
      unfold tR
      rw [hr k hk]
    rw [S.a1, hh k hk, e, T.ho k hk]
  · intro k hk
    rw [hhb] at hk ⊢
    rw [T.he k hk, S.a0, hr _ hk]
  · intro k hk; omega
  · intro k hk; omega
  · intro k hk; omega
  · intro k hk; omega
  · intro k hk; omega
theorem deal_both {n1 n2 : Nat} (hn1 : 28 < n1) (hn2 : 28 < n2) {G : GS} {B : Nat} (V : VG G B) (hB : B < 2 ^ 30) {j : Nat} (hj : j ≠ 6) {M : MS} (R : RG G (M.2 j)) {P : Nat} (h2 : 2 ≤ P) (h4 : P ≤ 4) (y : Int64) :
    ∃ H s' r', f_X0_startRound n1 G (nI P) y = some (H, 1) ∧ f_X6_dealOn n2 j M (nI P) y = some (mA (mA M 6 r') j s', H.1 0) ∧ VG H (B + 1) ∧ RG H s' ∧ H.1 0 = G.1 0 + 1 := by
  have hp1 := isP_shu 27 (ini (G.2.2 0) 28) y (by omega) (isP_ini _)
  have hp2 := isP_shu 27 (ini (M.2 6) 28) y (by omega) (isP_ini _)
  have hr : ∀ k, k < 28 → shu (ini (M.2 6) 28) y 27 k = shu (ini (G.2.2 0) 28) y 27 k := shu_congr 27 _ _ y (by omega) (fun i hi => by
    show (if i < 28 then nI i else _) = (if i < 28 then nI i else _)
    rw [if_pos hi, if_pos hi])
  have hf := f_startRound hn1 G h2 h4 y
  have hm := m_dealOn hn2 hj M h2 h4 y
  generalize shu (ini (G.2.2 0) 28) y 27 = r at *
  generalize shu (ini (M.2 6) 28) y 27 = r' at *
  have S := delG_S G P r (fil (G.2.2 1) (-1) 28) (gv (fil (G.2.2 1) (-1) 28) r (5 * P))
  have hh : ∀ k, k < 28 → gv (fil (G.2.2 1) (-1) 28) r (5 * P) (tR r k) = if k < 5 * P then nI (k / 5) else -1 := fun k hk => by
    rw [gv_at hp1 (5 * P) (by omega) k hk, fil_in (tR_ok hp1 hk).2]
  refine ⟨_, dlS (M.2 j) r' P, r', hf, ?_, deal_VG V hB hp1 S h2 h4 hh, deal_RG V R h4 hp1 S hh (dlS_T hp2 h4) hr, S.g0⟩
  rw [hm, S.g0, R.r0]
