/-! PURE LEVEL: a tile is laid; what holds then -/
def addS (G : GS) (K : GS) (t : Nat) (F : Int32) (W : Int32) (a : Nat) (b : Nat) (a' : Nat) (b' : Nat) : Prop :=
  (K.1 0 = G.1 0) ∧
  (K.1 1 = G.1 1) ∧
  (K.1 2 = G.1 2 + 1) ∧
  (K.1 3 = G.1 3) ∧
  (K.1 4 = G.1 4) ∧
  (K.1 5 = G.1 5) ∧
  (K.1 6 = 0) ∧
  (K.1 7 = G.1 7) ∧
  (K.2.1 0 = G.2.1 0 + 1) ∧
  (K.2.1 1 = nI (lo t + hi t) - F) ∧
  (K.2.1 2 = W) ∧
  (K.2.1 3 = G.2.1 3 + sX (G.2.1 2) + sX W) ∧
  (K.2.1 4 = G.2.1 4 + sY (G.2.1 2) + sY W) ∧
  (K.2.2 0 = G.2.2 0) ∧
  (K.2.2 1 = upd (G.2.2 1) t (-1)) ∧
  (K.2.2 2 = G.2.2 2) ∧
  (K.2.2 3 = G.2.2 3) ∧
  (K.2.2 4 = upd (G.2.2 4) (szG G) (nI t)) ∧
  (K.2.2 5 = upd (G.2.2 5) (szG G) (G.2.1 3)) ∧
  (K.2.2 6 = upd (G.2.2 6) (szG G) (G.2.1 4)) ∧
  (K.2.2 7 = upd (G.2.2 7) (szG G) (G.2.1 2)) ∧
  (K.2.2 8 = upd (G.2.2 8) (szG G) F) ∧
  (K.2.2 9 = covr (covr (G.2.2 9) a b) a' b')
theorem addS.g0 {G : GS} {K : GS} {t : Nat} {F : Int32} {W : Int32} {a : Nat} {b : Nat} {a' : Nat} {b' : Nat} (h : addS G K t F W a b a' b') : K.1 0 = G.1 0 := h.1
theorem addS.g1 {G : GS} {K : GS} {t : Nat} {F : Int32} {W : Int32} {a : Nat} {b : Nat} {a' : Nat} {b' : Nat} (h : addS G K t F W a b a' b') : K.1 1 = G.1 1 := h.2.1
theorem addS.g2 {G : GS} {K : GS} {t : Nat} {F : Int32} {W : Int32} {a : Nat} {b : Nat} {a' : Nat} {b' : Nat} (h : addS G K t F W a b a' b') : K.1 2 = G.1 2 + 1 := h.2.2.1
theorem addS.g3 {G : GS} {K : GS} {t : Nat} {F : Int32} {W : Int32} {a : Nat} {b : Nat} {a' : Nat} {b' : Nat} (h : addS G K t F W a b a' b') : K.1 3 = G.1 3 := h.2.2.2.1
theorem addS.g4 {G : GS} {K : GS} {t : Nat} {F : Int32} {W : Int32} {a : Nat} {b : Nat} {a' : Nat} {b' : Nat} (h : addS G K t F W a b a' b') : K.1 4 = G.1 4 := h.2.2.2.2.1
theorem addS.g5 {G : GS} {K : GS} {t : Nat} {F : Int32} {W : Int32} {a : Nat} {b : Nat} {a' : Nat} {b' : Nat} (h : addS G K t F W a b a' b') : K.1 5 = G.1 5 := h.2.2.2.2.2.1
theorem addS.g6 {G : GS} {K : GS} {t : Nat} {F : Int32} {W : Int32} {a : Nat} {b : Nat} {a' : Nat} {b' : Nat} (h : addS G K t F W a b a' b') : K.1 6 = 0 := h.2.2.2.2.2.2.1
theorem addS.g7 {G : GS} {K : GS} {t : Nat} {F : Int32} {W : Int32} {a : Nat} {b : Nat} {a' : Nat} {b' : Nat} (h : addS G K t F W a b a' b') : K.1 7 = G.1 7 := h.2.2.2.2.2.2.2.1
theorem addS.l0 {G : GS} {K : GS} {t : Nat} {F : Int32} {W : Int32} {a : Nat} {b : Nat} {a' : Nat} {b' : Nat} (h : addS G K t F W a b a' b') : K.2.1 0 = G.2.1 0 + 1 := h.2.2.2.2.2.2.2.2.1
theorem addS.l1 {G : GS} {K : GS} {t : Nat} {F : Int32} {W : Int32} {a : Nat} {b : Nat} {a' : Nat} {b' : Nat} (h : addS G K t F W a b a' b') : K.2.1 1 = nI (lo t + hi t) - F := h.2.2.2.2.2.2.2.2.2.1
theorem addS.l2 {G : GS} {K : GS} {t : Nat} {F : Int32} {W : Int32} {a : Nat} {b : Nat} {a' : Nat} {b' : Nat} (h : addS G K t F W a b a' b') : K.2.1 2 = W := h.2.2.2.2.2.2.2.2.2.2.1
theorem addS.l3 {G : GS} {K : GS} {t : Nat} {F : Int32} {W : Int32} {a : Nat} {b : Nat} {a' : Nat} {b' : Nat} (h : addS G K t F W a b a' b') : K.2.1 3 = G.2.1 3 + sX (G.2.1 2) + sX W := h.2.2.2.2.2.2.2.2.2.2.2.1
theorem addS.l4 {G : GS} {K : GS} {t : Nat} {F : Int32} {W : Int32} {a : Nat} {b : Nat} {a' : Nat} {b' : Nat} (h : addS G K t F W a b a' b') : K.2.1 4 = G.2.1 4 + sY (G.2.1 2) + sY W := h.2.2.2.2.2.2.2.2.2.2.2.2.1
theorem addS.a0 {G : GS} {K : GS} {t : Nat} {F : Int32} {W : Int32} {a : Nat} {b : Nat} {a' : Nat} {b' : Nat} (h : addS G K t F W a b a' b') : K.2.2 0 = G.2.2 0 := h.2.2.2.2.2.2.2.2.2.2.2.2.2.1
theorem addS.a1 {G : GS} {K : GS} {t : Nat} {F : Int32} {W : Int32} {a : Nat} {b : Nat} {a' : Nat} {b' : Nat} (h : addS G K t F W a b a' b') : K.2.2 1 = upd (G.2.2 1) t (-1) := h.2.2.2.2.2.2.2.2.2.2.2.2.2.2.1
theorem addS.a2 {G : GS} {K : GS} {t : Nat} {F : Int32} {W : Int32} {a : Nat} {b : Nat} {a' : Nat} {b' : Nat} (h : addS G K t F W a b a' b') : K.2.2 2 = G.2.2 2 := h.2.2.2.2.2.2.2.2.2.2.2.2.2.2.2.1
theorem addS.a3 {G : GS} {K : GS} {t : Nat} {F : Int32} {W : Int32} {a : Nat} {b : Nat} {a' : Nat} {b' : Nat} (h : addS G K t F W a b a' b') : K.2.2 3 = G.2.2 3 := h.2.2.2.2.2.2.2.2.2.2.2.2.2.2.2.2.1
theorem addS.a4 {G : GS} {K : GS} {t : Nat} {F : Int32} {W : Int32} {a : Nat} {b : Nat} {a' : Nat} {b' : Nat} (h : addS G K t F W a b a' b') : K.2.2 4 = upd (G.2.2 4) (szG G) (nI t) := h.2.2.2.2.2.2.2.2.2.2.2.2.2.2.2.2.2.1
theorem addS.a5 {G : GS} {K : GS} {t : Nat} {F : Int32} {W : Int32} {a : Nat} {b : Nat} {a' : Nat} {b' : Nat} (h : addS G K t F W a b a' b') : K.2.2 5 = upd (G.2.2 5) (szG G) (G.2.1 3) := h.2.2.2.2.2.2.2.2.2.2.2.2.2.2.2.2.2.2.1
theorem addS.a6 {G : GS} {K : GS} {t : Nat} {F : Int32} {W : Int32} {a : Nat} {b : Nat} {a' : Nat} {b' : Nat} (h : addS G K t F W a b a' b') : K.2.2 6 = upd (G.2.2 6) (szG G) (G.2.1 4) := h.2.2.2.2.2.2.2.2.2.2.2.2.2.2.2.2.2.2.2.1
theorem addS.a7 {G : GS} {K : GS} {t : Nat} {F : Int32} {W : Int32} {a : Nat} {b : Nat} {a' : Nat} {b' : Nat} (h : addS G K t F W a b a' b') : K.2.2 7 = upd (G.2.2 7) (szG G) (G.2.1 2) := h.2.2.2.2.2.2.2.2.2.2.2.2.2.2.2.2.2.2.2.2.1
theorem addS.a8 {G : GS} {K : GS} {t : Nat} {F : Int32} {W : Int32} {a : Nat} {b : Nat} {a' : Nat} {b' : Nat} (h : addS G K t F W a b a' b') : K.2.2 8 = upd (G.2.2 8) (szG G) F := h.2.2.2.2.2.2.2.2.2.2.2.2.2.2.2.2.2.2.2.2.2.1
theorem addS.a9 {G : GS} {K : GS} {t : Nat} {F : Int32} {W : Int32} {a : Nat} {b : Nat} {a' : Nat} {b' : Nat} (h : addS G K t F W a b a' b') : K.2.2 9 = covr (covr (G.2.2 9) a b) a' b' := h.2.2.2.2.2.2.2.2.2.2.2.2.2.2.2.2.2.2.2.2.2.2
theorem addS.mk {G : GS} {K : GS} {t : Nat} {F : Int32} {W : Int32} {a : Nat} {b : Nat} {a' : Nat} {b' : Nat} (g0 : K.1 0 = G.1 0) (g1 : K.1 1 = G.1 1) (g2 : K.1 2 = G.1 2 + 1) (g3 : K.1 3 = G.1 3) (g4 : K.1 4 = G.1 4) (g5 : K.1 5 = G.1 5) (g6 : K.1 6 = 0) (g7 : K.1 7 = G.1 7) (l0 : K.2.1 0 = G.2.1 0 + 1) (l1 : K.2.1 1 = nI (lo t + hi t) - F) (l2 : K.2.1 2 = W) (l3 : K.2.1 3 = G.2.1 3 + sX (G.2.1 2) + sX W) (l4 : K.2.1 4 = G.2.1 4 + sY (G.2.1 2) + sY W) (a0 : K.2.2 0 = G.2.2 0) (a1 : K.2.2 1 = upd (G.2.2 1) t (-1)) (a2 : K.2.2 2 = G.2.2 2) (a3 : K.2.2 3 = G.2.2 3) (a4 : K.2.2 4 = upd (G.2.2 4) (szG G) (nI t)) (a5 : K.2.2 5 = upd (G.2.2 5) (szG G) (G.2.1 3)) (a6 : K.2.2 6 = upd (G.2.2 6) (szG G) (G.2.1 4)) (a7 : K.2.2 7 = upd (G.2.2 7) (szG G) (G.2.1 2)) (a8 : K.2.2 8 = upd (G.2.2 8) (szG G) F) (a9 : K.2.2 9 = covr (covr (G.2.2 9) a b) a' b') : addS G K t F W a b a' b' := ⟨g0, g1, g2, g3, g4, g5, g6, g7, l0, l1, l2, l3, l4, a0, a1, a2, a3, a4, a5, a6, a7, a8, a9⟩
/-- behind add, giveTo and the two numbers -/
def bhd (H : GS) (t : Nat) : GS := gS (gS (gA H 1 (upd (H.2.2 1) t (-1))) 2 (H.1 2 + 1)) 6 0
theorem addS_1 (G : GS) (t : Nat) (F : Int32) (a b a' b' : Nat) : addS G (bhd (add1 G t F a b a' b') t) t F (G.2.1 2) a b a' b' :=
  addS.mk rfl rfl rfl rfl rfl rfl rfl rfl rfl rfl rfl rfl rfl rfl rfl rfl rfl rfl rfl rfl rfl rfl rfl
theorem addS_2 (G : GS) (t : Nat) (F W : Int32) (a b a' b' : Nat) : addS G (bhd (add2 G t F W a b a' b') t) t F W a b a' b' :=
  addS.mk rfl rfl rfl rfl rfl rfl rfl rfl rfl rfl rfl rfl rfl rfl rfl rfl rfl rfl rfl rfl rfl rfl rfl
/-! covering a free cell -/
theorem fr_cover {G H : GS} {a b : Nat} (ha : a < 25) (hb : b < 25) (hc : ∀ x y, x < 25 → y < 25 → (bitG H x y ↔ bitG G x y ∨ (x = a ∧ y = b))) (hf : ¬ bitG G a b) : frY H 25 + 1 = frY G 25 := by
  have h1 : ∀ y, y < 25 → y ≠ b → ∀ n, n ≤ 25 → frX H y n = frX G y n := by
    intro y hy e n
    induction n with
    | zero => intro _; rfl
    | succ n ih =>
      intro hn
      simp only [frX]
      rw [ih (by omega)]
      have h2 := hc n y (by omega) hy
      by_cases q : bitG G n y
      · rw [if_pos q, if_pos (h2.mpr (Or.inl q))]
      · rw [if_neg q, if_neg (fun z => (h2.mp z).elim q (fun w => e w.2))]
  have h3 : ∀ n, n ≤ 25 → frX H b n + (if a < n then 1 else 0) = frX G b n := by
    intro n
    induction n with
    | zero => intro _; rfl
    | succ n ih =>
      intro hn
      have h4 := ih (by omega)
      have h2 := hc n b (by omega) hb
      simp only [frX]
      by_cases e : n = a
      · subst e
        rw [if_pos (h2.mpr (Or.inr ⟨rfl, rfl⟩)), if_neg hf, if_pos (by omega)]
        rw [if_neg (by omega)] at h4
        omega
      · have e2 : (if a < n + 1 then 1 else 0) = (if a < n then 1 else 0 : Nat) := by
          by_cases q : a < n
          · rw [if_pos q, if_pos (by omega)]
          · rw [if_neg q, if_neg (by omega)]
        rw [e2]
        by_cases q : bitG G n b
        · rw [if_pos q, if_pos (h2.mpr (Or.inl q))]
          omega
        · rw [if_neg q, if_neg (fun z => (h2.mp z).elim q (fun w => e w.1))]
          omega
  have h5 : ∀ n, n ≤ 25 → frY H n + (if b < n then 1 else 0) = frY G n := by
    intro n
    induction n with
    | zero => intro _; rfl
    | succ n ih =>
      intro hn
      have h4 := ih (by omega)
      simp only [frY]
      by_cases e : n = b
      · subst e
        have h6 := h3 25 (by omega)
        rw [if_pos ha] at h6
        rw [if_pos (by omega)]
        rw [if_neg (by omega)] at h4
        omega
      · rw [h1 n (by omega) e 25 (by omega)]
        have e2 : (if b < n + 1 then 1 else 0) = (if b < n then 1 else 0 : Nat) := by
          by_cases q : b < n
          · rw [if_pos q, if_pos (by omega)]
          · rw [if_neg q, if_neg (by omega)]
        rw [e2]
        omega
  have h7 := h5 25 (by omega)
  rw [if_pos hb] at h7
  exact h7
theorem step_ne {a b a' b' d : Nat} (ha : a < 25) (hb : b < 25) (ha' : a' < 25) (hb' : b' < 25) (hd : d < 4) (hx : nI a + sX (nI d) = nI a') (hy : nI b + sY (nI d) = nI b') : ¬ (a' = a ∧ b' = b) := by
  rintro ⟨rfl, rfl⟩
  have key : ∀ {u : Nat}, u < 25 → nI u + 1 ≠ nI u := fun hu q => by
    rw [nI_1] at q
    have := nI_inj (by omega) (by omega) q
    omega
  have key2 : ∀ {u : Nat}, u < 25 → nI u + (-1) ≠ nI u := fun {u} hu q => by
    apply key hu
    have h2 : nI u + (-1) + 1 = nI u := by
      rw [Int32.add_assoc, show (-1 : Int32) + 1 = 0 by decide, Int32.add_zero]
    rw [q] at h2
    exact h2
  have hd' : d = 0 ∨ d = 1 ∨ d = 2 ∨ d = 3 := by omega
  rcases hd' with rfl | rfl | rfl | rfl
  · rw [show sX (nI 0) = 1 by decide] at hx
    exact key ha' hx
  · rw [show sY (nI 1) = 1 by decide] at hy
    exact key hb' hy
  · rw [show sX (nI 2) = -1 by decide] at hx
    exact key2 ha' hx
  · rw [show sY (nI 3) = -1 by decide] at hy
    exact key2 hb' hy
theorem lay_VG {G K : GS} {B t f w a b a' b' : Nat} {F W : Int32} (V : VG G B) (S : addS G K t F W a b a' b') (hph : G.1 3 = 1) (ht : t < 28) (hh : G.2.2 1 t ≠ -1) (hF : F = nI f) (hf1 : f ≤ lo t + hi t) (hf2 : f ≤ 6) (hf3 : lo t + hi t - f ≤ 6) (hW : W = nI w) (hw : w < 4)
    (hX : G.2.1 3 = nI a) (hY : G.2.1 4 = nI b) (hX2 : G.2.1 3 + sX (G.2.1 2) = nI a') (hY2 : G.2.1 4 + sY (G.2.1 2) = nI b') (ha : a < 25) (hb : b < 25) (ha' : a' < 25) (hb' : b' < 25) (hq : ¬ bitG G a b) (hq' : ¬ bitG G a' b') : VG K B := by
  have hz := size_lt V ht hh
  obtain ⟨d, hd4, hd⟩ := V.di
  obtain ⟨P, tt, q, h1, h2, h3, h4, e1, e2, e3⟩ := V.pl hph
  have hne := step_ne ha hb ha' hb' hd4 (by rw [← hX, ← hd]; exact hX2) (by rw [← hY, ← hd]; exact hY2)
  have hl0 : K.2.1 0 = nI (szG G + 1) := by rw [S.l0, V.sz, nI_1]
  have hsz : szG K = szG G + 1 := by
    unfold szG
    rw [hl0, nI_clamp (by omega)]
    rfl
  have hhb : hbG K = hbG G := by
    unfold hbG
    rw [S.g7]
  have htl : ∀ k, k < szG G → tlG K k = tlG G k := fun k hk => by
    unfold tlG
    rw [S.a4, upd_ne (by omega)]
  have htz : tlG K (szG G) = t := by
    unfold tlG
    rw [S.a4, upd_eq rfl, nI_clamp (by omega)]
  have hnt : ∀ k, k < szG G → tlG G k ≠ t := fun k hk e => by
    apply hh
    rw [← e]
    exact (V.ti k hk).2.2
  have hho : ∀ u, K.2.2 1 u = if u = t then -1 else G.2.2 1 u := fun u => by
    rw [S.a1]
    rfl
  have hbit : ∀ x y, x < 25 → y < 25 → (bitG K x y ↔ bitG (gA G 9 (covr (G.2.2 9) a b)) x y ∨ (x = a' ∧ y = b')) := fun x y hx hy => by
    unfold bitG
    rw [S.a9]
    exact covr_bit (covr (G.2.2 9) a b) ha' hx
  have hbit1 : ∀ x y, x < 25 → y < 25 → (bitG (gA G 9 (covr (G.2.2 9) a b)) x y ↔ bitG G x y ∨ (x = a ∧ y = b)) := fun x y hx hy => covr_bit (G.2.2 9) ha hx
  have hcv : ∀ k, k < szG G → ∀ x y, coversG K k x y ↔ coversG G k x y := fun k hk x y => by
    unfold coversG
    rw [S.a5, S.a6, S.a7, upd_ne (by omega), upd_ne (by omega), upd_ne (by omega)]
  have hcz : ∀ x y, coversG K (szG G) x y ↔ (nI a = x ∧ nI b = y) ∨ (nI a' = x ∧ nI b' = y) := fun x y => by
    unfold coversG
    rw [S.a5, S.a6, S.a7, upd_eq rfl, upd_eq rfl, upd_eq rfl, hX2, hY2, hX, hY]
  refine VG.mk ?_ ?_ ?_ ?_ ?_ ?_ ?_ ?_ ?_ ?_ ?_ ?_ ?_ ?_ ?_ ?_ ?_ ?_ ?_ ?_ ?_
  · rw [hsz]; exact hl0
  · rw [hsz]; exact hz
  · rw [hhb, S.g7]; exact V.hb
  · rw [hhb]; exact V.hb28
  · rw [S.g0]; exact V.rd
  · rw [S.g3]; exact V.ph
  · intro _
    exact ⟨P, tt, 0, h1, h2, h3, by omega, by rw [S.g4]; exact e1, by rw [S.g5]; exact e2, by rw [S.g6]; rfl⟩
  · intro u hu
    rw [hho]
    by_cases e : u = t
    · rw [if_pos e]; exact Or.inl rfl
    · rw [if_neg e]; exact V.ho u hu
  · intro k hk
    rw [hsz] at hk
    by_cases e : k = szG G
    · subst e
      rw [htz, hho, if_pos rfl, S.a4, upd_eq rfl]
      exact ⟨ht, rfl, rfl⟩
    · have h5 := V.ti k (by omega)
      rw [htl k (by omega), hho, if_neg (hnt k (by omega)), S.a4, upd_ne e]
      exact h5
  · intro j k hj hk he
    rw [hsz] at hj hk
    by_cases ej : j = szG G <;> by_cases ek : k = szG G
    · omega
    · subst ej
      rw [htz, htl k (by omega)] at he
      exact absurd he.symm (hnt k (by omega))
    · subst ek
      rw [htz, htl j (by omega)] at he
      exact absurd he (hnt j (by omega))
    · rw [htl j (by omega), htl k (by omega)] at he
      exact V.td j k (by omega) (by omega) he
  · intro i h5 h6
    rw [hhb] at h5
    obtain ⟨u, h7, h8, h9, h10⟩ := V.he i h5 h6
    have hut : u ≠ t := fun e => hh (e ▸ h9)
    refine ⟨u, h7, by rw [S.a0]; exact h8, by rw [hho, if_neg hut]; exact h9, fun k hk => ?_⟩
    rw [hsz] at hk
    by_cases e : k = szG G
    · subst e
      rw [htz]
      exact fun e => hut e.symm
    · rw [htl k (by omega)]
      exact h10 k (by omega)
  · rw [hhb, S.a0]; exact V.hd
  · rw [S.l2]; exact ⟨w, hw, hW⟩
  · intro k hk
    rw [hsz] at hk
    rw [S.a7]
    by_cases e : k = szG G
    · rw [upd_eq e]; exact V.di
    · rw [upd_ne e]; exact V.wa k (by omega)
  · intro k hk
    rw [hsz] at hk
    rw [S.a8]
    by_cases e : k = szG G
    · subst e
      rw [htz, upd_eq rfl]
      exact ⟨f, hf1, hf2, hF⟩
    · rw [upd_ne e, htl k (by omega)]; exact V.fi k (by omega)
  · right
    rw [hsz, S.l1, hF, nI_sub hf1]
    exact ⟨by omega, _, hf3, rfl⟩
  · intro h5
    omega
  · intro k hk
    have e : k = szG G := by omega
    subst e
    rw [S.l3, S.l4, S.l2, S.a5, S.a6, S.a7, upd_eq rfl, upd_eq rfl, upd_eq rfl]
    exact ⟨rfl, rfl⟩
  · intro k hk
    rw [hsz] at hk
    rw [S.a5, S.a6, S.a7]
    by_cases e : k = szG G
    · subst e
      rw [upd_eq rfl, upd_eq rfl, upd_eq rfl]
      exact ⟨a, b, a', b', ha, hb, ha', hb', hX, hY, hX2, hY2⟩
    · rw [upd_ne e, upd_ne e, upd_ne e]; exact V.ge k (by omega)
  · intro x y hx hy
    rw [hbit x y hx hy, hbit1 x y hx hy, V.cv x y hx hy, hsz]
    constructor
    · rintro ((⟨k, h5, h6⟩ | ⟨rfl, rfl⟩) | ⟨rfl, rfl⟩)
      · exact ⟨k, by omega, (hcv k h5 _ _).mpr h6⟩
      · exact ⟨szG G, by omega, (hcz _ _).mpr (Or.inl ⟨rfl, rfl⟩)⟩
      · exact ⟨szG G, by omega, (hcz _ _).mpr (Or.inr ⟨rfl, rfl⟩)⟩
    · rintro ⟨k, h5, h6⟩
      by_cases e : k = szG G
      · subst e
        rcases (hcz _ _).mp h6 with ⟨h7, h8⟩ | ⟨h7, h8⟩
        · exact Or.inl (Or.inr ⟨(nI_inj (by omega) (by omega) h7).symm, (nI_inj (by omega) (by omega) h8).symm⟩)
        · exact Or.inr ⟨(nI_inj (by omega) (by omega) h7).symm, (nI_inj (by omega) (by omega) h8).symm⟩
      · exact Or.inl (Or.inl ⟨k, by omega, (hcv k (by omega) _ _).mp h6⟩)
  · have c1 := fr_cover ha hb hbit1 hq
    have c2 := fr_cover ha' hb' hbit (fun z => ((hbit1 a' b' ha' hb').mp z).elim hq' hne)
    have c3 := V.co
    rw [hsz]
    omega
/-! the model's side -/
theorem lay_trn {G K : GS} {t a b a' b' : Nat} {F W side : Int32} (S : addS G K t F W a b a' b') (hsz : szG K = szG G + 1) : trn K side (szG K) = trn G side (szG G) + if (W - G.2.1 2) &&& 3 = side then 1 else 0 := by
  have h1 : ∀ N, N ≤ szG G → trn K side N = trn G side N := by
    intro N
    induction N with
    | zero => intro _; rfl
    | succ N ih =>
      intro hN
      simp only [trn]
      rw [ih (by omega)]
      have e : trnAt K N = trnAt G N := by
        unfold trnAt
        rw [hsz, S.a7, if_pos (by omega), upd_ne (j := N) (by omega)]
        by_cases q : N + 1 < szG G
        · rw [if_pos q, upd_ne (by omega)]
        · rw [if_neg q, upd_eq (by omega)]
      rw [e]
  rw [hsz]
  show trn K side (szG G) + (if trnAt K (szG G) = side then 1 else 0) = _
  rw [h1 (szG G) (Nat.le_refl _)]
  have e9 : trnAt K (szG G) = (W - G.2.1 2) &&& 3 := by
    unfold trnAt
    rw [if_neg (by omega), S.l2, S.a7, upd_eq rfl]
  rw [e9]
