/-! PURE LEVEL: a new game; the whole text -/
theorem fr_empty {H : GS} (h : ∀ y, y < 25 → H.2.2 9 y = 0) : (∀ x y, x < 25 → y < 25 → ¬ bitG H x y) ∧ frY H 25 = 625 := by
  have hb0 : ∀ x y, x < 25 → y < 25 → ¬ bitG H x y := fun x y hx hy q => by
    apply q
    rw [h y hy, bit_bt _ (by omega)]
    exact b_0 x
  have fr : ∀ y, y < 25 → ∀ n, n ≤ 25 → frX H y n = n := by
    intro y hy n
    induction n with
    | zero => intro _; rfl
    | succ n ih =>
      intro hn
      simp only [frX]
      rw [ih (by omega), if_neg (hb0 n y (by omega) hy)]
  have frr : ∀ n, n ≤ 25 → frY H n = 25 * n := by
    intro n
    induction n with
    | zero => intro _; rfl
    | succ n ih =>
      intro hn
      simp only [frY]
      rw [ih (by omega), fr n (by omega) 25 (by omega)]
      omega
  exact ⟨hb0, frr 25 (by omega)⟩
def clr (i : Nat) : Int32 := if i = 6 then -1 else if 21 ≤ i ∧ i < 49 then -1 else 0
theorem m_clear {n : Nat} (hn : 250 < n) (f : Nat → Int32) : ∃ g, f_X6_clear n f = some g ∧ ∀ i, i < 217 → g i = clr i := by
  have h1 : ∀ g : Nat → Int32, (∀ i, i < 217 → g i = if i = 6 then -1 else 0) → ∃ r, lo2 (f_X6_clear_h26 n) n g (nI 0) = some r ∧ ∀ i, i < 217 → r i = clr i := fun g hg => by
    refine for2 (A := Nat → Int32) 28 (fun j a => ∀ i, i < 217 → a i = if i = 6 then -1 else if 21 ≤ i ∧ i < 21 + j then -1 else 0) _ ?_ ?_ n 0 g (by omega) (by omega) (fun i hi => ?_)
    · intro K a hI
      refine ⟨a, ip_eq (by decide) rfl, fun i hi => ?_⟩
      rw [hI i hi]
      rfl
    · intro K a j hj hI
      left
      refine ⟨upd a (21 + j) (-1), ?_, fun i hi => ?_⟩
      · unfold f_X6_clear_h26
        refine in_eq (fun q => ?_) (ck_eq (by rw [alL_21]; exact in_n (by omega) (by omega)) ?_)
        · have := (leL_28 (by omega)).mp q
          omega
        · rw [alL_21, nI_clamp (by omega), nI_1]
      · by_cases e : i = 21 + j
        · subst e
          rw [upd_eq rfl, if_neg (by omega), if_pos ⟨by omega, by omega⟩]
        · rw [upd_ne e, hI i hi]
          by_cases e6 : i = 6
          · rw [if_pos e6, if_pos e6]
          · rw [if_neg e6, if_neg e6]
            by_cases h2 : 21 ≤ i ∧ i < 21 + j
            · rw [if_pos h2, if_pos ⟨h2.1, by omega⟩]
            · rw [if_neg h2, if_neg (fun q => h2 ⟨q.1, by omega⟩)]
    · rw [hg i hi]
      by_cases e6 : i = 6
      · rw [if_pos e6, if_pos e6]
      · rw [if_neg e6, if_neg e6, if_neg (by omega)]
  unfold f_X6_clear
  refine for2 (A := Nat → Int32) 217 (fun j a => ∀ i, i < j → a i = 0) _ ?_ ?_ n 0 f (by omega) (by omega) (fun i hi => by omega)
  · intro K a hI
    obtain ⟨r, h2, h3⟩ := h1 (upd a 6 (-1)) (fun i hi => by
      by_cases e : i = 6
      · rw [upd_eq e, if_pos e]
      · rw [upd_ne e, if_neg e, hI i hi])
    refine ⟨r, ?_, h3⟩
    unfold f_X6_clear_h2
    exact ip_eq (by decide) (ck_eq (by decide) h2)
  · intro K a j hj hI
    left
    refine ⟨upd a j 0, ?_, fun i hi => ?_⟩
    · unfold f_X6_clear_h2
      refine in_eq (fun q => ?_) (ck_eq (in_n hj (by omega)) ?_)
      · have := (leL_217 (by omega)).mp q
        omega
      · rw [nI_clamp (by omega), nI_1]
    · by_cases e : i = j
      · rw [upd_eq e]
      · rw [upd_ne e]
        exact hI i (by omega)
def newG (G : GS) : GS := emp (gA (gA (gA (gS (gS (gS (gS (gS (gS (gS (gS G 0 0) 1 0) 2 0) 3 0) 4 0) 5 0) 6 0) 7 28) 1 (fil (G.2.2 1) (-1) 28)) 2 (fil (G.2.2 2) 0 4)) 3 (fil (G.2.2 3) 0 4))
theorem f_becomeNew {n : Nat} (hn : 28 < n) (G : GS) : f_X0_becomeNew n G = some (newG G) := by
  unfold f_X0_becomeNew stt
  exact bd_eq (f_fill (by omega) (by omega) _ _) (bd_eq (f_fill (by omega) (by omega) _ _) (bd_eq (f_fill (by omega) (by omega) _ _) (bd_eq (f_becomeEmpty hn _) rfl)))
theorem new_VG (G : GS) : VG (newG G) 0 := by
  have hsz : szG (newG G) = 0 := rfl
  have hhb : hbG (newG G) = 28 := rfl
  have h9 : ∀ y, y < 25 → (newG G).2.2 9 y = 0 := fun y hy => fil_in hy
  obtain ⟨hb0, hfr⟩ := fr_empty h9
  refine VG.mk ?_ ?_ ?_ ?_ ?_ ?_ ?_ ?_ ?_ ?_ ?_ ?_ ?_ ?_ ?_ ?_ ?_ ?_ ?_ ?_ ?_
  · rfl
  · omega
  · rfl
  · omega
  · exact ⟨0, rfl, Nat.le_refl 0⟩
  · exact Or.inl rfl
  · intro q
    exact absurd (show (0 : Int32) = 1 from q) (by decide)
  · intro t ht
    exact Or.inl (fil_in ht)
  · intro k hk
    omega
  · intro j k hj
    omega
  · intro i h1 h2
    omega
  · intro i j h1 h2
    omega
  · exact ⟨0, by omega, rfl⟩
  · intro k hk
    omega
  · intro k hk
    omega
  · exact Or.inl ⟨hsz, rfl⟩
  · intro _
    exact ⟨rfl, rfl⟩
  · intro k hk
    omega
  · intro k hk
    omega
  · intro x y hx hy
    exact ⟨fun q => absurd q (hb0 x y hx hy), fun ⟨k, hk, _⟩ => by omega⟩
  · rw [hsz, hfr]
theorem new_RG (G : GS) {g : Nat → Int32} (hg : ∀ i, i < 217 → g i = clr i) : RG (newG G) g := by
  have hsz : szG (newG G) = 0 := rfl
  have hhb : hbG (newG G) = 28 := rfl
  refine RG.mk ?_ ?_ ?_ ?_ ?_ ?_ ?_ ?_ ?_ ?_ ?_ ?_ ?_ ?_ ?_ ?_ ?_ ?_ ?_ ?_ ?_ ?_
  · rw [hg 0 (by omega)]; rfl
  · rw [hg 1 (by omega)]; rfl
  · rw [hg 2 (by omega)]; rfl
  · rw [hg 3 (by omega)]; rfl
  · rw [hg 4 (by omega)]; rfl
  · rw [hg 5 (by omega)]; rfl
  · rw [hg 6 (by omega)]; rfl
  · rw [hg 7 (by omega)]; rfl
  · rw [hg 8 (by omega)]; rfl
  · rw [hg 9 (by omega)]; rfl
  · rw [hg 10 (by omega)]; rfl
  · rw [hg 11 (by omega)]; rfl
  · rw [hg 12 (by omega)]; rfl
  · intro p hp
    rw [hg _ (by omega)]
    unfold clr
    rw [if_neg (by omega), if_neg (by omega)]
    exact (fil_in hp).symm
  · intro p hp
    rw [hg _ (by omega)]
    unfold clr
    rw [if_neg (by omega), if_neg (by omega)]
    exact (fil_in hp).symm
  · intro t ht
    rw [hg _ (by omega)]
    unfold clr
    rw [if_neg (by omega), if_pos ⟨by omega, by omega⟩]
    exact (fil_in ht).symm
  · intro k hk; omega
  · intro k hk; omega
  · intro k hk; omega
  · intro k hk; omega
  · intro k hk; omega
  · intro k hk; omega
theorem read_all {n1 n2 L : Nat} (hn1 : 28 < n1) (hn2 : 28 < n2) {T : TS} {M0 : MS} (X : tX L T.2 M0) (hT : T.1 = nI L) : ∀ N b, b ≤ L → L - b ≤ N → ∀ (G : GS) (B : Nat) (o : Int32) (r s : Nat → Int32) (m1 m2 m3 : Nat), VG G B → B + N < 2 ^ 20 → RG G s → L - b + 5 < m1 → L - b < m2 → L - b < m3 →
    ∃ o' p' r' s' e, lo1 (f_X6_readText_h39 n2) m2 (TX M0 o (nI b) r s) = some (TX M0 o' p' r' s', e) ∧ lo2 (f_X4_firstError_h16 n1 T) m1 (nI b) (nI b) = some e ∧ (¬ e = -1 ∨ (e = -1 ∧ ∃ G', (∀ c0 : CS, c0.2.1 = T → c0.2.2 0 = G → lo4 (f_X5_doCommandsOfText_h6 n1) m3 c0 o (nI b) (nI b) = some (cG c0 0 G', o')) ∧ VG G' (B + N) ∧ RG G' s')) := by
  have hL := X.l
  have fin : ∀ (G : GS) (B : Nat) (o : Int32) (r s : Nat → Int32) (m1 m2 m3 N : Nat), VG G B → RG G s → 0 < m1 → 0 < m2 → 0 < m3 → ∃ o' p' r' s' e, lo1 (f_X6_readText_h39 n2) m2 (TX M0 o (nI L) r s) = some (TX M0 o' p' r' s', e) ∧ lo2 (f_X4_firstError_h16 n1 T) m1 (nI L) (nI L) = some e ∧ (¬ e = -1 ∨ (e = -1 ∧ ∃ G', (∀ c0 : CS, c0.2.1 = T → c0.2.2 0 = G → lo4 (f_X5_doCommandsOfText_h6 n1) m3 c0 o (nI L) (nI L) = some (cG c0 0 G', o')) ∧ VG G' (B + N) ∧ RG G' s')) := fun G B o r s m1 m2 m3 N V R h1 h2 h3 => by
    obtain ⟨k1, rfl⟩ : ∃ k, m1 = k + 1 := ⟨m1 - 1, by omega⟩
    obtain ⟨k2, rfl⟩ : ∃ k, m2 = k + 1 := ⟨m2 - 1, by omega⟩
    obtain ⟨k3, rfl⟩ : ∃ k, m3 = k + 1 := ⟨m3 - 1, by omega⟩
    refine ⟨o, nI L, r, s, -1, ?_, ?_, Or.inr ⟨rfl, G, fun c0 q1 q2 => ?_, V.le (by omega), R⟩⟩
    · rw [lo1_s]
      refine ip_eq ?_ rfl
      show M0.1 1 ≤ nI L
      rw [X.m1]
      exact nI_le (Nat.le_refl L) (by omega)
    · rw [lo2_s]
      refine ip_eq ?_ (ip_eq hT.symm rfl)
      rw [hT]
      exact nI_le (Nat.le_refl L) (by omega)
    · rw [lo4_s]
      refine bd_eq (v := nI L) (by rw [q1]; exact congrArg some hT) (ip_eq (nI_le (Nat.le_refl L) (by omega)) ?_)
      rw [cG_self q2]
  intro N
  induction N with
  | zero =>
    intro b hb hN G B o r s m1 m2 m3 V hB R h1 h2 h3
    have e : b = L := by omega
    subst e
    exact fin G B o r s m1 m2 m3 0 V R (by omega) (by omega) (by omega)
  | succ N ih =>
    intro b hb hN G B o r s m1 m2 m3 V hB R h1 h2 h3
    by_cases e : b = L
    · subst e
      exact fin G B o r s m1 m2 m3 (N + 1) V R (by omega) (by omega) (by omega)
    · obtain ⟨k2, rfl⟩ : ∃ k, m2 = k + 1 := ⟨m2 - 1, by omega⟩
      have hlt : ¬ (TX M0 o (nI b) r s).1 1 ≤ (TX M0 o (nI b) r s).1 3 := fun q => by
        have q' : M0.1 1 ≤ nI b := q
        rw [X.m1] at q'
        have := (nI_leI (by omega) (by omega)).mp q'
        omega
      rcases step_any hn1 hn2 V (by omega) R o r X hT (b := b) (by omega) with ⟨e9, r', s', g0, g1, g2⟩ | ⟨l, o', r', s', G', g1, g2, g3, g4, g5, g6, g7, g8⟩
      · obtain ⟨k1, rfl⟩ : ∃ k, m1 = k + 5 := ⟨m1 - 5, by omega⟩
        refine ⟨o, nI e9, r', s', nI e9, ?_, g2 k1, Or.inl (nI_ne_m1 (by omega))⟩
        rw [lo1_s]
        exact in_eq hlt (bd_eq g1 (ip_eq rfl rfl))
      · obtain ⟨k1, rfl⟩ : ∃ k, m1 = k + l := ⟨m1 - l, by omega⟩
        obtain ⟨k3, rfl⟩ : ∃ k, m3 = k + l := ⟨m3 - l, by omega⟩
        obtain ⟨o9, p9, r9, s9, e9, q1, q2, q3⟩ := ih (b + l) g3 (by omega) G' (B + 1) o' r' s' k1 k2 k3 g7 (by omega) g8 (by omega) (by omega) (by omega)
        refine ⟨o9, p9, r9, s9, e9, ?_, ?_, ?_⟩
        · rw [lo1_s]
          exact in_eq hlt (bd_eq g4 (in_eq (show ¬ (1 : Int32) = 0 by decide) q1))
        · rw [g5]
          exact q2
        · rcases q3 with q3 | ⟨q3, G9, z1, z2, z3⟩
          · exact Or.inl q3
          · refine Or.inr ⟨q3, G9, fun c0 w1 w2 => ?_, by rw [show B + (N + 1) = B + 1 + N by omega]; exact z2, z3⟩
            rw [g6 c0 w1 w2 k3, z1 (cG c0 0 G') w1 (cG_at c0 0 G'), cG_cG]
