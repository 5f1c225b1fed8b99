/-! PURE LEVEL: a tile is laid, played, refused -/
theorem dir_rem {d : Nat} (hd : d < 4) : jrem (nI d + 1) (4 : Int32) = (nI d + 1) &&& 3 ∧ jrem (nI d + 3) (4 : Int32) = (nI d + 3) &&& 3 ∧ (((nI d + 1) &&& 3) - nI d) &&& 3 = 1 ∧ (((nI d + 3) &&& 3) - nI d) &&& 3 = 3 ∧ (nI d - nI d) &&& 3 = 0 ∧ (nI d + 1) &&& 3 = nI ((d + 1) % 4) ∧ (nI d + 3) &&& 3 = nI ((d + 3) % 4) :=
  (by decide +kernel : ∀ d, d < 4 → jrem (nI d + 1) (4 : Int32) = (nI d + 1) &&& 3 ∧ jrem (nI d + 3) (4 : Int32) = (nI d + 3) &&& 3 ∧ (((nI d + 1) &&& 3) - nI d) &&& 3 = 1 ∧ (((nI d + 3) &&& 3) - nI d) &&& 3 = 3 ∧ (nI d - nI d) &&& 3 = 0 ∧ (nI d + 1) &&& 3 = nI ((d + 1) % 4) ∧ (nI d + 3) &&& 3 = nI ((d + 3) % 4)) d hd
def endF (G : GS) (t : Nat) (F : Int32) : Prop := (szG G = 0 ∧ F = nI (lo t) ∧ G.2.1 1 = -1) ∨ (0 < szG G ∧ F = G.2.1 1 ∧ ∃ e, e ≤ 6 ∧ G.2.1 1 = nI e)
theorem f_add {t : Nat} (ht : t < 28) {G : GS} {B : Nat} (V : VG G B) (hz : szG G < 28) (lf F : Int32) (hF : endF G t F) : f_X2_add G (nI t) lf = f_X2_add_b35 (nI t) lf G F := by
  unfold f_X2_add
  rw [V.sz]
  refine in_eq (nI_pos (by omega)) ?_
  refine ip_eq ((gtL_28 (by omega)).mpr hz) ?_
  rcases hF with ⟨h1, h2, h3⟩ | ⟨h1, h2, e, h3, h4⟩
  · refine ip_eq (by rw [h1]; rfl) ?_
    refine bd_eq (f_lowOf_n ht) ?_
    rw [h2]
  · refine in_eq (nI_ne0 (by omega) (by omega)) ?_
    rw [h2]
theorem lay_m1 {n1 : Nat} {G : GS} {B : Nat} (V : VG G B) (lf : Int32) : f_X0_layIfPossible n1 G (-1) lf = some (G, 0) := by
  unfold f_X0_layIfPossible
  by_cases hp : G.1 3 = 1
  · have h1 : f_X0_reasonAgainst G (-1) = some 1 := by
      obtain ⟨P, tt, q, h1, h2, h3, h4, e1, e2, e3⟩ := V.pl hp
      unfold f_X0_reasonAgainst
      refine bd_eq f_isPlayed ?_
      rw [if_pos hp]
      refine in_eq (by decide) ?_
      refine bd_eq (v := -1) rfl ?_
      rw [e2]
      exact if_neg (nI_ne_m1' (by omega))
    exact bd_eq h1 rfl
  · have h1 : f_X0_reasonAgainst G (-1) = some (-1) := by
      unfold f_X0_reasonAgainst
      refine bd_eq f_isPlayed ?_
      rw [if_neg hp]
      exact if_pos rfl
    exact bd_eq h1 rfl
def layS (G : GS) (K : GS) (t : Nat) (f : Nat) (w : Nat) (d : Nat) (a : Nat) (b : Nat) (a' : Nat) (b' : Nat) (P : Nat) (tt : Nat) (lf : Int32) : Prop :=
  (addS G K t (nI f) (nI w) a b a' b') ∧
  (G.1 3 = 1) ∧
  (G.2.2 1 t = nI tt) ∧
  (d < 4) ∧
  (G.2.1 2 = nI d) ∧
  (w < 4) ∧
  (¬ lo t = hi t → w = d) ∧
  (lo t = hi t → lf = 0 → w = (d + 1) % 4) ∧
  (lo t = hi t → ¬ lf = 0 → w = (d + 3) % 4) ∧
  (szG G = 0 → f = lo t) ∧
  (0 < szG G → G.2.1 1 = nI f) ∧
  (f = lo t ∨ f = hi t) ∧
  (G.2.1 3 = nI a) ∧
  (G.2.1 4 = nI b) ∧
  (G.2.1 3 + sX (G.2.1 2) = nI a') ∧
  (G.2.1 4 + sY (G.2.1 2) = nI b') ∧
  (a < 25) ∧
  (b < 25) ∧
  (a' < 25) ∧
  (b' < 25) ∧
  (¬ bitG G a b) ∧
  (¬ bitG G a' b') ∧
  (2 ≤ P) ∧
  (P ≤ 4) ∧
  (tt < P) ∧
  (G.1 4 = nI P) ∧
  (G.1 5 = nI tt)
theorem layS.ad {G : GS} {K : GS} {t : Nat} {f : Nat} {w : Nat} {d : Nat} {a : Nat} {b : Nat} {a' : Nat} {b' : Nat} {P : Nat} {tt : Nat} {lf : Int32} (h : layS G K t f w d a b a' b' P tt lf) : addS G K t (nI f) (nI w) a b a' b' := h.1
theorem layS.ph {G : GS} {K : GS} {t : Nat} {f : Nat} {w : Nat} {d : Nat} {a : Nat} {b : Nat} {a' : Nat} {b' : Nat} {P : Nat} {tt : Nat} {lf : Int32} (h : layS G K t f w d a b a' b' P tt lf) : G.1 3 = 1 := h.2.1
theorem layS.hh {G : GS} {K : GS} {t : Nat} {f : Nat} {w : Nat} {d : Nat} {a : Nat} {b : Nat} {a' : Nat} {b' : Nat} {P : Nat} {tt : Nat} {lf : Int32} (h : layS G K t f w d a b a' b' P tt lf) : G.2.2 1 t = nI tt := h.2.2.1
theorem layS.d4 {G : GS} {K : GS} {t : Nat} {f : Nat} {w : Nat} {d : Nat} {a : Nat} {b : Nat} {a' : Nat} {b' : Nat} {P : Nat} {tt : Nat} {lf : Int32} (h : layS G K t f w d a b a' b' P tt lf) : d < 4 := h.2.2.2.1
theorem layS.hd {G : GS} {K : GS} {t : Nat} {f : Nat} {w : Nat} {d : Nat} {a : Nat} {b : Nat} {a' : Nat} {b' : Nat} {P : Nat} {tt : Nat} {lf : Int32} (h : layS G K t f w d a b a' b' P tt lf) : G.2.1 2 = nI d := h.2.2.2.2.1
theorem layS.w4 {G : GS} {K : GS} {t : Nat} {f : Nat} {w : Nat} {d : Nat} {a : Nat} {b : Nat} {a' : Nat} {b' : Nat} {P : Nat} {tt : Nat} {lf : Int32} (h : layS G K t f w d a b a' b' P tt lf) : w < 4 := h.2.2.2.2.2.1
theorem layS.wd {G : GS} {K : GS} {t : Nat} {f : Nat} {w : Nat} {d : Nat} {a : Nat} {b : Nat} {a' : Nat} {b' : Nat} {P : Nat} {tt : Nat} {lf : Int32} (h : layS G K t f w d a b a' b' P tt lf) : ¬ lo t = hi t → w = d := h.2.2.2.2.2.2.1
theorem layS.w1 {G : GS} {K : GS} {t : Nat} {f : Nat} {w : Nat} {d : Nat} {a : Nat} {b : Nat} {a' : Nat} {b' : Nat} {P : Nat} {tt : Nat} {lf : Int32} (h : layS G K t f w d a b a' b' P tt lf) : lo t = hi t → lf = 0 → w = (d + 1) % 4 := h.2.2.2.2.2.2.2.1
theorem layS.w3 {G : GS} {K : GS} {t : Nat} {f : Nat} {w : Nat} {d : Nat} {a : Nat} {b : Nat} {a' : Nat} {b' : Nat} {P : Nat} {tt : Nat} {lf : Int32} (h : layS G K t f w d a b a' b' P tt lf) : lo t = hi t → ¬ lf = 0 → w = (d + 3) % 4 := h.2.2.2.2.2.2.2.2.1
theorem layS.f0 {G : GS} {K : GS} {t : Nat} {f : Nat} {w : Nat} {d : Nat} {a : Nat} {b : Nat} {a' : Nat} {b' : Nat} {P : Nat} {tt : Nat} {lf : Int32} (h : layS G K t f w d a b a' b' P tt lf) : szG G = 0 → f = lo t := h.2.2.2.2.2.2.2.2.2.1
theorem layS.fs {G : GS} {K : GS} {t : Nat} {f : Nat} {w : Nat} {d : Nat} {a : Nat} {b : Nat} {a' : Nat} {b' : Nat} {P : Nat} {tt : Nat} {lf : Int32} (h : layS G K t f w d a b a' b' P tt lf) : 0 < szG G → G.2.1 1 = nI f := h.2.2.2.2.2.2.2.2.2.2.1
theorem layS.fc {G : GS} {K : GS} {t : Nat} {f : Nat} {w : Nat} {d : Nat} {a : Nat} {b : Nat} {a' : Nat} {b' : Nat} {P : Nat} {tt : Nat} {lf : Int32} (h : layS G K t f w d a b a' b' P tt lf) : f = lo t ∨ f = hi t := h.2.2.2.2.2.2.2.2.2.2.2.1
theorem layS.hX {G : GS} {K : GS} {t : Nat} {f : Nat} {w : Nat} {d : Nat} {a : Nat} {b : Nat} {a' : Nat} {b' : Nat} {P : Nat} {tt : Nat} {lf : Int32} (h : layS G K t f w d a b a' b' P tt lf) : G.2.1 3 = nI a := h.2.2.2.2.2.2.2.2.2.2.2.2.1
theorem layS.hY {G : GS} {K : GS} {t : Nat} {f : Nat} {w : Nat} {d : Nat} {a : Nat} {b : Nat} {a' : Nat} {b' : Nat} {P : Nat} {tt : Nat} {lf : Int32} (h : layS G K t f w d a b a' b' P tt lf) : G.2.1 4 = nI b := h.2.2.2.2.2.2.2.2.2.2.2.2.2.1
theorem layS.hX2 {G : GS} {K : GS} {t : Nat} {f : Nat} {w : Nat} {d : Nat} {a : Nat} {b : Nat} {a' : Nat} {b' : Nat} {P : Nat} {tt : Nat} {lf : Int32} (h : layS G K t f w d a b a' b' P tt lf) : G.2.1 3 + sX (G.2.1 2) = nI a' := h.2.2.2.2.2.2.2.2.2.2.2.2.2.2.1
theorem layS.hY2 {G : GS} {K : GS} {t : Nat} {f : Nat} {w : Nat} {d : Nat} {a : Nat} {b : Nat} {a' : Nat} {b' : Nat} {P : Nat} {tt : Nat} {lf : Int32} (h : layS G K t f w d a b a' b' P tt lf) : G.2.1 4 + sY (G.2.1 2) = nI b' := h.2.2.2.2.2.2.2.2.2.2.2.2.2.2.2.1
theorem layS.ha {G : GS} {K : GS} {t : Nat} {f : Nat} {w : Nat} {d : Nat} {a : Nat} {b : Nat} {a' : Nat} {b' : Nat} {P : Nat} {tt : Nat} {lf : Int32} (h : layS G K t f w d a b a' b' P tt lf) : a < 25 := h.2.2.2.2.2.2.2.2.2.2.2.2.2.2.2.2.1
theorem layS.hb {G : GS} {K : GS} {t : Nat} {f : Nat} {w : Nat} {d : Nat} {a : Nat} {b : Nat} {a' : Nat} {b' : Nat} {P : Nat} {tt : Nat} {lf : Int32} (h : layS G K t f w d a b a' b' P tt lf) : b < 25 := h.2.2.2.2.2.2.2.2.2.2.2.2.2.2.2.2.2.1
theorem layS.ha2 {G : GS} {K : GS} {t : Nat} {f : Nat} {w : Nat} {d : Nat} {a : Nat} {b : Nat} {a' : Nat} {b' : Nat} {P : Nat} {tt : Nat} {lf : Int32} (h : layS G K t f w d a b a' b' P tt lf) : a' < 25 := h.2.2.2.2.2.2.2.2.2.2.2.2.2.2.2.2.2.2.1
theorem layS.hb2 {G : GS} {K : GS} {t : Nat} {f : Nat} {w : Nat} {d : Nat} {a : Nat} {b : Nat} {a' : Nat} {b' : Nat} {P : Nat} {tt : Nat} {lf : Int32} (h : layS G K t f w d a b a' b' P tt lf) : b' < 25 := h.2.2.2.2.2.2.2.2.2.2.2.2.2.2.2.2.2.2.2.1
theorem layS.hq {G : GS} {K : GS} {t : Nat} {f : Nat} {w : Nat} {d : Nat} {a : Nat} {b : Nat} {a' : Nat} {b' : Nat} {P : Nat} {tt : Nat} {lf : Int32} (h : layS G K t f w d a b a' b' P tt lf) : ¬ bitG G a b := h.2.2.2.2.2.2.2.2.2.2.2.2.2.2.2.2.2.2.2.2.1
theorem layS.hq2 {G : GS} {K : GS} {t : Nat} {f : Nat} {w : Nat} {d : Nat} {a : Nat} {b : Nat} {a' : Nat} {b' : Nat} {P : Nat} {tt : Nat} {lf : Int32} (h : layS G K t f w d a b a' b' P tt lf) : ¬ bitG G a' b' := h.2.2.2.2.2.2.2.2.2.2.2.2.2.2.2.2.2.2.2.2.2.1
theorem layS.P2 {G : GS} {K : GS} {t : Nat} {f : Nat} {w : Nat} {d : Nat} {a : Nat} {b : Nat} {a' : Nat} {b' : Nat} {P : Nat} {tt : Nat} {lf : Int32} (h : layS G K t f w d a b a' b' P tt lf) : 2 ≤ P := h.2.2.2.2.2.2.2.2.2.2.2.2.2.2.2.2.2.2.2.2.2.2.1
theorem layS.P4 {G : GS} {K : GS} {t : Nat} {f : Nat} {w : Nat} {d : Nat} {a : Nat} {b : Nat} {a' : Nat} {b' : Nat} {P : Nat} {tt : Nat} {lf : Int32} (h : layS G K t f w d a b a' b' P tt lf) : P ≤ 4 := h.2.2.2.2.2.2.2.2.2.2.2.2.2.2.2.2.2.2.2.2.2.2.2.1
theorem layS.tP {G : GS} {K : GS} {t : Nat} {f : Nat} {w : Nat} {d : Nat} {a : Nat} {b : Nat} {a' : Nat} {b' : Nat} {P : Nat} {tt : Nat} {lf : Int32} (h : layS G K t f w d a b a' b' P tt lf) : tt < P := h.2.2.2.2.2.2.2.2.2.2.2.2.2.2.2.2.2.2.2.2.2.2.2.2.1
theorem layS.e1 {G : GS} {K : GS} {t : Nat} {f : Nat} {w : Nat} {d : Nat} {a : Nat} {b : Nat} {a' : Nat} {b' : Nat} {P : Nat} {tt : Nat} {lf : Int32} (h : layS G K t f w d a b a' b' P tt lf) : G.1 4 = nI P := h.2.2.2.2.2.2.2.2.2.2.2.2.2.2.2.2.2.2.2.2.2.2.2.2.2.1
theorem layS.e2 {G : GS} {K : GS} {t : Nat} {f : Nat} {w : Nat} {d : Nat} {a : Nat} {b : Nat} {a' : Nat} {b' : Nat} {P : Nat} {tt : Nat} {lf : Int32} (h : layS G K t f w d a b a' b' P tt lf) : G.1 5 = nI tt := h.2.2.2.2.2.2.2.2.2.2.2.2.2.2.2.2.2.2.2.2.2.2.2.2.2.2
theorem layS.mk {G : GS} {K : GS} {t : Nat} {f : Nat} {w : Nat} {d : Nat} {a : Nat} {b : Nat} {a' : Nat} {b' : Nat} {P : Nat} {tt : Nat} {lf : Int32} (ad : addS G K t (nI f) (nI w) a b a' b') (ph : G.1 3 = 1) (hh : G.2.2 1 t = nI tt) (d4 : d < 4) (hd : G.2.1 2 = nI d) (w4 : w < 4) (wd : ¬ lo t = hi t → w = d) (w1 : lo t = hi t → lf = 0 → w = (d + 1) % 4) (w3 : lo t = hi t → ¬ lf = 0 → w = (d + 3) % 4) (f0 : szG G = 0 → f = lo t) (fs : 0 < szG G → G.2.1 1 = nI f) (fc : f = lo t ∨ f = hi t) (hX : G.2.1 3 = nI a) (hY : G.2.1 4 = nI b) (hX2 : G.2.1 3 + sX (G.2.1 2) = nI a') (hY2 : G.2.1 4 + sY (G.2.1 2) = nI b') (ha : a < 25) (hb : b < 25) (ha2 : a' < 25) (hb2 : b' < 25) (hq : ¬ bitG G a b) (hq2 : ¬ bitG G a' b') (P2 : 2 ≤ P) (P4 : P ≤ 4) (tP : tt < P) (e1 : G.1 4 = nI P) (e2 : G.1 5 = nI tt) : layS G K t f w d a b a' b' P tt lf := ⟨ad, ph, hh, d4, hd, w4, wd, w1, w3, f0, fs, fc, hX, hY, hX2, hY2, ha, hb, ha2, hb2, hq, hq2, P2, P4, tP, e1, e2⟩
/-- what laying makes of a game, behind the tile itself -/
def layF (K : GS) (P tt : Nat) : GS := if cntH (K.2.2 1) (nI tt) 28 = 0 then winG K tt P else gS K 5 (nI ((tt + 1) % P))
theorem layS.vg {G K : GS} {B t f w d a b a' b' P tt : Nat} {lf : Int32} (V : VG G B) (ht : t < 28) (S : layS G K t f w d a b a' b' P tt lf) : VG K B := by
  have h6 := tl ht
  have q4 := S.P4
  have q5 := S.tP
  have hf1 : f ≤ lo t + hi t := by rcases S.fc with h | h <;> omega
  have hf2 : f ≤ 6 := by rcases S.fc with h | h <;> omega
  have hf3 : lo t + hi t - f ≤ 6 := by rcases S.fc with h | h <;> omega
  exact lay_VG V S.ad S.ph ht (by rw [S.hh]; exact nI_ne_m1 (by omega)) rfl hf1 hf2 hf3 rfl S.w4 S.hX S.hY S.hX2 S.hY2 S.ha S.hb S.ha2 S.hb2 S.hq S.hq2
theorem layF_VG {G K : GS} {B t f w d a b a' b' P tt : Nat} {lf : Int32} (V : VG G B) (ht : t < 28) (S : layS G K t f w d a b a' b' P tt lf) : VG (layF K P tt) B := by
  have VK := S.vg V ht
  have q2 := S.P2
  unfold layF
  by_cases h : cntH (K.2.2 1) (nI tt) 28 = 0
  · rw [if_pos h]
    exact win_VG VK
  · rw [if_neg h]
    exact next_VG (q := 0) VK S.P2 S.P4 (by omega) (Nat.mod_lt _ (by omega)) (by rw [S.ad.g4]; exact S.e1) (by rw [S.ad.g6]; rfl)
theorem f_lay {n : Nat} (hn : 28 < n) {G : GS} {B : Nat} (V : VG G B) {t : Nat} (ht : t < 28) (h0 : rsn G t = 0) (lf : Int32) :
    ∃ K f w d a b a' b' P tt, layS G K t f w d a b a' b' P tt lf ∧ f_X0_layIfPossible n G (nI t) lf = some (layF K P tt, 1) := by
  have h6 := tl ht
  obtain ⟨r2, r3⟩ := f_reason V ht
  rw [h0] at r2 r3
  obtain ⟨hph, k1, k2, ⟨a, b, ha, hb, hX, hY, hq⟩, ⟨a', b', ha', hb', hX2, hY2, hq'⟩⟩ := rsn_0 r3
  obtain ⟨P, tt, q, h1, h2, h3, h4, e1, e2, e3⟩ := V.pl hph
  have hhn : G.2.2 1 t = nI tt := k1.trans e2
  have hh : G.2.2 1 t ≠ -1 := by
    rw [hhn]
    exact nI_ne_m1 (by omega)
  have hz := size_lt V ht hh
  obtain ⟨d, hd4, hd⟩ := V.di
  obtain ⟨w1, w2, w3, w4, w5, w6, w7⟩ := dir_rem hd4
  have hfx : ∃ f, endF G t (nI f) ∧ (szG G = 0 → f = lo t) ∧ (0 < szG G → G.2.1 1 = nI f) ∧ (f = lo t ∨ f = hi t) := by
    rcases V.en with ⟨g1, g2⟩ | ⟨g1, e, g2, g3⟩
    · exact ⟨lo t, Or.inl ⟨g1, rfl, g2⟩, fun _ => rfl, fun q => by omega, Or.inl rfl⟩
    · have hE : endF G t (nI e) := Or.inr ⟨g1, g3.symm, e, g2, g3⟩
      refine ⟨e, hE, fun q => by omega, fun _ => g3, ?_⟩
      rcases k2 with k2 | k2 | k2
      · omega
      · rw [g3] at k2
        exact Or.inl (nI_inj (by omega) (by omega) k2)
      · rw [g3] at k2
        exact Or.inr (nI_inj (by omega) (by omega) k2)
  obtain ⟨f, hE, hf0, hfs, hfc⟩ := hfx
  have hin : inB (G.2.1 0) 28 := by
    rw [V.sz]
    exact in_n hz (by omega)
  have hA := (f_add ht V hz lf (nI f) hE).trans (f_add_b35 ht lf (nI f) hin hX hY hX2 hY2 ha hb ha' hb')
  have core : ∀ (Ha : GS) (w : Nat), w < 4 → f_X2_add G (nI t) lf = some Ha → addS G (bhd Ha t) t (nI f) (nI w) a b a' b' → (¬ lo t = hi t → w = d) → (lo t = hi t → lf = 0 → w = (d + 1) % 4) → (lo t = hi t → ¬ lf = 0 → w = (d + 3) % 4) →
      ∃ K f w d a b a' b' P tt, layS G K t f w d a b a' b' P tt lf ∧ f_X0_layIfPossible n G (nI t) lf = some (layF K P tt, 1) := by
    intro Ha w hw4 hadd S g1 g2 g3
    have L : layS G (bhd Ha t) t f w d a b a' b' P tt lf := layS.mk S hph hhn hd4 hd hw4 g1 g2 g3 hf0 hfs hfc hX hY hX2 hY2 ha hb ha' hb' hq hq' h1 h2 h3 e1 e2
    refine ⟨bhd Ha t, f, w, d, a, b, a', b', P, tt, L, ?_⟩
    have c4 : (bhd Ha t).1 4 = nI P := by rw [S.g4]; exact e1
    have c5 : (bhd Ha t).1 5 = nI tt := by rw [S.g5]; exact e2
    unfold f_X0_layIfPossible
    refine bd_eq r2 (ip_eq rfl (bd_eq hadd (bd_eq (f_giveTo_n ht _ _) ?_)))
    show (f_X0_tilesOf n (bhd Ha t) ((bhd Ha t).1 5)).bind (fun q45 => if q45 = 0 then ((f_X0_winRound n (bhd Ha t) ((bhd Ha t).1 5)).bind (fun q56 => some (q56, (1 : Int32)))) else ((f_X0_goToNextPlayer (bhd Ha t)).bind (fun q63 => some (q63, (1 : Int32))))) = _
    generalize bhd Ha t = K at *
    rw [c5]
    have hc := cntH_le (K.2.2 1) (nI tt) 28
    refine bd_eq (f_tilesOf hn K (nI tt)) ?_
    unfold layF
    by_cases hz0 : cntH (K.2.2 1) (nI tt) 28 = 0
    · rw [if_pos hz0]
      exact ip_eq (by rw [hz0]; rfl) (bd_eq (f_win hn (by omega) h2 c4) rfl)
    · rw [if_neg hz0]
      exact in_eq (nI_ne0 (by omega) (by omega)) (bd_eq (f_next h2 h3 c4 c5) rfl)
  by_cases hdd : lo t = hi t
  · rw [if_pos hdd] at hA
    by_cases hl : lf = 0
    · rw [if_pos hl] at hA
      refine core _ ((d + 1) % 4) (Nat.mod_lt _ (by omega)) hA ?_ (fun q => absurd hdd q) (fun _ _ => rfl) (fun _ q => absurd hl q)
      rw [← w6, ← hd]
      exact addS_2 G t (nI f) _ a b a' b'
    · rw [if_neg hl] at hA
      refine core _ ((d + 3) % 4) (Nat.mod_lt _ (by omega)) hA ?_ (fun q => absurd hdd q) (fun _ q => absurd q hl) (fun _ _ => rfl)
      rw [← w7, ← hd]
      exact addS_2 G t (nI f) _ a b a' b'
  · rw [if_neg hdd] at hA
    refine core _ d hd4 hA ?_ (fun _ => rfl) (fun q => absurd q hdd) (fun q => absurd q hdd)
    rw [← hd]
    exact addS_1 G t (nI f) a b a' b'
theorem f_lay_none {n1 : Nat} {G : GS} {B : Nat} (V : VG G B) {t : Nat} (ht : t < 28) (h : ¬ rsn G t = 0) (lf : Int32) : f_X0_layIfPossible n1 G (nI t) lf = some (G, 0) := by
  unfold f_X0_layIfPossible
  exact bd_eq (f_reason V ht).1 (in_eq h rfl)
/-- a tile is played: laid, or refused -/
theorem f_play_yes {n : Nat} (hn : 28 < n) {G : GS} {B : Nat} (V : VG G B) {t : Nat} (ht : t < 28) (h0 : rsn G t = 0) (lf : Int32) :
    ∃ K f w d a b a' b' P tt, layS G K t f w d a b a' b' P tt lf ∧ f_X0_layOrRefuse n G (nI t) lf = some (layF K P tt, 0) := by
  obtain ⟨K, f, w, d, a, b, a', b', P, tt, S, h⟩ := f_lay hn V ht h0 lf
  refine ⟨K, f, w, d, a, b, a', b', P, tt, S, ?_⟩
  have hr := (f_reason V ht).1
  rw [h0] at hr
  unfold f_X0_layOrRefuse
  exact bd_eq hr (bd_eq h (in_eq (show ¬ (1 : Int32) = 0 by decide) rfl))
theorem f_play_no {n : Nat} {G : GS} {B : Nat} (V : VG G B) {t : Nat} (ht : t < 28) (h0 : ¬ rsn G t = 0) (lf : Int32) : f_X0_layOrRefuse n G (nI t) lf = some (gS G 1 (G.1 1 + 1), rsn G t) := by
  unfold f_X0_layOrRefuse
  exact bd_eq (f_reason V ht).1 (bd_eq (f_lay_none V ht h0 lf) (ip_eq rfl rfl))
theorem ref_VG {G : GS} {B : Nat} (V : VG G B) : VG (gS G 1 (G.1 1 + 1)) B := V.re rfl (fun _ _ => rfl) (fun _ _ _ _ => rfl) V.rd V.ph V.pl
