/-! PURE LEVEL: what else holds in each game: the tiles' places, the chain on the table -/
def nxW (G : GS) (k : Nat) : Int32 := if k + 1 < szG G then G.2.2 7 (k + 1) else G.2.1 2
def nxE (G : GS) (k : Nat) : Int32 := if k + 1 < szG G then G.2.2 8 (k + 1) else G.2.1 1
def XG (G : GS) (B : Nat) : Prop :=
  (¬ G.1 0 = 0 → ∀ t, t < 28 → ¬ G.2.2 1 t = -1 ∨ (∃ k, k < szG G ∧ tlG G k = t) ∨ (∃ i, hbG G ≤ i ∧ i < 28 ∧ G.2.2 0 i = nI t)) ∧
  (G.1 0 = 0 → hbG G = 28 ∧ szG G = 0 ∧ ∀ t, t < 28 → G.2.2 1 t = -1) ∧
  (G.1 3 = 0 ↔ G.1 0 = 0) ∧
  (∃ P, P ≤ 4 ∧ G.1 4 = nI P ∧ ∀ t, t < 28 → G.2.2 1 t = -1 ∨ ∃ p, p < P ∧ G.2.2 1 t = nI p) ∧
  (∀ k, k < szG G → ∃ d, d < 4 ∧ G.2.2 7 k = nI d ∧ (¬ lo (tlG G k) = hi (tlG G k) → nxW G k = nI d) ∧ (lo (tlG G k) = hi (tlG G k) → nxW G k = nI ((d + 1) % 4) ∨ nxW G k = nI ((d + 3) % 4))) ∧
  (∀ k, k + 1 < szG G → G.2.2 5 (k + 1) = G.2.2 5 k + sX (G.2.2 7 k) + sX (G.2.2 7 (k + 1)) ∧ G.2.2 6 (k + 1) = G.2.2 6 k + sY (G.2.2 7 k) + sY (G.2.2 7 (k + 1))) ∧
  (∀ k, k < szG G → ∃ f o, G.2.2 8 k = nI f ∧ ((f = lo (tlG G k) ∧ o = hi (tlG G k)) ∨ (f = hi (tlG G k) ∧ o = lo (tlG G k))) ∧ nxE G k = nI o) ∧
  (0 < szG G → G.2.2 8 0 = nI (lo (tlG G 0)) ∧ G.2.2 5 0 = 12 ∧ G.2.2 6 0 = 12 ∧ G.2.2 7 0 = 0) ∧
  (szG G = 0 → G.2.1 2 = 0) ∧
  (∀ j k x y, j < szG G → k < szG G → coversG G j x y → coversG G k x y → j = k) ∧
  (∀ p, p < 4 → ∃ w, w ≤ B ∧ G.2.2 3 p = nI w) ∧
  (G.1 3 = 2 → ∃ p, p < 4 ∧ ¬ G.2.2 3 p = 0)
theorem XG.ex {G : GS} {B : Nat} (h : XG G B) : ¬ G.1 0 = 0 → ∀ t, t < 28 → ¬ G.2.2 1 t = -1 ∨ (∃ k, k < szG G ∧ tlG G k = t) ∨ (∃ i, hbG G ≤ i ∧ i < 28 ∧ G.2.2 0 i = nI t) := h.1
theorem XG.r0 {G : GS} {B : Nat} (h : XG G B) : G.1 0 = 0 → hbG G = 28 ∧ szG G = 0 ∧ ∀ t, t < 28 → G.2.2 1 t = -1 := h.2.1
theorem XG.rp {G : GS} {B : Nat} (h : XG G B) : G.1 3 = 0 ↔ G.1 0 = 0 := h.2.2.1
theorem XG.hp {G : GS} {B : Nat} (h : XG G B) : ∃ P, P ≤ 4 ∧ G.1 4 = nI P ∧ ∀ t, t < 28 → G.2.2 1 t = -1 ∨ ∃ p, p < P ∧ G.2.2 1 t = nI p := h.2.2.2.1
theorem XG.tu {G : GS} {B : Nat} (h : XG G B) : ∀ k, k < szG G → ∃ d, d < 4 ∧ G.2.2 7 k = nI d ∧ (¬ lo (tlG G k) = hi (tlG G k) → nxW G k = nI d) ∧ (lo (tlG G k) = hi (tlG G k) → nxW G k = nI ((d + 1) % 4) ∨ nxW G k = nI ((d + 3) % 4)) := h.2.2.2.2.1
theorem XG.po {G : GS} {B : Nat} (h : XG G B) : ∀ k, k + 1 < szG G → G.2.2 5 (k + 1) = G.2.2 5 k + sX (G.2.2 7 k) + sX (G.2.2 7 (k + 1)) ∧ G.2.2 6 (k + 1) = G.2.2 6 k + sY (G.2.2 7 k) + sY (G.2.2 7 (k + 1)) := h.2.2.2.2.2.1
theorem XG.fo {G : GS} {B : Nat} (h : XG G B) : ∀ k, k < szG G → ∃ f o, G.2.2 8 k = nI f ∧ ((f = lo (tlG G k) ∧ o = hi (tlG G k)) ∨ (f = hi (tlG G k) ∧ o = lo (tlG G k))) ∧ nxE G k = nI o := h.2.2.2.2.2.2.1
theorem XG.f0 {G : GS} {B : Nat} (h : XG G B) : 0 < szG G → G.2.2 8 0 = nI (lo (tlG G 0)) ∧ G.2.2 5 0 = 12 ∧ G.2.2 6 0 = 12 ∧ G.2.2 7 0 = 0 := h.2.2.2.2.2.2.2.1
theorem XG.d0 {G : GS} {B : Nat} (h : XG G B) : szG G = 0 → G.2.1 2 = 0 := h.2.2.2.2.2.2.2.2.1
theorem XG.ap {G : GS} {B : Nat} (h : XG G B) : ∀ j k x y, j < szG G → k < szG G → coversG G j x y → coversG G k x y → j = k := h.2.2.2.2.2.2.2.2.2.1
theorem XG.wi {G : GS} {B : Nat} (h : XG G B) : ∀ p, p < 4 → ∃ w, w ≤ B ∧ G.2.2 3 p = nI w := h.2.2.2.2.2.2.2.2.2.2.1
theorem XG.wo {G : GS} {B : Nat} (h : XG G B) : G.1 3 = 2 → ∃ p, p < 4 ∧ ¬ G.2.2 3 p = 0 := h.2.2.2.2.2.2.2.2.2.2.2
theorem XG.mk {G : GS} {B : Nat} (ex : ¬ G.1 0 = 0 → ∀ t, t < 28 → ¬ G.2.2 1 t = -1 ∨ (∃ k, k < szG G ∧ tlG G k = t) ∨ (∃ i, hbG G ≤ i ∧ i < 28 ∧ G.2.2 0 i = nI t)) (r0 : G.1 0 = 0 → hbG G = 28 ∧ szG G = 0 ∧ ∀ t, t < 28 → G.2.2 1 t = -1) (rp : G.1 3 = 0 ↔ G.1 0 = 0) (hp : ∃ P, P ≤ 4 ∧ G.1 4 = nI P ∧ ∀ t, t < 28 → G.2.2 1 t = -1 ∨ ∃ p, p < P ∧ G.2.2 1 t = nI p) (tu : ∀ k, k < szG G → ∃ d, d < 4 ∧ G.2.2 7 k = nI d ∧ (¬ lo (tlG G k) = hi (tlG G k) → nxW G k = nI d) ∧ (lo (tlG G k) = hi (tlG G k) → nxW G k = nI ((d + 1) % 4) ∨ nxW G k = nI ((d + 3) % 4))) (po : ∀ k, k + 1 < szG G → G.2.2 5 (k + 1) = G.2.2 5 k + sX (G.2.2 7 k) + sX (G.2.2 7 (k + 1)) ∧ G.2.2 6 (k + 1) = G.2.2 6 k + sY (G.2.2 7 k) + sY (G.2.2 7 (k + 1))) (fo : ∀ k, k < szG G → ∃ f o, G.2.2 8 k = nI f ∧ ((f = lo (tlG G k) ∧ o = hi (tlG G k)) ∨ (f = hi (tlG G k) ∧ o = lo (tlG G k))) ∧ nxE G k = nI o) (f0 : 0 < szG G → G.2.2 8 0 = nI (lo (tlG G 0)) ∧ G.2.2 5 0 = 12 ∧ G.2.2 6 0 = 12 ∧ G.2.2 7 0 = 0) (d0 : szG G = 0 → G.2.1 2 = 0) (ap : ∀ j k x y, j < szG G → k < szG G → coversG G j x y → coversG G k x y → j = k) (wi : ∀ p, p < 4 → ∃ w, w ≤ B ∧ G.2.2 3 p = nI w) (wo : G.1 3 = 2 → ∃ p, p < 4 ∧ ¬ G.2.2 3 p = 0) : XG G B := ⟨ex, r0, rp, hp, tu, po, fo, f0, d0, ap, wi, wo⟩
theorem XG.re {G H : GS} {B B' : Nat} (V : VG G B) (X : XG G B) (h0 : H.1 0 = G.1 0) (h4 : H.1 4 = G.1 4) (h7 : H.1 7 = G.1 7) (hl : ∀ k, k < 5 → H.2.1 k = G.2.1 k) (ha : ∀ j k, j = 0 ∨ j = 1 ∨ (4 ≤ j ∧ j < 9) → k < 28 → H.2.2 j k = G.2.2 j k)
    (rp : H.1 3 = 0 ↔ H.1 0 = 0) (wi : ∀ p, p < 4 → ∃ w, w ≤ B' ∧ H.2.2 3 p = nI w) (wo : H.1 3 = 2 → ∃ p, p < 4 ∧ ¬ H.2.2 3 p = 0) : XG H B' := by
  have hsz : szG H = szG G := by unfold szG; rw [hl 0 (by omega)]
  have hhb : hbG H = hbG G := by unfold hbG; rw [h7]
  have h28 := V.sz28
  have htl : ∀ k, k < szG G → tlG H k = tlG G k := fun k hk => by unfold tlG; rw [ha 4 k (by omega) (by omega)]
  have hcv : ∀ k, k < szG G → ∀ x y, coversG H k x y ↔ coversG G k x y := fun k hk x y => by
    unfold coversG
    rw [ha 5 k (by omega) (by omega), ha 6 k (by omega) (by omega), ha 7 k (by omega) (by omega)]
  have hW : ∀ k, k < szG G → nxW H k = nxW G k := fun k hk => by
    unfold nxW
    rw [hsz, hl 2 (by omega)]
    by_cases q : k + 1 < szG G
    · rw [if_pos q, if_pos q, ha 7 (k + 1) (by omega) (by omega)]
    · rw [if_neg q, if_neg q]
  have hE : ∀ k, k < szG G → nxE H k = nxE G k := fun k hk => by
    unfold nxE
    rw [hsz, hl 1 (by omega)]
    by_cases q : k + 1 < szG G
    · rw [if_pos q, if_pos q, ha 8 (k + 1) (by omega) (by omega)]
    · rw [if_neg q, if_neg q]
  refine XG.mk ?_ ?_ rp ?_ ?_ ?_ ?_ ?_ ?_ ?_ wi wo
  · intro hr t ht
    rw [h0] at hr
    rcases X.ex hr t ht with q | ⟨k, q1, q2⟩ | ⟨i, q1, q2, q3⟩
    · exact Or.inl (by rw [ha 1 t (by omega) ht]; exact q)
    · exact Or.inr (Or.inl ⟨k, by rw [hsz]; exact q1, by rw [htl k q1]; exact q2⟩)
    · exact Or.inr (Or.inr ⟨i, by rw [hhb]; exact q1, q2, by rw [ha 0 i (by omega) q2]; exact q3⟩)
  · intro hr
    rw [h0] at hr
    obtain ⟨q1, q2, q3⟩ := X.r0 hr
    exact ⟨by rw [hhb]; exact q1, by rw [hsz]; exact q2, fun t ht => by rw [ha 1 t (by omega) ht]; exact q3 t ht⟩
  · obtain ⟨P, q1, q2, q3⟩ := X.hp
    exact ⟨P, q1, by rw [h4]; exact q2, fun t ht => by rw [ha 1 t (by omega) ht]; exact q3 t ht⟩
  · intro k hk
    rw [hsz] at hk
    rw [htl k hk, hW k hk, ha 7 k (by omega) (by omega)]
    exact X.tu k hk
  · intro k hk
    rw [hsz] at hk
    rw [ha 5 k (by omega) (by omega), ha 6 k (by omega) (by omega), ha 7 k (by omega) (by omega), ha 5 (k + 1) (by omega) (by omega), ha 6 (k + 1) (by omega) (by omega), ha 7 (k + 1) (by omega) (by omega)]
    exact X.po k hk
  · intro k hk
    rw [hsz] at hk
    rw [htl k hk, hE k hk, ha 8 k (by omega) (by omega)]
    exact X.fo k hk
  · intro hk
    rw [hsz] at hk
    rw [htl 0 hk, ha 5 0 (by omega) (by omega), ha 6 0 (by omega) (by omega), ha 7 0 (by omega) (by omega), ha 8 0 (by omega) (by omega)]
    exact X.f0 hk
  · intro hk
    rw [hsz] at hk
    rw [hl 2 (by omega)]
    exact X.d0 hk
  · intro j k x y hj hk c1 c2
    rw [hsz] at hj hk
    exact X.ap j k x y hj hk ((hcv j hj x y).mp c1) ((hcv k hk x y).mp c2)
theorem XG.le {G : GS} {B B' : Nat} (V : VG G B) (X : XG G B) (h : B ≤ B') : XG G B' :=
  XG.re V X rfl rfl rfl (fun _ _ => rfl) (fun _ _ _ _ => rfl) X.rp (fun p hp => by
    obtain ⟨w, q1, q2⟩ := X.wi p hp
    exact ⟨w, by omega, q2⟩) X.wo
theorem XG.eq {G H : GS} {B : Nat} (V : VG G B) (X : XG G B) (E : eqG G H) : XG H B := by
  refine XG.re V X (E.a 0 (by omega)) (E.a 4 (by omega)) (E.a 7 (by omega)) E.b (fun j k hj hk => E.c j k (by omega) (by rw [lmA_28 (by omega) (by omega) (by omega)]; exact hk)) ?_ ?_ ?_
  · rw [E.a 3 (by omega), E.a 0 (by omega)]; exact X.rp
  · intro p hp
    rw [E.c 3 p (by omega) hp]; exact X.wi p hp
  · rw [E.a 3 (by omega)]
    intro q
    obtain ⟨p, q1, q2⟩ := X.wo q
    exact ⟨p, q1, by rw [E.c 3 p (by omega) q1]; exact q2⟩
theorem XG.ref {G : GS} {B : Nat} (V : VG G B) (X : XG G B) (v : Int32) : XG (gS G 1 v) B := XG.re V X rfl rfl rfl (fun _ _ => rfl) (fun _ _ _ _ => rfl) X.rp X.wi X.wo
theorem XG.next {G : GS} {B : Nat} (V : VG G B) (X : XG G B) (v : Int32) : XG (gS G 5 v) B := XG.re V X rfl rfl rfl (fun _ _ => rfl) (fun _ _ _ _ => rfl) X.rp X.wi X.wo
theorem XG.passes {G : GS} {B : Nat} (V : VG G B) (X : XG G B) (v : Int32) : XG (gS G 6 v) B := XG.re V X rfl rfl rfl (fun _ _ => rfl) (fun _ _ _ _ => rfl) X.rp X.wi X.wo
theorem XG.win {G : GS} {B p P : Nat} (V : VG G B) (hB : B < 2 ^ 30) (X : XG G B) (hp : p < 4) (hph : ¬ G.1 3 = 0) : XG (winG G p P) (B + 1) := by
  obtain ⟨w0, b0, e0⟩ := X.wi p hp
  have e9 : (winG G p P).2.2 3 = upd (G.2.2 3) p (G.2.2 3 p + 1) := rfl
  refine XG.re V X rfl rfl rfl (fun _ _ => rfl) (fun j k hj hk => ?_) ?_ ?_ ?_
  · unfold winG gS gA va_up
    dsimp only
    rw [if_neg (by omega), if_neg (by omega)]
  · constructor
    · intro q
      exact absurd (show (2 : Int32) = 0 from q) (by decide)
    · intro q
      exact absurd (X.rp.mpr q) hph
  · intro q hq
    rw [e9]
    by_cases e : q = p
    · subst e
      exact ⟨w0 + 1, by omega, by rw [upd_eq rfl, e0, nI_1]⟩
    · obtain ⟨w, q1, q2⟩ := X.wi q hq
      exact ⟨w, by omega, by rw [upd_ne e]; exact q2⟩
  · intro _
    refine ⟨p, hp, ?_⟩
    rw [e9, upd_eq rfl, e0, nI_1]
    exact nI_ne0 (by omega) (by omega)
theorem XG.pass {G : GS} {B P t q : Nat} (V : VG G B) (hB : B < 2 ^ 30) (X : XG G B) (hph : G.1 3 = 1) (h1 : 2 ≤ P) (h2 : P ≤ 4) (h3 : t < P) (h4 : q < P) (e1 : G.1 4 = nI P) (e2 : G.1 5 = nI t) (e3 : G.1 6 = nI q) : XG (passG G P t q) (B + 1) := by
  have X6 := XG.passes V X (nI (q + 1))
  unfold passG
  by_cases hq : q + 1 < P
  · rw [if_pos hq]
    have V6 : VG (gS G 6 (nI (q + 1))) B := V.re rfl (fun _ _ => rfl) (fun _ _ _ _ => rfl) V.rd V.ph (fun _ => ⟨P, t, q + 1, h1, h2, h3, hq, e1, e2, rfl⟩)
    exact XG.le (next_VG (q := q + 1) V6 h1 h2 hq (Nat.mod_lt _ (by omega)) e1 rfl) (XG.next V6 X6 _) (by omega)
  · rw [if_neg hq]
    have b := few_lt (G.2.2 1) P (by omega)
    have hp0 : ¬ G.1 3 = 0 := by rw [hph]; decide
    obtain ⟨w0, b0, e0⟩ := X.wi (few (G.2.2 1) P) (by omega)
    have e9 : (winG (gS G 6 (nI (q + 1))) (few (G.2.2 1) P) P).2.2 3 = upd (G.2.2 3) (few (G.2.2 1) P) (G.2.2 3 (few (G.2.2 1) P) + 1) := rfl
    refine XG.re V X rfl rfl rfl (fun _ _ => rfl) (fun j k hj hk => ?_) ?_ ?_ ?_
    · unfold winG gS gA va_up
      dsimp only
      rw [if_neg (by omega), if_neg (by omega)]
    · constructor
      · intro q
        exact absurd (show (2 : Int32) = 0 from q) (by decide)
      · intro q
        exact absurd (X.rp.mpr q) hp0
    · intro u hu
      rw [e9]
      by_cases e : u = few (G.2.2 1) P
      · subst e
        exact ⟨w0 + 1, by omega, by rw [upd_eq rfl, e0, nI_1]⟩
      · obtain ⟨w, q1, q2⟩ := X.wi u hu
        exact ⟨w, by omega, by rw [upd_ne e]; exact q2⟩
    · intro _
      refine ⟨few (G.2.2 1) P, by omega, ?_⟩
      rw [e9, upd_eq rfl, e0, nI_1]
      exact nI_ne0 (by omega) (by omega)
theorem XG.draw {G : GS} {B t : Nat} (V : VG G B) (X : XG G B) (hph : G.1 3 = 1) (hlt : hbG G < 28) (ht : t < 28) (e : G.2.2 0 (hbG G) = nI t) : XG (drwG G t) B := by
  obtain ⟨P, tt, q, h1, h2, h3, h4, e1, e2, e3⟩ := V.pl hph
  have hhb : hbG (drwG G t) = hbG G + 1 := by
    show (nI (hbG G + 1)).toNatClampNeg = _
    rw [nI_clamp (by omega)]
  have hh : ∀ u, (drwG G t).2.2 1 u = upd (G.2.2 1) t (G.1 5) u := fun u => rfl
  have hr : ∀ u, (drwG G t).2.2 0 u = G.2.2 0 u := fun u => rfl
  have hne : ¬ G.1 0 = 0 := fun z => by
    have := X.rp.mpr z
    rw [hph] at this
    exact absurd this (by decide)
  refine XG.mk ?_ ?_ X.rp ?_ X.tu X.po X.fo X.f0 X.d0 X.ap X.wi X.wo
  · intro _ u hu
    rw [hh]
    by_cases eu : u = t
    · refine Or.inl ?_
      rw [upd_eq eu, e2]
      exact nI_ne_m1 (by omega)
    · rw [upd_ne eu]
      rcases X.ex hne u hu with q | q | ⟨i, q1, q2, q3⟩
      · exact Or.inl q
      · exact Or.inr (Or.inl q)
      · refine Or.inr (Or.inr ⟨i, ?_, q2, q3⟩)
        rw [hhb]
        by_cases ei : i = hbG G
        · subst ei
          rw [e] at q3
          exact absurd (nI_inj (by omega) (by omega) q3).symm eu
        · omega
  · intro z
    exact absurd z hne
  · obtain ⟨P', p1, p2, p3⟩ := X.hp
    have eP : P' = P := by
      rw [e1] at p2
      exact (nI_inj (by omega) (by omega) p2).symm
    subst eP
    refine ⟨P', p1, p2, fun u hu => ?_⟩
    rw [hh]
    by_cases eu : u = t
    · rw [upd_eq eu]
      exact Or.inr ⟨tt, h3, e2⟩
    · rw [upd_ne eu]
      exact p3 u hu
theorem XG.deal {G H : GS} {B P : Nat} {r h : Nat → Int32} (V : VG G B) (hB : B < 2 ^ 30) (X : XG G B) (hP : isP r) (S : dealS G H P r h) (h2 : 2 ≤ P) (h4 : P ≤ 4) (hh : ∀ k, k < 28 → h (tR r k) = if k < 5 * P then nI (k / 5) else -1) : XG H (B + 1) := by
  have hsz : szG H = 0 := by
    unfold szG
    rw [S.l0]
    rfl
  have e7 : H.1 7 = nI (5 * P) := by
    rw [S.g7, show nI P * (5 : Int32) = nI (P * 5) from nI_mul P 5, Nat.mul_comm]
  have hhb : hbG H = 5 * P := by
    unfold hbG
    rw [e7, nI_clamp (by omega)]
  obtain ⟨rr, hr1, hr2⟩ := V.rd
  have hne : ¬ H.1 0 = 0 := by
    rw [S.g0, hr1, nI_1]
    exact nI_ne0 (by omega) (by omega)
  refine XG.mk ?_ (fun z => absurd z hne) ?_ ?_ ?_ ?_ ?_ ?_ (fun _ => S.l2) ?_ ?_ ?_
  · intro _ t ht
    obtain ⟨k, hk, rfl⟩ := tR_sur hP ht
    by_cases hk5 : k < 5 * P
    · refine Or.inl ?_
      rw [S.a1, hh k hk, if_pos hk5]
      exact nI_ne_m1 (by omega)
    · refine Or.inr (Or.inr ⟨k, by rw [hhb]; omega, hk, ?_⟩)
      rw [S.a0]
      exact (tR_ok hP hk).1
  · constructor
    · intro q
      rw [S.g3] at q
      exact absurd q (by decide)
    · intro q
      exact absurd q hne
  · refine ⟨P, h4, S.g4, fun t ht => ?_⟩
    obtain ⟨k, hk, rfl⟩ := tR_sur hP ht
    rw [S.a1, hh k hk]
    by_cases hk5 : k < 5 * P
    · rw [if_pos hk5]
      exact Or.inr ⟨k / 5, by omega, rfl⟩
    · rw [if_neg hk5]
      exact Or.inl rfl
  · intro k hk; omega
  · intro k hk; omega
  · intro k hk; omega
  · intro hk; omega
  · intro j k x y hj; omega
  · intro p hp
    rw [S.a3]
    obtain ⟨w, q1, q2⟩ := X.wi p hp
    exact ⟨w, by omega, q2⟩
  · intro q
    rw [S.g3] at q
    exact absurd q (by decide)
theorem XG.add {G K : GS} {B t f w d a b a' b' P tt : Nat} {lf : Int32} (V : VG G B) (X : XG G B) (ht : t < 28) (S : layS G K t f w d a b a' b' P tt lf) : XG K B := by
  have h6 := tl ht
  have q4 := S.P4
  have q5 := S.tP
  have A := S.ad
  have hz := size_lt V ht (show G.2.2 1 t ≠ -1 by rw [S.hh]; exact nI_ne_m1 (by omega))
  have hl0 : K.2.1 0 = nI (szG G + 1) := by rw [A.l0, V.sz, nI_1]
  have hsz : szG K = szG G + 1 := by
    unfold szG
    rw [hl0, nI_clamp (by omega)]
    rfl
  have hhb : hbG K = hbG G := by
    unfold hbG
    rw [A.g7]
  have htl : ∀ k, k < szG G → tlG K k = tlG G k := fun k hk => by
    unfold tlG
    rw [A.a4, upd_ne (by omega)]
  have htz : tlG K (szG G) = t := by
    unfold tlG
    rw [A.a4, upd_eq rfl, nI_clamp (by omega)]
  have hne : ¬ G.1 0 = 0 := fun z => by
    have := X.rp.mpr z
    rw [S.ph] at this
    exact absurd this (by decide)
  have hW : ∀ k, k < szG G → nxW K k = nxW G k := fun k hk => by
    unfold nxW
    rw [hsz, if_pos (show k + 1 < szG G + 1 by omega), A.a7]
    by_cases q : k + 1 < szG G
    · rw [if_pos q, upd_ne (by omega)]
    · rw [if_neg q, upd_eq (by omega)]
  have hE : ∀ k, k < szG G → nxE K k = nxE G k := fun k hk => by
    unfold nxE
    rw [hsz, if_pos (show k + 1 < szG G + 1 by omega), A.a8]
    by_cases q : k + 1 < szG G
    · rw [if_pos q, upd_ne (by omega)]
    · rw [if_neg q, upd_eq (by omega), S.fs (by omega)]
  have hWz : nxW K (szG G) = nI w := by
    unfold nxW
    rw [hsz, if_neg (by omega), A.l2]
  have hEz : nxE K (szG G) = nI (lo t + hi t) - nI f := by
    unfold nxE
    rw [hsz, if_neg (by omega), A.l1]
  have hcv : ∀ k, k < szG G → ∀ x y, coversG K k x y ↔ coversG G k x y := fun k hk x y => by
    unfold coversG
    rw [A.a5, A.a6, A.a7, upd_ne (by omega), upd_ne (by omega), upd_ne (by omega)]
  have hcz : ∀ x y, coversG K (szG G) x y ↔ (nI a = x ∧ nI b = y) ∨ (nI a' = x ∧ nI b' = y) := fun x y => by
    unfold coversG
    rw [A.a5, A.a6, A.a7, upd_eq rfl, upd_eq rfl, upd_eq rfl, S.hX2, S.hY2, S.hX, S.hY]
  have hno : ∀ k x y, k < szG G → coversG G k x y → ¬ coversG K (szG G) x y := fun k x y hk c1 c2 => by
    rcases (hcz x y).mp c2 with ⟨rfl, rfl⟩ | ⟨rfl, rfl⟩
    · exact S.hq ((V.cv a b S.ha S.hb).mpr ⟨k, hk, c1⟩)
    · exact S.hq2 ((V.cv a' b' S.ha2 S.hb2).mpr ⟨k, hk, c1⟩)
  refine XG.mk ?_ ?_ ?_ ?_ ?_ ?_ ?_ ?_ ?_ ?_ ?_ ?_
  · intro _ u hu
    by_cases eu : u = t
    · exact Or.inr (Or.inl ⟨szG G, by omega, by rw [htz, eu]⟩)
    · rcases X.ex hne u hu with q | ⟨k, q1, q2⟩ | ⟨i, q1, q2, q3⟩
      · exact Or.inl (by rw [A.a1, upd_ne eu]; exact q)
      · exact Or.inr (Or.inl ⟨k, by omega, by rw [htl k q1]; exact q2⟩)
      · exact Or.inr (Or.inr ⟨i, by rw [hhb]; exact q1, q2, by rw [A.a0]; exact q3⟩)
  · intro z
    rw [A.g0] at z
    exact absurd z hne
  · rw [A.g3, A.g0]; exact X.rp
  · obtain ⟨P', p1, p2, p3⟩ := X.hp
    refine ⟨P', p1, by rw [A.g4]; exact p2, fun u hu => ?_⟩
    rw [A.a1]
    by_cases eu : u = t
    · rw [upd_eq eu]; exact Or.inl rfl
    · rw [upd_ne eu]; exact p3 u hu
  · intro k hk
    rw [hsz] at hk
    rw [A.a7]
    by_cases e : k = szG G
    · subst e
      rw [htz, hWz, upd_eq rfl]
      refine ⟨d, S.d4, S.hd, fun q => by rw [S.wd q], fun q => ?_⟩
      by_cases hl : lf = 0
      · exact Or.inl (by rw [S.w1 q hl])
      · exact Or.inr (by rw [S.w3 q hl])
    · rw [htl k (by omega), hW k (by omega), upd_ne e]
      exact X.tu k (by omega)
  · intro k hk
    rw [hsz] at hk
    rw [A.a5, A.a6, A.a7]
    by_cases e : k + 1 = szG G
    · rw [e, upd_eq rfl, upd_eq rfl, upd_eq rfl, upd_ne (by omega), upd_ne (by omega), upd_ne (by omega)]
      exact V.nx1 k e.symm
    · rw [upd_ne (by omega), upd_ne (by omega), upd_ne (by omega), upd_ne (by omega), upd_ne (by omega), upd_ne (by omega)]
      exact X.po k (by omega)
  · intro k hk
    rw [hsz] at hk
    rw [A.a8]
    by_cases e : k = szG G
    · subst e
      rw [htz, hEz, upd_eq rfl]
      rcases S.fc with q | q
      · exact ⟨f, hi t, rfl, Or.inl ⟨q, rfl⟩, by rw [nI_sub (by omega), q, Nat.add_sub_cancel_left]⟩
      · exact ⟨f, lo t, rfl, Or.inr ⟨q, rfl⟩, by rw [nI_sub (by omega), q, Nat.add_sub_cancel]⟩
    · rw [htl k (by omega), hE k (by omega), upd_ne e]
      exact X.fo k (by omega)
  · intro _
    rw [A.a5, A.a6, A.a7, A.a8]
    by_cases e : szG G = 0
    · obtain ⟨n1, n2⟩ := V.nx0 e
      have e0 : tlG K 0 = t := by
        rw [← htz, e]
      rw [e, upd_eq rfl, upd_eq rfl, upd_eq rfl, upd_eq rfl, e0, S.f0 e]
      exact ⟨rfl, n1, n2, X.d0 e⟩
    · rw [upd_ne (by omega), upd_ne (by omega), upd_ne (by omega), upd_ne (by omega), htl 0 (by omega)]
      exact X.f0 (by omega)
  · intro z
    omega
  · intro j k x y hj hk c1 c2
    rw [hsz] at hj hk
    by_cases ej : j = szG G <;> by_cases ek : k = szG G
    · omega
    · subst ej
      exact absurd c1 (hno k x y (by omega) ((hcv k (by omega) x y).mp c2))
    · subst ek
      exact absurd c2 (hno j x y (by omega) ((hcv j (by omega) x y).mp c1))
    · exact X.ap j k x y (by omega) (by omega) ((hcv j (by omega) x y).mp c1) ((hcv k (by omega) x y).mp c2)
  · rw [A.a3]; exact X.wi
  · rw [A.g3, S.ph]
    intro q
    exact absurd q (by decide)
theorem XG.lay {G K : GS} {B t f w d a b a' b' P tt : Nat} {lf : Int32} (V : VG G B) (hB : B < 2 ^ 30) (X : XG G B) (ht : t < 28) (S : layS G K t f w d a b a' b' P tt lf) : XG (layF K P tt) (B + 1) := by
  have VK := S.vg V ht
  have XK := XG.add V X ht S
  have q4 := S.P4
  have q5 := S.tP
  unfold layF
  by_cases h : cntH (K.2.2 1) (nI tt) 28 = 0
  · rw [if_pos h]
    exact XG.win VK hB XK (by omega) (by rw [S.ad.g3, S.ph]; decide)
  · rw [if_neg h]
    exact XG.le (next_VG (q := 0) VK S.P2 S.P4 (by omega) (Nat.mod_lt _ (by omega)) (by rw [S.ad.g4]; exact S.e1) (by rw [S.ad.g6]; rfl)) (XG.next VK XK _) (by omega)
