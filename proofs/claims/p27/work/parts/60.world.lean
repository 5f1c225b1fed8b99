/-! PURE LEVEL: the whole object -/
theorem lt_nle {a b : Int32} (h : b < a) : ¬ a ≤ b := fun q => by
  have h1 := Int32.lt_iff_toInt_lt.mp h
  have h2 := Int32.le_iff_toInt_le.mp q
  omega
theorem rng (x : Int32) (l u : Nat) (hl : l < 2 ^ 31) (hu : u < 2 ^ 31) : x < nI l ∨ nI u < x ∨ ∃ m, l ≤ m ∧ m ≤ u ∧ x = nI m := by
  by_cases h : x < 0
  · left
    have h1 := Int32.lt_iff_toInt_lt.mp h
    apply Int32.lt_iff_toInt_lt.mpr
    rw [nI_toInt hl]
    have : (0 : Int32).toInt = 0 := by decide
    omega
  · obtain ⟨m, hm, rfl⟩ := nI_of h
    by_cases h1 : m < l
    · exact Or.inl (nI_lt h1 hl)
    · by_cases h2 : u < m
      · exact Or.inr (Or.inl (nI_lt h2 hm))
      · exact Or.inr (Or.inr ⟨m, by omega, by omega, rfl⟩)
def WI (B : Nat) (c : CS) : Prop :=
  (VG (c.2.2 0) B) ∧
  (XG (c.2.2 0) B) ∧
  (∃ bg sz, bg < 14 ∧ sz ≤ 14 ∧ c.1 0 = nI bg ∧ c.1 1 = nI sz ∧ ∀ k, k < sz → VG (c.2.2 (2 + (bg + k) % 14)) B ∧ XG (c.2.2 (2 + (bg + k) % 14)) B) ∧
  (∀ i, i < 2 → c.1 (2 + i) = 0 ∨ (c.1 (2 + i) = 1 ∧ VG (c.2.2 (16 + i)) B ∧ XG (c.2.2 (16 + i)) B))
theorem WI.g {B : Nat} {c : CS} (h : WI B c) : VG (c.2.2 0) B := h.1
theorem WI.x {B : Nat} {c : CS} (h : WI B c) : XG (c.2.2 0) B := h.2.1
theorem WI.hs {B : Nat} {c : CS} (h : WI B c) : ∃ bg sz, bg < 14 ∧ sz ≤ 14 ∧ c.1 0 = nI bg ∧ c.1 1 = nI sz ∧ ∀ k, k < sz → VG (c.2.2 (2 + (bg + k) % 14)) B ∧ XG (c.2.2 (2 + (bg + k) % 14)) B := h.2.2.1
theorem WI.sl {B : Nat} {c : CS} (h : WI B c) : ∀ i, i < 2 → c.1 (2 + i) = 0 ∨ (c.1 (2 + i) = 1 ∧ VG (c.2.2 (16 + i)) B ∧ XG (c.2.2 (16 + i)) B) := h.2.2.2
theorem WI.mk {B : Nat} {c : CS} (g : VG (c.2.2 0) B) (x : XG (c.2.2 0) B) (hs : ∃ bg sz, bg < 14 ∧ sz ≤ 14 ∧ c.1 0 = nI bg ∧ c.1 1 = nI sz ∧ ∀ k, k < sz → VG (c.2.2 (2 + (bg + k) % 14)) B ∧ XG (c.2.2 (2 + (bg + k) % 14)) B) (sl : ∀ i, i < 2 → c.1 (2 + i) = 0 ∨ (c.1 (2 + i) = 1 ∧ VG (c.2.2 (16 + i)) B ∧ XG (c.2.2 (16 + i)) B)) : WI B c := ⟨g, x, hs, sl⟩
def frC (c c' : CS) : Prop := c'.1 = c.1 ∧ c'.2.1 = c.2.1 ∧ ∀ j, j ≠ 1 → c'.2.2 j = c.2.2 j
theorem frC_rfl (c : CS) : frC c c := ⟨rfl, rfl, fun _ _ => rfl⟩
theorem frC_G (c : CS) (T : GS) : frC c (cG c 1 T) := ⟨rfl, rfl, fun _ h => if_neg h⟩
theorem WI.fr {B : Nat} {c c' : CS} (W : WI B c) (hc : frC c c') : WI B c' := by
  obtain ⟨h1, h2, h3⟩ := hc
  refine WI.mk ?_ ?_ ?_ ?_
  · rw [h3 0 (by omega)]; exact W.g
  · rw [h3 0 (by omega)]; exact W.x
  · obtain ⟨bg, sz, a1, a2, a3, a4, a6⟩ := W.hs
    refine ⟨bg, sz, a1, a2, by rw [h1]; exact a3, by rw [h1]; exact a4, fun k hk => ?_⟩
    rw [h3 _ (by omega)]
    exact a6 k hk
  · intro i hi
    rw [h1, h3 _ (by omega)]
    exact W.sl i hi
theorem WI.le {B B' : Nat} {c : CS} (W : WI B c) (h : B ≤ B') : WI B' c := by
  refine WI.mk (W.g.le h) (XG.le W.g W.x h) ?_ (fun i hi => ?_)
  · obtain ⟨bg, sz, a1, a2, a3, a4, a6⟩ := W.hs
    exact ⟨bg, sz, a1, a2, a3, a4, fun k hk => ⟨(a6 k hk).1.le h, XG.le (a6 k hk).1 (a6 k hk).2 h⟩⟩
  · rcases W.sl i hi with q | ⟨q1, q2, q3⟩
    · exact Or.inl q
    · exact Or.inr ⟨q1, q2.le h, XG.le q2 q3 h⟩
/-- another game, the rest as it was -/
theorem WI.game {B B' : Nat} {c : CS} {G : GS} (W : WI B c) (h : B ≤ B') (V : VG G B') (X : XG G B') : WI B' (cG c 0 G) := by
  have W' := W.le h
  have e : ∀ j, j ≠ 0 → (cG c 0 G).2.2 j = c.2.2 j := fun j hj => if_neg hj
  refine WI.mk ?_ ?_ ?_ ?_
  · rw [cG_at]; exact V
  · rw [cG_at]; exact X
  · obtain ⟨bg, sz, a1, a2, a3, a4, a6⟩ := W'.hs
    refine ⟨bg, sz, a1, a2, a3, a4, fun k hk => ?_⟩
    rw [e _ (by omega)]
    exact a6 k hk
  · intro i hi
    rw [e _ (by omega)]
    exact W'.sl i hi
/-! the ring of remembered states -/
theorem f_floor {a : Nat} (ha : a < 1000) : f_J9_floorMod_7cf53 (nI a) (14 : Int32) = some (nI (a % 14)) := by
  have e : nI a ^^^ (14 : Int32) = nI (a ^^^ 14) := by
    apply Int32.toBitVec_inj.1
    show BitVec.ofNat 32 a ^^^ BitVec.ofNat 32 14 = BitVec.ofNat 32 (a ^^^ 14)
    apply BitVec.eq_of_getLsbD_eq
    intro i hi
    simp [hi]
  have hx : a ^^^ 14 < 2 ^ 10 := Nat.xor_lt_two_pow (by omega) (by omega)
  unfold f_J9_floorMod_7cf53
  refine ck_eq (by decide) (ip_eq ?_ ?_)
  · rw [e]
    exact nI_pos' (by omega)
  · exact congrArg some (jrem_n (d := 14) (by omega) (by decide) (by decide))
theorem f_stateOf {c : CS} {bg k : Nat} (hb : bg < 14) (hk : k < 100) (e : c.1 0 = nI bg) : f_X1_stateOf c (nI k) = some (some (2 + (bg + k) % 14)) := by
  have h1 : f_J9_floorMod_7cf53 (c.1 0 + nI k) (14 : Int32) = some (nI ((bg + k) % 14)) := by
    rw [e, nI_add]
    exact f_floor (by omega)
  unfold f_X1_stateOf
  refine bd_eq h1 (in_eq ?_ (ck_eq (in_n (by omega) (by omega)) ?_))
  · exact nI_ge (a := (bg + k) % 14) (b := 14) (by omega) (by omega)
  · rw [nI_clamp (by omega)]
theorem cS_1 (c : CS) (k : Nat) (v : Int32) : (cS c k v).1 k = v := upd_eq rfl
theorem cS_n (c : CS) {k j : Nat} (h : j ≠ k) (v : Int32) : (cS c k v).1 j = c.1 j := upd_ne h
/-- the newest remembered state is like G -/
def topP (c : CS) (G : GS) : Prop := ∃ bg s, bg < 14 ∧ s + 1 ≤ 14 ∧ c.1 0 = nI bg ∧ c.1 1 = nI (s + 1) ∧ eqG G (c.2.2 (2 + (bg + s) % 14))
theorem f_remember {B : Nat} {c : CS} (W : WI B c) : ∃ c1, f_X1_remember c = some c1 ∧ WI B c1 ∧ c1.2.2 0 = c.2.2 0 ∧ topP c1 (c.2.2 0) := by
  obtain ⟨bg, sz, a1, a2, a3, a4, a6⟩ := W.hs
  obtain ⟨T, h1, h2⟩ := becomeLike_eq (c.2.2 0) (c.2.2 (2 + (bg + sz) % 14))
  have hst : f_X1_stateOf c (c.1 1) = some (some (2 + (bg + sz) % 14)) := by
    rw [a4]
    exact f_stateOf a1 (by omega) a3
  have VT : VG T B := W.g.eq h2
  have XT : XG T B := XG.eq W.g W.x h2
  have e0 : ∀ j, j ≠ 2 + (bg + sz) % 14 → (cG c (2 + (bg + sz) % 14) T).2.2 j = c.2.2 j := fun j hj => if_neg hj
  have hcl : ∀ z, f_X1_remember_b18 (cG c (2 + (bg + sz) % 14) T) = some z → f_X1_remember c = some z := fun z hz => by
    unfold f_X1_remember
    refine bd_eq hst ?_
    exact ck_eq ⟨by omega, by omega, by omega⟩ (bd_eq h1 hz)
  by_cases h14 : sz = 14
  · refine ⟨cS (cG c (2 + (bg + sz) % 14) T) 0 (nI ((bg + 1) % 14)), hcl _ ?_, ?_, e0 0 (by omega), ?_⟩
    · unfold f_X1_remember_b18
      refine ip_eq ?_ (ck_eq (by decide) ?_)
      · show (14 : Int32) ≤ c.1 1
        rw [a4, h14]
        decide
      · rw [show (cG c (2 + (bg + sz) % 14) T).1 0 + 1 = nI (bg + 1) by rw [← nI_1, ← a3]; rfl, show jrem (nI (bg + 1)) (14 : Int32) = nI ((bg + 1) % 14) from jrem_n (d := 14) (by omega) (by decide) (by decide)]
    · refine WI.mk ?_ ?_ ?_ ?_
      · rw [show (cS (cG c (2 + (bg + sz) % 14) T) 0 (nI ((bg + 1) % 14))).2.2 0 = c.2.2 0 from e0 0 (by omega)]
        exact W.g
      · rw [show (cS (cG c (2 + (bg + sz) % 14) T) 0 (nI ((bg + 1) % 14))).2.2 0 = c.2.2 0 from e0 0 (by omega)]
        exact W.x
      · refine ⟨(bg + 1) % 14, 14, by omega, by omega, cS_1 _ _ _, by rw [cS_n _ (by omega)]; show c.1 1 = _; rw [a4, h14], fun k hk => ?_⟩
        show VG ((cG c (2 + (bg + sz) % 14) T).2.2 _) B ∧ XG ((cG c (2 + (bg + sz) % 14) T).2.2 _) B
        by_cases hk13 : k = 13
        · subst hk13
          rw [show 2 + ((bg + 1) % 14 + 13) % 14 = 2 + (bg + sz) % 14 by omega, cG_at]
          exact ⟨VT, XT⟩
        · rw [e0 _ (by omega), show ((bg + 1) % 14 + k) % 14 = (bg + (k + 1)) % 14 by omega]
          exact a6 (k + 1) (by omega)
      · intro i hi
        rw [show (cS (cG c (2 + (bg + sz) % 14) T) 0 (nI ((bg + 1) % 14))).1 (2 + i) = c.1 (2 + i) from upd_ne (by omega), show (cS (cG c (2 + (bg + sz) % 14) T) 0 (nI ((bg + 1) % 14))).2.2 (16 + i) = c.2.2 (16 + i) from e0 _ (by omega)]
        exact W.sl i hi
    · refine ⟨(bg + 1) % 14, 13, by omega, by omega, cS_1 _ _ _, by rw [cS_n _ (by omega)]; show c.1 1 = _; rw [a4, h14], ?_⟩
      show eqG _ ((cG c (2 + (bg + sz) % 14) T).2.2 _)
      rw [show 2 + ((bg + 1) % 14 + 13) % 14 = 2 + (bg + sz) % 14 by omega, cG_at]
      exact h2
  · refine ⟨cS (cG c (2 + (bg + sz) % 14) T) 1 (nI (sz + 1)), hcl _ ?_, ?_, e0 0 (by omega), ?_⟩
    · unfold f_X1_remember_b18
      refine in_eq (fun q => ?_) ?_
      · have q' : (14 : Int32) ≤ c.1 1 := q
        rw [a4] at q'
        have := (leL_14 (by omega)).mp q'
        omega
      · rw [show (cG c (2 + (bg + sz) % 14) T).1 1 = nI sz from a4, nI_1]
    · refine WI.mk ?_ ?_ ?_ ?_
      · rw [show (cS (cG c (2 + (bg + sz) % 14) T) 1 (nI (sz + 1))).2.2 0 = c.2.2 0 from e0 0 (by omega)]
        exact W.g
      · rw [show (cS (cG c (2 + (bg + sz) % 14) T) 1 (nI (sz + 1))).2.2 0 = c.2.2 0 from e0 0 (by omega)]
        exact W.x
      · refine ⟨bg, sz + 1, a1, by omega, by rw [cS_n _ (by omega)]; exact a3, cS_1 _ _ _, fun k hk => ?_⟩
        show VG ((cG c (2 + (bg + sz) % 14) T).2.2 _) B ∧ XG ((cG c (2 + (bg + sz) % 14) T).2.2 _) B
        by_cases hks : k = sz
        · subst hks
          rw [cG_at]
          exact ⟨VT, XT⟩
        · rw [e0 _ (by omega)]
          exact a6 k (by omega)
      · intro i hi
        rw [show (cS (cG c (2 + (bg + sz) % 14) T) 1 (nI (sz + 1))).1 (2 + i) = c.1 (2 + i) from upd_ne (by omega), show (cS (cG c (2 + (bg + sz) % 14) T) 1 (nI (sz + 1))).2.2 (16 + i) = c.2.2 (16 + i) from e0 _ (by omega)]
        exact W.sl i hi
    · refine ⟨bg, sz, a1, by omega, by rw [cS_n _ (by omega)]; exact a3, cS_1 _ _ _, ?_⟩
      show eqG _ ((cG c (2 + (bg + sz) % 14) T).2.2 _)
      rw [cG_at]
      exact h2
theorem topP.game {c : CS} {G H : GS} (h : topP c G) : topP (cG c 0 H) G := by
  obtain ⟨bg, s, a1, a2, a3, a4, a5⟩ := h
  refine ⟨bg, s, a1, a2, a3, a4, ?_⟩
  rw [show (cG c 0 H).2.2 (2 + (bg + s) % 14) = c.2.2 (2 + (bg + s) % 14) from if_neg (by omega)]
  exact a5
theorem eqG.trans {G H K : GS} (E : eqG G H) (F : eqG H K) : eqG G K := eqG.mk (fun k hk => (F.a k hk).trans (E.a k hk)) (fun k hk => (F.b k hk).trans (E.b k hk)) (fun j k hj hk => (F.c j k hj hk).trans (E.c j k hj hk))
/-- undo, where something is remembered -/
theorem f_undo {B : Nat} {c : CS} (W : WI B c) {G : GS} (h : topP c G) : ∃ c' T v, f_X5_undo c = some (0, c', v) ∧ WI B c' ∧ c'.2.2 0 = T ∧ eqG G T ∧ v = (c.1 1 - 1) := by
  obtain ⟨bg, sz, a1, a2, a3, a4, a6⟩ := W.hs
  obtain ⟨bg', k, b1, b2, b3, b4, b5⟩ := h
  have e1' : bg' = bg := by
    rw [a3] at b3
    exact (nI_inj (by omega) (by omega) b3).symm
  have e2' : sz = k + 1 := by
    rw [a4] at b4
    exact nI_inj (by omega) (by omega) b4
  subst e1' e2'
  have hn0 : ¬ nI (k + 1) = 0 := nI_ne0 (by omega) (by omega)
  have e1 : c.1 1 - (1 : Int32) = nI k := by rw [a4, suL_1 (by omega), Nat.add_sub_cancel]
  obtain ⟨T, h1, h2⟩ := becomeLike_eq (c.2.2 (2 + (bg' + k) % 14)) (c.2.2 0)
  obtain ⟨Vk, Xk⟩ := a6 k (by omega)
  have hst : f_X1_stateOf (cS c 1 (nI k)) (nI k) = some (some (2 + (bg' + k) % 14)) := f_stateOf a1 (by omega) (by rw [cS_n _ (by omega)]; exact a3)
  refine ⟨cG (cS c 1 (nI k)) 0 T, T, nI k, ?_, ?_, cG_at _ _ _, b5.trans h2, e1.symm⟩
  · refine bd_eq (v := c.1 1) rfl (in_eq (by rw [a4]; exact hn0) (bd_eq (v := (cG (cS c 1 (nI k)) 0 T, nI k)) ?_ rfl))
    unfold f_X1_takeBack f_X1_takeBack_b35
    refine in_eq (by rw [a4]; exact nI_nle (by omega) (by omega)) ?_
    rw [e1]
    refine bd_eq (v := some (2 + (bg' + k) % 14)) (by rw [cS_1]; exact hst) ?_
    refine ck_eq ⟨by omega, by omega, by omega⟩ (bd_eq h1 ?_)
    rw [show (cG (cS c 1 (nI k)) 0 T).1 1 = nI k from cS_1 c 1 _]
  · have W2 := W.game (G := T) (Nat.le_refl _) (Vk.eq h2) (XG.eq Vk Xk h2)
    refine WI.mk W2.g W2.x ?_ (fun i hi => by
      rw [show (cG (cS c 1 (nI k)) 0 T).1 (2 + i) = (cG c 0 T).1 (2 + i) from upd_ne (by omega)]
      exact W2.sl i hi)
    refine ⟨bg', k, a1, by omega, by show (cS c 1 (nI k)).1 0 = _; rw [cS_n _ (by omega)]; exact a3, cS_1 c 1 _, fun j hj => ?_⟩
    rw [show (cG (cS c 1 (nI k)) 0 T).2.2 (2 + (bg' + j) % 14) = c.2.2 (2 + (bg' + j) % 14) from if_neg (by omega)]
    exact a6 j (by omega)
theorem f_undo_no {B : Nat} {c : CS} (W : WI B c) (h : ∀ G, ¬ topP c G) : f_X5_undo c = some (2, c, 0) := by
  obtain ⟨bg, sz, a1, a2, a3, a4, a6⟩ := W.hs
  by_cases hz : sz = 0
  · exact bd_eq (v := c.1 1) rfl (ip_eq (by rw [a4, hz]; rfl) rfl)
  · obtain ⟨k, rfl⟩ : ∃ k, sz = k + 1 := ⟨sz - 1, by omega⟩
    exact absurd ⟨bg, k, a1, a2, a3, a4, eqG.rfl' _⟩ (h (c.2.2 (2 + (bg + k) % 14)))
