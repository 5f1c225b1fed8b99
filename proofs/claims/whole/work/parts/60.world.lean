/-! PURE LEVEL: the whole object and the whole model -/
def WR (B : Nat) (c : CS) (M : MS) : Prop :=
  (∃ L, tX L c.2.1.2 M ∧ c.2.1.1 = nI L) ∧
  (VG (c.2.2 0) B) ∧
  (RG (c.2.2 0) (M.2 1)) ∧
  (∃ bg sz, bg < 14 ∧ sz ≤ 14 ∧ c.1 0 = nI bg ∧ c.1 1 = nI sz ∧ M.1 2 = nI sz ∧ ∀ k, k < sz → VG (c.2.2 (2 + (bg + k) % 14)) B ∧ RG (c.2.2 (2 + (bg + k) % 14)) (fun i => M.2 3 (217 * k + i))) ∧
  (∀ i, i < 2 → (c.1 (2 + i) = 0 ∧ M.2 5 i = 0) ∨ (c.1 (2 + i) = 1 ∧ M.2 5 i = 1 ∧ VG (c.2.2 (16 + i)) B ∧ RG (c.2.2 (16 + i)) (fun k => M.2 4 (217 * i + k))))
theorem WR.tx {B : Nat} {c : CS} {M : MS} (h : WR B c M) : ∃ L, tX L c.2.1.2 M ∧ c.2.1.1 = nI L := h.1
theorem WR.g {B : Nat} {c : CS} {M : MS} (h : WR B c M) : VG (c.2.2 0) B := h.2.1
theorem WR.r {B : Nat} {c : CS} {M : MS} (h : WR B c M) : RG (c.2.2 0) (M.2 1) := h.2.2.1
theorem WR.hs {B : Nat} {c : CS} {M : MS} (h : WR B c M) : ∃ bg sz, bg < 14 ∧ sz ≤ 14 ∧ c.1 0 = nI bg ∧ c.1 1 = nI sz ∧ M.1 2 = nI sz ∧ ∀ k, k < sz → VG (c.2.2 (2 + (bg + k) % 14)) B ∧ RG (c.2.2 (2 + (bg + k) % 14)) (fun i => M.2 3 (217 * k + i)) := h.2.2.2.1
theorem WR.sl {B : Nat} {c : CS} {M : MS} (h : WR B c M) : ∀ i, i < 2 → (c.1 (2 + i) = 0 ∧ M.2 5 i = 0) ∨ (c.1 (2 + i) = 1 ∧ M.2 5 i = 1 ∧ VG (c.2.2 (16 + i)) B ∧ RG (c.2.2 (16 + i)) (fun k => M.2 4 (217 * i + k))) := h.2.2.2.2
theorem WR.mk {B : Nat} {c : CS} {M : MS} (tx : ∃ L, tX L c.2.1.2 M ∧ c.2.1.1 = nI L) (g : VG (c.2.2 0) B) (r : RG (c.2.2 0) (M.2 1)) (hs : ∃ bg sz, bg < 14 ∧ sz ≤ 14 ∧ c.1 0 = nI bg ∧ c.1 1 = nI sz ∧ M.1 2 = nI sz ∧ ∀ k, k < sz → VG (c.2.2 (2 + (bg + k) % 14)) B ∧ RG (c.2.2 (2 + (bg + k) % 14)) (fun i => M.2 3 (217 * k + i))) (sl : ∀ i, i < 2 → (c.1 (2 + i) = 0 ∧ M.2 5 i = 0) ∨ (c.1 (2 + i) = 1 ∧ M.2 5 i = 1 ∧ VG (c.2.2 (16 + i)) B ∧ RG (c.2.2 (16 + i)) (fun k => M.2 4 (217 * i + k)))) : WR B c M := ⟨tx, g, r, hs, sl⟩
theorem tX.fr {L : Nat} {t : Nat → Int32} {M M' : MS} (X : tX L t M) (h1 : M'.1 1 = M.1 1) (h0 : M'.2 0 = M.2 0) : tX L t M' := tX.mk X.l (by rw [h1]; exact X.m1) (by rw [h0]; exact X.m0) X.ch
theorem WR.fr {B : Nat} {c c' : CS} {M M' : MS} (W : WR B c M) (hc : frC c c') (hm : frM M M') : WR B c' M' := by
  obtain ⟨h1, h2, h3⟩ := hc
  obtain ⟨m1, m2⟩ := hm
  refine WR.mk ?_ ?_ ?_ ?_ ?_
  · obtain ⟨L, X, e⟩ := W.tx
    refine ⟨L, ?_, by rw [h2]; exact e⟩
    rw [h2]
    exact X.fr (m1 1 (Or.inl rfl)) (m2 0 (by omega) (by omega))
  · rw [h3 0 (by omega)]; exact W.g
  · rw [h3 0 (by omega), m2 1 (by omega) (by omega)]; exact W.r
  · obtain ⟨bg, sz, a1, a2, a3, a4, a5, a6⟩ := W.hs
    refine ⟨bg, sz, a1, a2, by rw [h1]; exact a3, by rw [h1]; exact a4, by rw [m1 2 (Or.inr rfl)]; exact a5, fun k hk => ?_⟩
    rw [h3 _ (by omega), m2 3 (by omega) (by omega)]
    exact a6 k hk
  · intro i hi
    rw [h1, m2 5 (by omega) (by omega), m2 4 (by omega) (by omega), h3 _ (by omega)]
    exact W.sl i hi
theorem WR.le {B B' : Nat} {c : CS} {M : MS} (W : WR B c M) (h : B ≤ B') : WR B' c M := by
  refine WR.mk W.tx (W.g.le h) W.r ?_ (fun i hi => ?_)
  · obtain ⟨bg, sz, a1, a2, a3, a4, a5, a6⟩ := W.hs
    exact ⟨bg, sz, a1, a2, a3, a4, a5, fun k hk => ⟨(a6 k hk).1.le h, (a6 k hk).2⟩⟩
  · rcases W.sl i hi with q | ⟨q1, q2, q3, q4⟩
    · exact Or.inl q
    · exact Or.inr ⟨q1, q2, q3.le h, q4⟩
/-- another game, the rest as it was -/
theorem WR.game {B B' : Nat} {c : CS} {M : MS} {G : GS} {s r : Nat → Int32} (W : WR B c M) (h : B ≤ B') (V : VG G B') (R : RG G s) : WR B' (cG c 0 G) (mA (mA M 6 r) 1 s) := by
  have W' := W.le h
  have e : ∀ j, j ≠ 0 → (cG c 0 G).2.2 j = c.2.2 j := fun j hj => if_neg hj
  have m : ∀ j, j < 6 → j ≠ 1 → (mA (mA M 6 r) 1 s).2 j = M.2 j := fun j hj h1 => by rw [mA_ne _ h1, mA_ne _ (by omega)]
  refine WR.mk ?_ ?_ ?_ ?_ ?_
  · obtain ⟨L, X, e⟩ := W'.tx
    exact ⟨L, X.fr rfl (m 0 (by omega) (by omega)), e⟩
  · rw [cG_at]; exact V
  · rw [cG_at, mA_at]; exact R
  · obtain ⟨bg, sz, a1, a2, a3, a4, a5, a6⟩ := W'.hs
    refine ⟨bg, sz, a1, a2, a3, a4, a5, fun k hk => ?_⟩
    rw [e _ (by omega), m 3 (by omega) (by omega)]
    exact a6 k hk
  · intro i hi
    rw [m 5 (by omega) (by omega), m 4 (by omega) (by omega), e _ (by omega)]
    exact W'.sl i hi
theorem WR.game' {B B' : Nat} {c : CS} {M : MS} {G : GS} {s : Nat → Int32} (W : WR B c M) (h : B ≤ B') (V : VG G B') (R : RG G s) : WR B' (cG c 0 G) (mA M 1 s) := by
  have := WR.game (r := M.2 6) W h V R
  rwa [mA_self] at this
/-! the ring of remembered states -/
theorem f_floor {a : Nat} (ha : a < 1000) : f_J9_floorMod_7cf53 (nI a) (14 : Int32) = some (nI (a % 14)) := by
  have e : nI a ^^^ (14 : Int32) = nI (a ^^^ 14) := by
    apply Int32.toBitVec_inj.1
    show BitVec.ofNat 32 a ^^^ BitVec.ofNat 32 14 = BitVec.ofNat 32 (a ^^^ 14)
    apply BitVec.eq_of_getLsbD_eq
    intro i hi
    simp [hi]
  have hx : a ^^^ 14 < 2 ^ 10 := Nat.xor_lt_two_pow (by omega) (by omega)
  unfold f_J9_floorMod_7cf53
  refine ck_eq (by decide) (ip_eq ?_ ?_)
  · rw [e]
    exact nI_pos' (by omega)
  · exact congrArg some (jrem_n (d := 14) (by omega) (by decide) (by decide))
theorem f_stateOf {c : CS} {bg k : Nat} (hb : bg < 14) (hk : k < 100) (e : c.1 0 = nI bg) : f_X1_stateOf c (nI k) = some (some (2 + (bg + k) % 14)) := by
  have h1 : f_J9_floorMod_7cf53 (c.1 0 + nI k) (14 : Int32) = some (nI ((bg + k) % 14)) := by
    rw [e, nI_add]
    exact f_floor (by omega)
  unfold f_X1_stateOf
  refine bd_eq h1 (in_eq ?_ (ck_eq (in_n (by omega) (by omega)) ?_))
  · exact nI_ge (a := (bg + k) % 14) (b := 14) (by omega) (by omega)
  · rw [nI_clamp (by omega)]
def shD (d : Nat → Int32) (j : Nat) : Nat → Int32 := fun i => if i < j then d (i + 217) else d i
theorem shD_s (d : Nat → Int32) (j : Nat) : upd (shD d j) j (d (j + 217)) = shD d (j + 1) := by
  funext i
  unfold upd shD
  by_cases e : i = j
  · subst e
    rw [if_pos rfl, if_pos (by omega)]
  · rw [if_neg e]
    by_cases h : i < j
    · rw [if_pos h, if_pos (by omega)]
    · rw [if_neg h, if_neg (by omega)]
theorem cS_1 (c : CS) (k : Nat) (v : Int32) : (cS c k v).1 k = v := upd_eq rfl
theorem cS_n (c : CS) {k j : Nat} (h : j ≠ k) (v : Int32) : (cS c k v).1 j = c.1 j := upd_ne h
theorem rem_both {n : Nat} (hn : 3000 < n) {B : Nat} {c : CS} {M : MS} (W : WR B c M) : ∃ c1 M1, f_X1_remember c = some c1 ∧ f_X6_remember n M = some M1 ∧ WR B c1 M1 ∧ c1.2.2 0 = c.2.2 0 ∧ M1.2 1 = M.2 1 ∧ M1.1 0 = M.1 0 := by
  obtain ⟨bg, sz, a1, a2, a3, a4, a5, a6⟩ := W.hs
  obtain ⟨T, h1, h2⟩ := becomeLike_eq (c.2.2 0) (c.2.2 (2 + (bg + sz) % 14))
  have hst : f_X1_stateOf c (c.1 1) = some (some (2 + (bg + sz) % 14)) := by
    rw [a4]
    exact f_stateOf a1 (by omega) a3
  have VT : VG T B := W.g.eq h2
  have e0 : ∀ j, j ≠ 2 + (bg + sz) % 14 → (cG c (2 + (bg + sz) % 14) T).2.2 j = c.2.2 j := fun j hj => if_neg hj
  have hcl : ∀ z, f_X1_remember_b18 (cG c (2 + (bg + sz) % 14) T) = some z → f_X1_remember c = some z := fun z hz => by
    unfold f_X1_remember
    refine bd_eq hst ?_
    exact ck_eq ⟨by omega, by omega, by omega⟩ (bd_eq h1 hz)
  by_cases h14 : sz = 14
  · -- the oldest one is forgotten
    have hd0 : f_X6_remember n M = f_X6_remember_b50 n (mS (mA M 3 (shD (M.2 3) 2821)) 2 (nI 13)) := by
      unfold f_X6_remember
      refine ip_eq (by rw [a5, h14]; rfl) ?_
      have hl : ∀ d j m, j + d = 2821 → d < m → lo2 (f_X6_remember_h11 n) m (mA M 3 (shD (M.2 3) j)) (nI j) = f_X6_remember_b50 n (mS (mA M 3 (shD (M.2 3) 2821)) 2 (nI 13)) := by
        intro d
        induction d with
        | zero =>
          intro j m q1 q2
          obtain ⟨m', rfl⟩ : ∃ k, m = k + 1 := ⟨m - 1, by omega⟩
          have e : j = 2821 := by omega
          subst e
          rw [lo2_s]
          refine ip_eq (nI_le (a := 2821) (b := 2821) (by omega) (by omega)) ?_
          rw [show (mA M 3 (shD (M.2 3) 2821)).1 2 = nI 14 by rw [← h14]; exact a5, suL_1 (by omega)]
        | succ d ih =>
          intro j m q1 q2
          obtain ⟨m', rfl⟩ : ∃ k, m = k + 1 := ⟨m - 1, by omega⟩
          have h3 := ih (j + 1) m' (by omega) (by omega)
          rw [lo2_s]
          generalize lo2 (f_X6_remember_h11 n) m' = K at *
          unfold f_X6_remember_h11
          refine in_eq ?_ (ck_eq (by rw [adL_217]; exact in_n (by omega) (by omega)) (ck_eq (in_n (by omega) (by omega)) ?_))
          · exact nI_ge (a := j) (b := 2821) (by omega) (by omega)
          · unfold stt
            rw [adL_217, nI_clamp (by omega), nI_clamp (by omega), mA_at, mA_mA, show shD (M.2 3) j (j + 217) = M.2 3 (j + 217) from if_neg (by omega), shD_s, nI_1]
            exact h3
      have h9 := hl 2821 0 n (by omega) (by omega)
      rw [show shD (M.2 3) 0 = M.2 3 from funext fun i => if_neg (by omega), mA_self] at h9
      exact h9
    have hcp := m_copy (n := n) (N1 := 217) (N2 := 3038) (a := 0) (b := 217 * 13) (by omega) (by omega) (by omega) (by omega) (by omega) (M.2 1) (shD (M.2 3) 2821)
    have hm : f_X6_remember n M = some (mS (mA (mS (mA M 3 (shD (M.2 3) 2821)) 2 (nI 13)) 3 (cpS (M.2 1) (shD (M.2 3) 2821) 0 (217 * 13) 217)) 2 (nI 14)) := by
      rw [hd0]
      unfold f_X6_remember_b50
      refine bd_eq (v := cpS (M.2 1) (shD (M.2 3) 2821) 0 (217 * 13) 217) ?_ ?_
      · show f_X6_copyState n 217 3038 (M.2 1) (shD (M.2 3) 2821) 0 (217 * nI 13) = _
        rw [muL_217]
        exact hcp
      · rw [show (mA (mS (mA M 3 (shD (M.2 3) 2821)) 2 (nI 13)) 3 (cpS (M.2 1) (shD (M.2 3) 2821) 0 (217 * 13) 217)).1 2 + 1 = nI 14 from rfl]
    refine ⟨cS (cG c (2 + (bg + sz) % 14) T) 0 (nI ((bg + 1) % 14)), _, hcl _ ?_, hm, ?_, ?_, rfl, rfl⟩
    · unfold f_X1_remember_b18
      refine ip_eq ?_ (ck_eq (by decide) ?_)
      · show (14 : Int32) ≤ c.1 1
        rw [a4, h14]
        decide
      · rw [show (cG c (2 + (bg + sz) % 14) T).1 0 + 1 = nI (bg + 1) by rw [← nI_1, ← a3]; rfl, show jrem (nI (bg + 1)) (14 : Int32) = nI ((bg + 1) % 14) from jrem_n (d := 14) (by omega) (by decide) (by decide)]
    · refine WR.mk ?_ ?_ ?_ ?_ ?_
      · obtain ⟨L, X, e⟩ := W.tx
        exact ⟨L, X.fr rfl rfl, e⟩
      · rw [show (cS (cG c (2 + (bg + sz) % 14) T) 0 (nI ((bg + 1) % 14))).2.2 0 = c.2.2 0 from e0 0 (by omega)]
        exact W.g
      · rw [show (cS (cG c (2 + (bg + sz) % 14) T) 0 (nI ((bg + 1) % 14))).2.2 0 = c.2.2 0 from e0 0 (by omega)]
        exact W.r
      · refine ⟨(bg + 1) % 14, 14, by omega, by omega, cS_1 _ _ _, by rw [cS_n _ (by omega)]; show c.1 1 = _; rw [a4, h14], rfl, fun k hk => ?_⟩
        show VG ((cG c (2 + (bg + sz) % 14) T).2.2 _) B ∧ RG ((cG c (2 + (bg + sz) % 14) T).2.2 _) (fun i => cpS (M.2 1) (shD (M.2 3) 2821) 0 (217 * 13) 217 (217 * k + i))
        by_cases hk13 : k = 13
        · subst hk13
          rw [show 2 + ((bg + 1) % 14 + 13) % 14 = 2 + (bg + sz) % 14 by omega, cG_at]
          exact ⟨VT, W.r.eq W.g h2 (fun i hi => by rw [cpS_in hi, Nat.zero_add])⟩
        · obtain ⟨q1, q2⟩ := a6 (k + 1) (by omega)
          rw [e0 _ (by omega), show ((bg + 1) % 14 + k) % 14 = (bg + (k + 1)) % 14 by omega]
          refine ⟨q1, q2.s q1 (fun i hi => ?_)⟩
          rw [cpS_out (by omega)]
          unfold shD
          rw [if_pos (by omega), show 217 * k + i + 217 = 217 * (k + 1) + i by omega]
      · intro i hi
        rw [show (cS (cG c (2 + (bg + sz) % 14) T) 0 (nI ((bg + 1) % 14))).1 (2 + i) = c.1 (2 + i) from upd_ne (by omega), show (cS (cG c (2 + (bg + sz) % 14) T) 0 (nI ((bg + 1) % 14))).2.2 (16 + i) = c.2.2 (16 + i) from e0 _ (by omega)]
        exact W.sl i hi
    · exact e0 0 (by omega)
  · have hcp := m_copy (n := n) (N1 := 217) (N2 := 3038) (a := 0) (b := 217 * sz) (by omega) (by omega) (by omega) (by omega) (by omega) (M.2 1) (M.2 3)
    have hm : f_X6_remember n M = some (mS (mA M 3 (cpS (M.2 1) (M.2 3) 0 (217 * sz) 217)) 2 (nI (sz + 1))) := by
      unfold f_X6_remember
      refine in_eq (fun q => h14 ?_) ?_
      · rw [a5] at q
        exact nI_inj (a := sz) (b := 14) (by omega) (by omega) q
      · unfold f_X6_remember_b50
        refine bd_eq (v := cpS (M.2 1) (M.2 3) 0 (217 * sz) 217) ?_ ?_
        · rw [a5, muL_217]
          exact hcp
        · rw [show (mA M 3 (cpS (M.2 1) (M.2 3) 0 (217 * sz) 217)).1 2 = nI sz from a5, nI_1]
    refine ⟨cS (cG c (2 + (bg + sz) % 14) T) 1 (nI (sz + 1)), _, hcl _ ?_, hm, ?_, ?_, rfl, rfl⟩
    · unfold f_X1_remember_b18
      refine in_eq (fun q => ?_) ?_
      · have q' : (14 : Int32) ≤ c.1 1 := q
        rw [a4] at q'
        have := (leL_14 (by omega)).mp q'
        omega
      · rw [show (cG c (2 + (bg + sz) % 14) T).1 1 = nI sz from a4, nI_1]
    · refine WR.mk ?_ ?_ ?_ ?_ ?_
      · obtain ⟨L, X, e⟩ := W.tx
        exact ⟨L, X.fr rfl rfl, e⟩
      · rw [show (cS (cG c (2 + (bg + sz) % 14) T) 1 (nI (sz + 1))).2.2 0 = c.2.2 0 from e0 0 (by omega)]
        exact W.g
      · rw [show (cS (cG c (2 + (bg + sz) % 14) T) 1 (nI (sz + 1))).2.2 0 = c.2.2 0 from e0 0 (by omega)]
        exact W.r
      · refine ⟨bg, sz + 1, a1, by omega, by rw [cS_n _ (by omega)]; exact a3, cS_1 _ _ _, rfl, fun k hk => ?_⟩
        show VG ((cG c (2 + (bg + sz) % 14) T).2.2 _) B ∧ RG ((cG c (2 + (bg + sz) % 14) T).2.2 _) (fun i => cpS (M.2 1) (M.2 3) 0 (217 * sz) 217 (217 * k + i))
        by_cases hks : k = sz
        · subst hks
          rw [cG_at]
          exact ⟨VT, W.r.eq W.g h2 (fun i hi => by rw [cpS_in hi, Nat.zero_add])⟩
        · obtain ⟨q1, q2⟩ := a6 k (by omega)
          rw [e0 _ (by omega)]
          refine ⟨q1, q2.s q1 (fun i hi => ?_)⟩
          rw [cpS_out (by omega)]
      · intro i hi
        rw [show (cS (cG c (2 + (bg + sz) % 14) T) 1 (nI (sz + 1))).1 (2 + i) = c.1 (2 + i) from upd_ne (by omega), show (cS (cG c (2 + (bg + sz) % 14) T) 1 (nI (sz + 1))).2.2 (16 + i) = c.2.2 (16 + i) from e0 _ (by omega)]
        exact W.sl i hi
    · exact e0 0 (by omega)
