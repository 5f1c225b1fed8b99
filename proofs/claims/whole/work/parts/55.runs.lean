/-! PURE LEVEL: whole simulations, whole scripts -/
theorem lt_nle {a b : Int32} (h : b < a) : ¬ a ≤ b := fun q => by
  have h1 := Int32.lt_iff_toInt_lt.mp h
  have h2 := Int32.le_iff_toInt_le.mp q
  omega
theorem lt_nlt {a b : Int32} (h : b < a) : ¬ a < b := fun q => by
  have h1 := Int32.lt_iff_toInt_lt.mp h
  have h2 := Int32.lt_iff_toInt_lt.mp q
  omega
theorem rng (x : Int32) (l u : Nat) (hl : l < 2 ^ 31) (hu : u < 2 ^ 31) : x < nI l ∨ nI u < x ∨ ∃ m, l ≤ m ∧ m ≤ u ∧ x = nI m := by
  by_cases h : x < 0
  · left
    have h1 := Int32.lt_iff_toInt_lt.mp h
    apply Int32.lt_iff_toInt_lt.mpr
    rw [nI_toInt hl]
    have : (0 : Int32).toInt = 0 := by decide
    omega
  · obtain ⟨m, hm, rfl⟩ := nI_of h
    by_cases h1 : m < l
    · exact Or.inl (nI_lt h1 hl)
    · by_cases h2 : u < m
      · exact Or.inr (Or.inl (nI_lt h2 hm))
      · exact Or.inr (Or.inr ⟨m, by omega, by omega, rfl⟩)
theorem both3 {A1 B1 A2 B2 R1 R2 : Type} {F1 : (A1 → B1 → Int32 → Option R1) → A1 → B1 → Int32 → Option R1} {F2 : (A2 → B2 → Int32 → Option R2) → A2 → B2 → Int32 → Option R2} (N : Nat) (I : Nat → A1 → B1 → A2 → B2 → Prop) (Z : R1 → R2 → Prop) (hend : ∀ K1 K2 a1 b1 a2 b2, I N a1 b1 a2 b2 → ∃ r1 r2, F1 K1 a1 b1 (nI N) = some r1 ∧ F2 K2 a2 b2 (nI N) = some r2 ∧ Z r1 r2)
    (hstep : ∀ K1 K2 a1 b1 a2 b2 j, j < N → I j a1 b1 a2 b2 → (∃ a1' b1' a2' b2', F1 K1 a1 b1 (nI j) = K1 a1' b1' (nI (j + 1)) ∧ F2 K2 a2 b2 (nI j) = K2 a2' b2' (nI (j + 1)) ∧ I (j + 1) a1' b1' a2' b2') ∨ ∃ r1 r2, F1 K1 a1 b1 (nI j) = some r1 ∧ F2 K2 a2 b2 (nI j) = some r2 ∧ Z r1 r2) : ∀ n1 n2 j a1 b1 a2 b2, j ≤ N → N < j + n1 → N < j + n2 → I j a1 b1 a2 b2 → ∃ r1 r2, lo3 F1 n1 a1 b1 (nI j) = some r1 ∧ lo3 F2 n2 a2 b2 (nI j) = some r2 ∧ Z r1 r2 := by
  intro n1
  induction n1 with
  | zero => intro n2 j a1 b1 a2 b2 h1 h2; omega
  | succ n1 ih =>
    intro n2 j a1 b1 a2 b2 h1 h2 h3 hI
    obtain ⟨n2, rfl⟩ : ∃ m, n2 = m + 1 := ⟨n2 - 1, by omega⟩
    rw [lo3_s, lo3_s]
    by_cases e : j = N
    · subst e
      exact hend _ _ a1 b1 a2 b2 hI
    · rcases hstep (lo3 F1 n1) (lo3 F2 n2) a1 b1 a2 b2 j (by omega) hI with ⟨a1', b1', a2', b2', h4, h5, h6⟩ | h4
      · rw [h4, h5]
        exact ih n2 (j + 1) a1' b1' a2' b2' (by omega) (by omega) (by omega) h6
      · exact h4
def frC (c c' : CS) : Prop := c'.1 = c.1 ∧ c'.2.1 = c.2.1 ∧ ∀ j, j ≠ 1 → c'.2.2 j = c.2.2 j
def frM (M M' : MS) : Prop := (∀ i, i = 1 ∨ i = 2 → M'.1 i = M.1 i) ∧ ∀ j, j < 6 → j ≠ 2 → M'.2 j = M.2 j
theorem frC_rfl (c : CS) : frC c c := ⟨rfl, rfl, fun _ _ => rfl⟩
theorem frC_G (c : CS) (T : GS) : frC c (cG c 1 T) := ⟨rfl, rfl, fun _ h => if_neg h⟩
theorem frM_S (M : MS) (v : Int32) : frM M (mS M 0 v) := ⟨fun i hi => upd_ne (by omega), fun _ _ _ => rfl⟩
theorem frM_MM (M : MS) (v : Int32) (r s : Nat → Int32) : frM M (MM (mS M 0 v) r s) := ⟨fun i hi => upd_ne (by omega), fun j h1 h2 => by
  unfold MM
  rw [mA_ne _ h2, mA_ne _ (by omega)]
  rfl⟩
theorem MM_in (M : MS) (s : Nat → Int32) : mA M 2 s = MM M (M.2 6) s := by
  unfold MM
  rw [mA_self]
theorem m_refused (M : MS) (x : Int32) : f_X6_refused M x = some (mS M 0 x, if x ≤ 0 then 0 else 1) := by
  unfold f_X6_refused
  split <;> rfl
/-- the copy on which scripts and simulations run -/
theorem try_start {n : Nat} (hn : 217 < n) {c : CS} {B : Nat} (V : VG (c.2.2 0) B) {M : MS} (R : RG (c.2.2 0) (M.2 1)) (v : Int32) : ∃ T s, f_X0_becomeLike (c.2.2 0) (c.2.2 1) = some T ∧ f_X6_copyState n 217 217 ((mS M 0 v).2 1) ((mS M 0 v).2 2) (0 : Int32) (0 : Int32) = some s ∧ VG T B ∧ RG T s := by
  obtain ⟨T, h1, h2⟩ := becomeLike_eq (c.2.2 0) (c.2.2 1)
  have h3 := m_copy (n := n) (N1 := 217) (N2 := 217) (a := 0) (b := 0) hn (by omega) (by omega) (by omega) (by omega) (M.2 1) (M.2 2)
  exact ⟨T, _, h1, h3, V.eq h2, R.eq V h2 (fun i hi => by rw [cpS_0 hi, Nat.zero_add])⟩
theorem sim_both {n1 n2 : Nat} (hn1 : 250 < n1) (hn2 : 250 < n2) {c : CS} {B : Nat} (V : VG (c.2.2 0) B) (hB : B < 2 ^ 20) {M : MS} (R : RG (c.2.2 0) (M.2 1)) (y : Int64) (x : Int32) :
    ∃ k c' v M', f_X5_simulate n1 c y x = some (k, c', v) ∧ f_X6_simulate n2 M y x = some (M', v) ∧ (k = 0 ∨ k = 1) ∧ M'.1 0 = k ∧ frC c c' ∧ frM M M' := by
  unfold f_X5_simulate f_X6_simulate f_X5_simulate_b12 f_X6_simulate_b18
  have hin := m_inL x 1 200 1 200 (by decide) (by decide)
  rcases rng x 1 200 (by omega) (by omega) with h | h | ⟨m, h1, h2, rfl⟩
  · refine ⟨1, c, 0, mS M 0 1, ip_eq h rfl, ?_, Or.inr rfl, rfl, frC_rfl c, frM_S M 1⟩
    have h' : x < 1 := h
    rw [if_pos (Or.inl h')] at hin
    exact bd_eq hin (ip_eq rfl (bd_eq (m_refused M 1) rfl))
  · refine ⟨1, c, 0, mS M 0 1, ?_, ?_, Or.inr rfl, rfl, frC_rfl c, frM_S M 1⟩
    · by_cases h9 : x < 1
      · exact ip_eq h9 rfl
      · exact in_eq h9 (in_eq (lt_nle h) rfl)
    · have h' : 200 < x := h
      rw [if_pos (Or.inr h')] at hin
      exact bd_eq hin (ip_eq rfl (bd_eq (m_refused M 1) rfl))
  · have c1 : ¬ nI m < (1 : Int32) := fun q => by
      have := (gtL_1 (by omega)).mp q
      omega
    have c2 : nI m ≤ (200 : Int32) := (geL_200 (by omega)).mpr h2
    rw [if_neg (fun q => q.elim c1 (fun z => lt_nle z c2))] at hin
    obtain ⟨T, s, g1, g2, g3, g4⟩ := try_start (by omega : 217 < n2) V R 0
    obtain ⟨r1, r2, q1, q2, T', r', s', v, rfl, rfl⟩ := both3 (F1 := f_X5_simulate_h39 n1 y (nI m)) (F2 := f_X6_simulate_h45 n2 y (nI m)) m (fun j a1 b1 a2 b2 => b1 = b2 ∧ ∃ T r s, a1 = cG c 1 T ∧ a2 = MM (mS M 0 0) r s ∧ VG T (B + j) ∧ RG T s) (fun r1 r2 => ∃ T r s v, r1 = (0, cG c 1 T, v) ∧ r2 = (MM (mS M 0 0) r s, v)) (by
      rintro K1 K2 a1 b a2 _ ⟨rfl, T, r, s, rfl, rfl, V1, R1⟩
      have hle : nI m ≤ nI m := nI_le (Nat.le_refl m) (by omega)
      have e1 : (28 : Int32) - T.1 7 = s 4 := by
        rw [R1.r4, V1.hb, slL_28 V1.hb28]
      refine ⟨(0, cG c 1 T, ((10000 : Int32) * (T.1 0 - (c.2.2 0).1 0) + (100 : Int32) * T.2.1 0) + ((28 : Int32) - T.1 7)), (MM (mS M 0 0) r s, ((10000 : Int32) * (s 0 - M.2 1 0) + (100 : Int32) * s 5) + s 4), ?_, ?_, T, r, s, ((10000 : Int32) * (s 0 - M.2 1 0) + (100 : Int32) * s 5) + s 4, ?_, rfl⟩
      · unfold f_X5_simulate_h39
        exact ip_eq hle (bd_eq (v := T.1 0) rfl (bd_eq (v := (c.2.2 0).1 0) rfl (bd_eq (v := ()) rfl (bd_eq (v := T.2.1 0) rfl (bd_eq (v := (28 : Int32) - T.1 7) rfl rfl)))))
      · unfold f_X6_simulate_h45
        exact ip_eq hle (ck_eq (by decide) (ck_eq (by decide) (ck_eq (by decide) (ck_eq (by decide) rfl))))
      · rw [e1, R1.r0, R.r0, R1.r5, V1.sz]) (by
      rintro K1 K2 a1 b a2 _ j hj ⟨rfl, T, r, s, rfl, rfl, V1, R1⟩
      left
      have hle : ¬ nI m ≤ nI j := fun q => by
        have := (nI_leI (by omega) (by omega)).mp q
        omega
      have hix := ix_ok (lcg b)
      obtain ⟨T', r', s', k1, k2, k3, k4⟩ := turn_both (n1 := n1) (n2 := n2) (by omega) (by omega) V1 (by omega) R1 c (mS M 0 0) r hix.2
      refine ⟨cG c 1 T', lcg b, MM (mS M 0 0) r' s', lcg b, ?_, ?_, rfl, T', r', s', rfl, rfl, k3, k4⟩
      · unfold f_X5_simulate_h39 stt
        have h6 : b * (6364136223846793005 : Int64) + (1442695040888963407 : Int64) = lcg b := rfl
        rw [h6]
        generalize lcg b = b' at *
        refine in_eq hle (bd_eq (v := cG c 1 T') (by rw [hix.1]; exact k1) ?_)
        rw [nI_1]
      · unfold f_X6_simulate_h45 stt
        have h6 : b * (6364136223846793005 : Int64) + (1442695040888963407 : Int64) = lcg b := rfl
        rw [h6]
        generalize lcg b = b' at *
        refine in_eq hle (bd_eq (v := MM (mS M 0 0) r' s') (by rw [hix.1]; exact k2) ?_)
        rw [nI_1]) n1 n2 0 (cG c 1 T) y (MM (mS M 0 0) ((mS M 0 0).2 6) s) y (by omega) (by omega) (by omega) ⟨rfl, T, _, s, rfl, rfl, g3, g4⟩
    refine ⟨0, cG c 1 T', v, MM (mS M 0 0) r' s', ?_, ?_, Or.inl rfl, rfl, frC_G c T', frM_MM M 0 r' s'⟩
    · exact in_eq c1 (ip_eq c2 (ck_eq (by decide) (bd_eq g1 q1)))
    · refine bd_eq hin (in_eq (by decide) (bd_eq (m_refused M 0) (ip_eq rfl (bd_eq g2 ?_))))
      rw [MM_in]
      exact q2
/-! the digits of a script -/
theorem p10_le : ∀ k, k ≤ 4 → 10000 ^ k ≤ 10000 ^ 4 := fun k hk => Nat.pow_le_pow_right (by decide) hk
theorem p10_4 : 10000 ^ 4 < 2 ^ 63 := by decide
theorem p10_lt {k : Nat} (h : k ≤ 4) : 10000 ^ k < 2 ^ 63 := Nat.lt_of_le_of_lt (p10_le k h) p10_4
theorem p10_pos (k : Nat) : 0 < 10000 ^ k := Nat.pow_pos (by decide)
theorem f_without {n : Nat} (hn : 28 < n) {Y g : Nat} (hY : Y < 2 ^ 63) (hg : g ≤ 4) : f_X5_withoutGroups n (lN Y) (nI g) = some (lN (Y / 10000 ^ g)) := by
  unfold f_X5_withoutGroups
  refine ex_eq (for2 g (fun j a => a = lN (Y / 10000 ^ j)) _ ?_ ?_ n 0 (lN Y) (by omega) (by omega) (by rw [Nat.pow_zero, Nat.div_one]))
  · rintro K a rfl
    unfold f_X5_withoutGroups_h5
    exact ⟨_, ip_eq (nI_le (Nat.le_refl g) (by omega)) rfl, rfl⟩
  · rintro K a j hj rfl
    left
    refine ⟨lN (Y / 10000 ^ (j + 1)), ?_, rfl⟩
    unfold f_X5_withoutGroups_h5
    refine in_eq (fun q => ?_) (ck_eq (by decide) ?_)
    · have := (nI_leI (by omega) (by omega)).mp q
      omega
    · rw [nI_1, show lN (Y / 10000 ^ j) / (10000 : Int64) = lN (Y / 10000 ^ j / 10000) from pk_lDiv (b := 10000) (Nat.lt_of_le_of_lt (Nat.div_le_self _ _) hY) (by decide) (by decide), Nat.div_div_eq_div_mul, ← Nat.pow_succ]
theorem m_h6 {n g : Nat} (hg : g ≤ 4) (y : Int64) (M : MS) : ∀ d j m, j + d = g → d < m → lo3 (f_X6_runScript_h6 n (nI g) y) m M (lN (10000 ^ j)) (nI j) = f_X6_runScript_b32 n (nI g) y M (lN (10000 ^ g)) := by
  intro d
  induction d with
  | zero =>
    intro j m h1 h2
    obtain ⟨m', rfl⟩ : ∃ k, m = k + 1 := ⟨m - 1, by omega⟩
    have e : j = g := by omega
    subst e
    rw [lo3_s]
    exact ip_eq (nI_le (Nat.le_refl j) (by omega)) rfl
  | succ d ih =>
    intro j m h1 h2
    obtain ⟨m', rfl⟩ : ∃ k, m = k + 1 := ⟨m - 1, by omega⟩
    rw [lo3_s]
    refine in_eq (fun q => ?_) (in_eq (fun q => ?_) ?_)
    · have := (nI_leI (by omega) (by omega)).mp q
      omega
    · have := (leL_4 (by omega)).mp q
      omega
    · rw [nI_1, show lN (10000 ^ j) * (10000 : Int64) = lN (10000 ^ j * 10000) from lN_mul _ 10000, ← Nat.pow_succ]
      exact ih (j + 1) m' (by omega) (by omega)
theorem m_h6_any {n : Nat} (x : Int32) (y : Int64) (M : MS) : ∀ d j m (a : Int64), j + d = 4 → d < m → ∃ a', lo3 (f_X6_runScript_h6 n x y) m M a (nI j) = f_X6_runScript_b32 n x y M a' := by
  intro d
  induction d with
  | zero =>
    intro j m a h1 h2
    obtain ⟨m', rfl⟩ : ∃ k, m = k + 1 := ⟨m - 1, by omega⟩
    have e : j = 4 := by omega
    subst e
    refine ⟨a, ?_⟩
    rw [lo3_s]
    unfold f_X6_runScript_h6
    by_cases h : x ≤ nI 4
    · exact ip_eq h rfl
    · exact in_eq h (ip_eq (by decide) rfl)
  | succ d ih =>
    intro j m a h1 h2
    obtain ⟨m', rfl⟩ : ∃ k, m = k + 1 := ⟨m - 1, by omega⟩
    rw [lo3_s]
    by_cases h : x ≤ nI j
    · exact ⟨a, ip_eq h rfl⟩
    · obtain ⟨a', e⟩ := ih (j + 1) m' (a * (10000 : Int64)) (by omega) (by omega)
      refine ⟨a', in_eq h (in_eq (fun q => ?_) ?_)⟩
      · have := (leL_4 (by omega)).mp q
        omega
      · rw [nI_1]
        exact e
theorem m_bad {n : Nat} (x : Int32) (y : Int64) (M : MS) (a : Int64) : f_X6_runScript_b61 n x y M a = some (mS M 0 1, 0) := by
  unfold f_X6_runScript_b61 f_X6_runScript_b62
  exact bd_eq (m_refused M 1) rfl
theorem zcmp0 {y : Int64} : lg_cmp y 0 < 0 ↔ y < 0 := zcmp_lt
theorem script_loop {n1 n2 : Nat} (hn1 : 250 < n1) (hn2 : 250 < n2) (c : CS) {B : Nat} (hB : B < 2 ^ 20) (M : MS) {Y g : Nat} (hY : Y < 2 ^ 63) (hg : g ≤ 4) : ∀ d j m1 m2 (T : GS) (r s : Nat → Int32), j + d = g → d < m1 → d < m2 → VG T (B + j) → RG T s →
    ∃ T' r' s' v, lo2 (f_X5_runScript_h60 n1 (nI g) (lN Y)) m1 (cG c 1 T) (nI j) = some ((0 : Int32), cG c 1 T', v) ∧ lo3 (f_X6_runScript_h86 n2 (nI g) (lN Y)) m2 (MM M r s) (lN (10000 ^ (g - j))) (nI j) = some (MM M r' s', v) := by
  intro d
  induction d with
  | zero =>
    intro j m1 m2 T r s h1 h2 h3 V R
    obtain ⟨m1', rfl⟩ : ∃ k, m1 = k + 1 := ⟨m1 - 1, by omega⟩
    obtain ⟨m2', rfl⟩ : ∃ k, m2 = k + 1 := ⟨m2 - 1, by omega⟩
    rw [lo2_s, lo3_s]
    exact ⟨T, r, s, -1, ip_eq (nI_le (by omega) (by omega)) rfl, ip_eq (nI_le (by omega) (by omega)) rfl⟩
  | succ d ih =>
    intro j m1 m2 T r s h1 h2 h3 V R
    obtain ⟨m1', rfl⟩ : ∃ k, m1 = k + 1 := ⟨m1 - 1, by omega⟩
    obtain ⟨m2', rfl⟩ : ∃ k, m2 = k + 1 := ⟨m2 - 1, by omega⟩
    have hle : ¬ nI g ≤ nI j := fun q => by
      have := (nI_leI (by omega) (by omega)).mp q
      omega
    have hD : Y / 10000 ^ (g - 1 - j) < 2 ^ 63 := Nat.lt_of_le_of_lt (Nat.div_le_self _ _) hY
    have hG : Y / 10000 ^ (g - 1 - j) % 10000 < 10000 := Nat.mod_lt _ (by decide)
    have e1 : nI g - (1 : Int32) - nI j = nI (g - 1 - j) := by
      rw [suL_1 (by omega), nI_sub (by omega)]
    have e2 : (jlrem (lN (Y / 10000 ^ (g - 1 - j))) (10000 : Int64)).toInt32 = nI (Y / 10000 ^ (g - 1 - j) % 10000) := by
      rw [show jlrem (lN (Y / 10000 ^ (g - 1 - j))) (10000 : Int64) = lN (Y / 10000 ^ (g - 1 - j) % 10000) from pk_lRem (b := 10000) hD (by decide) (by decide), lN_i]
    have e3 : lN (10000 ^ (g - j)) / (10000 : Int64) = lN (10000 ^ (g - 1 - j)) := by
      rw [show lN (10000 ^ (g - j)) / (10000 : Int64) = lN (10000 ^ (g - j) / 10000) from pk_lDiv (b := 10000) (p10_lt (by omega)) (by decide) (by decide), show g - j = (g - 1 - j) + 1 by omega, Nat.pow_succ, Nat.mul_div_cancel _ (by decide)]
    have e4 : ¬ lN (10000 ^ (g - 1 - j)) = 0 := fun q => by
      have := (pk_lEQ (b := 0) (p10_lt (k := g - 1 - j) (by omega)) (by decide)).mp q
      have := p10_pos (g - 1 - j)
      omega
    have e5 : lN Y / lN (10000 ^ (g - 1 - j)) = lN (Y / 10000 ^ (g - 1 - j)) := pk_lDiv hY (p10_pos _) (p10_lt (by omega))
    obtain ⟨T', r', s', v, k1, k2, k3⟩ := cmd_both (n1 := n1) (n2 := n2) (by omega) (by omega) V (by omega) R c M r hG
    have hwo := f_without (n := n1) (by omega) hY (g := g - 1 - j) (by omega)
    generalize Y / 10000 ^ (g - 1 - j) = Q at *
    have k2' : f_X6_command n2 (MM M r s) (nI (Q % 10000) / (1000 : Int32)) (jrem (nI (Q % 10000)) (1000 : Int32)) = some (MM M r' s', v) := by
      rw [show nI (Q % 10000) / (1000 : Int32) = nI (Q % 10000 / 1000) from jdiv_n (d := 1000) (by omega) (by decide) (by decide), show jrem (nI (Q % 10000)) (1000 : Int32) = nI (Q % 10000 % 1000) from jrem_n (d := 1000) (by omega) (by decide) (by decide)]
      exact k2
    rcases k3 with rfl | ⟨rfl, k4, k5⟩
    · refine ⟨T', r', s', nI j, ?_, ?_⟩
      · rw [lo2_s]
        exact in_eq hle (bd_eq (by rw [e1]; exact hwo) (ck_eq (by decide) (bd_eq (by rw [e2]; exact k1) (ip_eq rfl rfl))))
      · rw [lo3_s]
        refine in_eq hle (ck_eq (by decide) (ck_eq (by rw [e3]; exact e4) (ck_eq (by decide) ?_)))
        unfold stt
        rw [e3, e5, e2]
        exact ck_eq (by decide) (ck_eq (by decide) (bd_eq k2' (ip_eq rfl rfl)))
    · obtain ⟨T'', r'', s'', v, q1, q2⟩ := ih (j + 1) m1' m2' T' r' s' (by omega) (by omega) (by omega) k4 k5
      refine ⟨T'', r'', s'', v, ?_, ?_⟩
      · rw [lo2_s]
        refine in_eq hle (bd_eq (by rw [e1]; exact hwo) (ck_eq (by decide) (bd_eq (by rw [e2]; exact k1) (in_eq (show ¬ (1 : Int32) = 0 by decide) ?_))))
        rw [nI_1]
        exact q1
      · rw [lo3_s]
        refine in_eq hle (ck_eq (by decide) (ck_eq (by rw [e3]; exact e4) (ck_eq (by decide) ?_)))
        unfold stt
        rw [e3, e5, e2]
        refine ck_eq (by decide) (ck_eq (by decide) (bd_eq k2' (in_eq (show ¬ (1 : Int32) = 0 by decide) ?_)))
        rw [nI_1, show g - 1 - j = g - (j + 1) by omega]
        exact q2
theorem script_both {n1 n2 : Nat} (hn1 : 250 < n1) (hn2 : 250 < n2) {c : CS} {B : Nat} (V : VG (c.2.2 0) B) (hB : B < 2 ^ 20) {M : MS} (R : RG (c.2.2 0) (M.2 1)) (x : Int32) (y : Int64) :
    ∃ k c' v M', f_X5_runScript n1 c x y = some (k, c', v) ∧ f_X6_runScript n2 M x y = some (M', v) ∧ (k = 0 ∨ k = 1) ∧ M'.1 0 = k ∧ frC c c' ∧ frM M M' := by
  have hin := m_inL x 1 4 1 4 (by decide) (by decide)
  rcases rng x 1 4 (by omega) (by omega) with h | h | ⟨g, h1, h2, rfl⟩
  · have h' : x < 1 := h
    rw [if_pos (Or.inl h')] at hin
    obtain ⟨a', e⟩ := m_h6_any (n := n2) x y M 4 0 n2 1 (by omega) (by omega)
    refine ⟨1, c, 0, mS M 0 1, ?_, ?_, Or.inr rfl, rfl, frC_rfl c, frM_S M 1⟩
    · unfold f_X5_runScript f_X5_runScript_b10
      exact ip_eq h' rfl
    · unfold f_X6_runScript
      refine Eq.trans e ?_
      unfold f_X6_runScript_b32
      exact bd_eq hin (ip_eq rfl (m_bad x y M a'))
  · have h' : 4 < x := h
    rw [if_pos (Or.inr h')] at hin
    obtain ⟨a', e⟩ := m_h6_any (n := n2) x y M 4 0 n2 1 (by omega) (by omega)
    refine ⟨1, c, 0, mS M 0 1, ?_, ?_, Or.inr rfl, rfl, frC_rfl c, frM_S M 1⟩
    · unfold f_X5_runScript f_X5_runScript_b10
      by_cases h9 : x < 1
      · exact ip_eq h9 rfl
      · exact in_eq h9 (in_eq (lt_nle h') rfl)
    · unfold f_X6_runScript
      refine Eq.trans e ?_
      unfold f_X6_runScript_b32
      exact bd_eq hin (ip_eq rfl (m_bad x y M a'))
  · have c1 : ¬ nI g < (1 : Int32) := fun q => by
      have := (gtL_1 (by omega)).mp q
      omega
    have c2 : nI g ≤ (4 : Int32) := (geL_4 (by omega)).mpr h2
    rw [if_neg (fun q => q.elim c1 (fun z => lt_nle z c2))] at hin
    have hm6 : ∀ z, f_X6_runScript_b32 n2 (nI g) y M (lN (10000 ^ g)) = z → f_X6_runScript n2 M (nI g) y = z := fun z hz => by
      unfold f_X6_runScript
      exact (m_h6 (n := n2) h2 y M g 0 n2 (by omega) (by omega)).trans hz
    have e1 : lN (10000 ^ g) - (1 : Int64) = lN (10000 ^ g - 1) := lN_sub (b := 1) (p10_pos g)
    have hp := p10_pos g
    have hp4 := p10_lt (k := g) h2
    have bad : (y < 0 ∨ lN (10000 ^ g - 1) < y) → f_X6_runScript n2 M (nI g) y = some (mS M 0 1, 0) := fun q => by
      refine hm6 _ ?_
      unfold f_X6_runScript_b32
      refine bd_eq hin (in_eq (by decide) (bd_eq (v := 0) ?_ (ip_eq rfl (m_bad _ y M _))))
      rw [e1, m_in, if_pos q]
    unfold f_X5_runScript f_X5_runScript_b36
    by_cases hy : y < 0
    · refine ⟨1, c, 0, mS M 0 1, ?_, bad (Or.inl hy), Or.inr rfl, rfl, frC_rfl c, frM_S M 1⟩
      exact in_eq c1 (ip_eq c2 (ip_eq (zcmp_lt.mpr hy) rfl))
    · obtain ⟨Y, hY, rfl⟩ := pk_lOf hy
      have hwo := f_without (n := n1) (by omega) hY (g := g) h2
      have hcmp : ¬ lg_cmp (lN Y) 0 < 0 := fun q => hy (zcmp_lt.mp q)
      by_cases hlt : Y < 10000 ^ g
      · obtain ⟨T, s, g1, g2, g3, g4⟩ := try_start (by omega : 217 < n2) V R 0
        obtain ⟨T', r', s', v, q1, q2⟩ := script_loop hn1 hn2 c hB (mS M 0 0) hY h2 g 0 n1 n2 T ((mS M 0 0).2 6) s (by omega) (by omega) (by omega) g3 g4
        rw [Nat.div_eq_of_lt hlt] at hwo
        refine ⟨0, cG c 1 T', v, MM (mS M 0 0) r' s', ?_, ?_, Or.inl rfl, rfl, frC_G c T', frM_MM M 0 r' s'⟩
        · exact in_eq c1 (ip_eq c2 (in_eq hcmp (bd_eq hwo (ip_eq (by decide) (ck_eq (by decide) (bd_eq g1 q1))))))
        · refine hm6 _ ?_
          unfold f_X6_runScript_b32 f_X6_runScript_b62
          refine bd_eq hin (in_eq (by decide) (bd_eq (v := 1) ?_ (in_eq (by decide) (bd_eq (m_refused M 0) (ip_eq rfl (bd_eq g2 ?_))))))
          · rw [e1, m_in, if_neg]
            rintro (q | q)
            · exact hy q
            · have := (pk_lLT (by omega) hY).mp q
              omega
          · rw [MM_in]
            exact q2
      · have hq : 0 < Y / 10000 ^ g := Nat.div_pos (by omega) hp
        have hq2 : Y / 10000 ^ g < 2 ^ 63 := Nat.lt_of_le_of_lt (Nat.div_le_self _ _) hY
        refine ⟨1, c, 0, mS M 0 1, ?_, bad (Or.inr ((pk_lLT (by omega) hY).mpr (by omega))), Or.inr rfl, rfl, frC_rfl c, frM_S M 1⟩
        refine in_eq c1 (ip_eq c2 (in_eq hcmp (bd_eq hwo (in_eq (lt_nle (zcmp_gt.mpr ?_)) rfl))))
        exact (pk_lLT (a := 0) (by decide) hq2).mpr hq
