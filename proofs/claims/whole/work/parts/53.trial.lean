/-! PURE LEVEL: what is tried out: turns of a simulation, commands of a script -/
def MM (M : MS) (r s : Nat → Int32) : MS := mA (mA M 6 r) 2 s
theorem MM_2 (M : MS) (r s s' : Nat → Int32) : mA (MM M r s) 2 s' = MM M r s' := mA_mA _ 2 s s'
theorem MM_at (M : MS) (r s : Nat → Int32) : (MM M r s).2 2 = s := rfl
theorem MM_62 (M : MS) (r s r' s' : Nat → Int32) : mA (mA (MM M r s) 6 r') 2 s' = MM M r' s' := by
  unfold MM mA va_up
  refine Prod.ext rfl (funext fun i => ?_)
  show (if i = 2 then s' else if i = 6 then r' else if i = 2 then s else if i = 6 then r else M.2 i) = if i = 2 then s' else if i = 6 then r' else M.2 i
  by_cases e : i = 2
  · rw [if_pos e, if_pos e]
  · rw [if_neg e, if_neg e, if_neg e]
    by_cases e2 : i = 6
    · rw [if_pos e2, if_pos e2]
    · rw [if_neg e2, if_neg e2, if_neg e2]
theorem cG_cG (c : CS) (i : Nat) (G H : GS) : cG (cG c i G) i H = cG c i H := by
  unfold cG
  refine Prod.ext rfl (Prod.ext rfl (funext fun j => ?_))
  show (if j = i then H else if j = i then G else c.2.2 j) = if j = i then H else c.2.2 j
  by_cases e : j = i
  · rw [if_pos e, if_pos e]
  · rw [if_neg e, if_neg e, if_neg e]
theorem cG_at (c : CS) (i : Nat) (G : GS) : (cG c i G).2.2 i = G := if_pos rfl
theorem startRound_bad {n : Nat} (G : GS) {P : Nat} (hP : P < 100) (h : P < 2 ∨ 4 < P) (y : Int64) : f_X0_startRound n G (nI P) y = some (G, 0) := by
  unfold f_X0_startRound
  by_cases h2 : P < 2
  · exact ip_eq ((gtL_2 (by omega)).mpr h2) rfl
  · refine in_eq (fun q => h2 ((gtL_2 (by omega)).mp q)) (in_eq (fun q => ?_) rfl)
    have := (geL_4 (j := P) (by omega)).mp q
    omega
theorem lay_big {n1 : Nat} {G : GS} {B : Nat} (V : VG G B) {w : Nat} (h1 : 28 ≤ w) (h2 : w < 1000) (lf : Int32) : f_X0_layIfPossible n1 G (nI w) lf = some (G, 0) := by
  have ht : f_X5_isTile (nI w) = some 0 := by
    unfold f_X5_isTile
    exact in_eq (nI_pos (by omega)) (ip_eq ((leL_28 (by omega)).mpr h1) rfl)
  unfold f_X0_layIfPossible
  by_cases hp : G.1 3 = 1
  · have h3 : f_X0_reasonAgainst G (nI w) = some 1 := by
      obtain ⟨P, tt, q, k1, k2, k3, k4, e1, e2, e3⟩ := V.pl hp
      unfold f_X0_reasonAgainst
      refine bd_eq f_isPlayed ?_
      rw [if_pos hp]
      refine in_eq (by decide) ?_
      refine bd_eq (v := -1) (bd_eq ht rfl) ?_
      rw [e2]
      exact if_neg (nI_ne_m1' (by omega))
    exact bd_eq h3 rfl
  · have h3 : f_X0_reasonAgainst G (nI w) = some (-1) := by
      unfold f_X0_reasonAgainst
      refine bd_eq f_isPlayed ?_
      rw [if_neg hp]
      exact if_pos rfl
    exact bd_eq h3 rfl
theorem jdiv_16 {a : Nat} (ha : a < 2 ^ 31) : nI a / (16 : Int32) = nI (a / 16) := jdiv_n (d := 16) ha (by decide) (by decide)
theorem jrem_16 {a : Nat} (ha : a < 2 ^ 31) : jrem (nI a) (16 : Int32) = nI (a % 16) := jrem_n (d := 16) ha (by decide) (by decide)
theorem jrem_3 {a : Nat} (ha : a < 2 ^ 31) : jrem (nI a) (3 : Int32) = nI (a % 3) := jrem_n (d := 3) ha (by decide) (by decide)
theorem turn_both {n1 n2 : Nat} (hn1 : 28 < n1) (hn2 : 28 < n2) {T : GS} {B : Nat} (V : VG T B) (hB : B < 2 ^ 30) {s : Nat → Int32} (R : RG T s) (c : CS) (M : MS) (r0 : Nat → Int32) {r : Nat} (hr : r < 2 ^ 31) :
    ∃ T' r' s', f_X5_simulateTurn n1 (cG c 1 T) (nI r) = some (cG c 1 T') ∧ f_X6_turnOf n2 (MM M r0 s) (nI r) = some (MM M r' s') ∧ VG T' (B + 1) ∧ RG T' s' := by
  have d16 := jdiv_16 hr
  have r16 := jrem_16 hr
  have hq : r / 16 < 2 ^ 31 := by omega
  have hr1 : (MM M r0 s).2 2 (1 : Int32).toNatClampNeg = T.1 3 := by
    rw [tnL_1]
    exact R.r1
  unfold f_X5_simulateTurn f_X6_turnOf
  by_cases hp : T.1 3 = 1
  · have hcnt := cntH_le (rs n2 s) 0 28
    have hpl : f_X0_playable n1 T = some (mskH (rs n2 s) 0 28) := by
      rw [playable_eq hn1 hn2 V R]
      unfold plS
      rw [if_pos hp]
    have hml : f_X6_legalMany n2 s = some (nI (cntH (rs n2 s) 0 28)) := m_legalMany hn2 V R
    by_cases hz : cntH (rs n2 s) 0 28 = 0
    · have hzz : (nI (cntH (rs n2 s) 0 28)) ≤ 0 := by
        rw [hz]
        decide
      by_cases hb : hbG T < 28
      · obtain ⟨H, s', t, g1, g2, g3, g4, g5, g6⟩ := draw_both hn2 V R hp hb
        have hc := can_draw V R
        rw [if_pos ⟨hp, hb⟩] at hc
        refine ⟨H, r0, s', ?_, ?_, g3.le (by omega), g4⟩
        · refine ck_eq (by decide) (bd_eq f_isPlayed ?_)
          refine in_eq (by rw [show (cG c 1 T).2.2 1 = T from rfl, if_pos hp]; decide) ?_
          refine bd_eq hpl (bd_eq (count_msk _ _) (ip_eq hzz (bd_eq hc.1 (in_eq (by decide) (bd_eq g1 ?_)))))
          rw [cG_cG]
        · refine ck_eq (by decide) (ck_eq (by decide) (ip_eq (by rw [hr1]; exact hp) ?_))
          refine bd_eq (v := nI (cntH (rs n2 s) 0 28)) hml (ip_eq hzz (bd_eq hc.2 (in_eq (by decide) (bd_eq g2 ?_))))
          rw [MM_2]
      · have hb28 : hbG T = 28 := by
          have := V.hb28
          omega
        obtain ⟨H, s', v, g1, g2, g3, g4, g5, g6⟩ := pass_both hn1 hn2 V R hp hb28
        have hc := can_draw V R
        rw [if_neg (fun q => hb q.2)] at hc
        refine ⟨H, r0, s', ?_, ?_, g3.le (by omega), g4⟩
        · refine ck_eq (by decide) (bd_eq f_isPlayed ?_)
          refine in_eq (by rw [show (cG c 1 T).2.2 1 = T from rfl, if_pos hp]; decide) ?_
          refine bd_eq hpl (bd_eq (count_msk _ _) (ip_eq hzz (bd_eq hc.1 (ip_eq rfl (bd_eq g1 ?_)))))
          rw [cG_cG]
        · refine ck_eq (by decide) (ck_eq (by decide) (ip_eq (by rw [hr1]; exact hp) ?_))
          refine bd_eq (v := nI (cntH (rs n2 s) 0 28)) hml (ip_eq hzz (bd_eq hc.2 (ip_eq rfl (bd_eq g2 ?_))))
          rw [MM_2]
    · have hnz : ¬ (nI (cntH (rs n2 s) 0 28)) ≤ 0 := nI_nle (by omega) (by omega)
      have hmod : r % 16 % cntH (rs n2 s) 0 28 < cntH (rs n2 s) 0 28 := Nat.mod_lt _ (by omega)
      have hrem : jrem (jrem (nI r) (16 : Int32)) (nI (cntH (rs n2 s) 0 28)) = nI (r % 16 % cntH (rs n2 s) 0 28) := by
        rw [r16, jrem_n (by omega) (by omega) (by omega)]
      obtain ⟨t, ht, g1, g2, g3, g4⟩ := member_both hn1 hn2 V R hmod
      have key : ∀ lf : Int32, ∃ T' s', f_X5_simulateTurn_b77 n1 (nI r) (cG c 1 T) lf (nI t) = some (cG c 1 T') ∧ f_X6_turnOf_b63 n2 (nI r) (MM M r0 s) lf (nI t) = some (MM M r0 s') ∧ VG T' (B + 1) ∧ RG T' s' := fun lf => by
        obtain ⟨H, s', k1, k2, k3, k4, k5⟩ := lay_both hn1 hn2 V R hp ht g3 lf
        refine ⟨H, s', ?_, ?_, k3.le (by omega), k4⟩
        · refine bd_eq k1 ?_
          rw [cG_cG]
        · refine bd_eq k2 ?_
          rw [MM_2]
      have hodd : jrem (nI r / (16 : Int32)) (2 : Int32) = nI (r / 16 % 2) := by
        rw [d16, jrem_2 hq]
      by_cases ho : nI (r / 16 % 2) = 1
      · obtain ⟨T', s', k1, k2, k3, k4⟩ := key 1
        refine ⟨T', r0, s', ?_, ?_, k3, k4⟩
        · refine ck_eq (by decide) (bd_eq f_isPlayed ?_)
          refine in_eq (by rw [show (cG c 1 T).2.2 1 = T from rfl, if_pos hp]; decide) ?_
          refine bd_eq hpl (bd_eq (count_msk _ _) (in_eq hnz (ck_eq (by decide) (ck_eq (nI_ne0 (by omega) (by omega)) (bd_eq (by rw [hrem]; exact g1) (ck_eq (by decide) (ip_eq (by rw [hodd]; exact ho) k1)))))))
        · refine ck_eq (by decide) (ck_eq (by decide) (ip_eq (by rw [hr1]; exact hp) ?_))
          refine bd_eq (v := nI (cntH (rs n2 s) 0 28)) hml (in_eq hnz (ck_eq (by decide) (ck_eq (nI_ne0 (by omega) (by omega)) (bd_eq (by rw [hrem]; exact g2) (ck_eq (by decide) (ip_eq (by rw [hodd]; exact ho) k2))))))
      · obtain ⟨T', s', k1, k2, k3, k4⟩ := key 0
        refine ⟨T', r0, s', ?_, ?_, k3, k4⟩
        · refine ck_eq (by decide) (bd_eq f_isPlayed ?_)
          refine in_eq (by rw [show (cG c 1 T).2.2 1 = T from rfl, if_pos hp]; decide) ?_
          refine bd_eq hpl (bd_eq (count_msk _ _) (in_eq hnz (ck_eq (by decide) (ck_eq (nI_ne0 (by omega) (by omega)) (bd_eq (by rw [hrem]; exact g1) (ck_eq (by decide) (in_eq (by rw [hodd]; exact ho) k1)))))))
        · refine ck_eq (by decide) (ck_eq (by decide) (ip_eq (by rw [hr1]; exact hp) ?_))
          refine bd_eq (v := nI (cntH (rs n2 s) 0 28)) hml (in_eq hnz (ck_eq (by decide) (ck_eq (nI_ne0 (by omega) (by omega)) (bd_eq (by rw [hrem]; exact g2) (ck_eq (by decide) (in_eq (by rw [hodd]; exact ho) k2))))))
  · have hP : (2 : Int32) + jrem (nI r / (16 : Int32)) (3 : Int32) = nI (2 + r / 16 % 3) := by
      rw [d16, jrem_3 hq, alL_2]
    obtain ⟨H, s', r', g1, g2, g3, g4, g5⟩ := deal_both hn1 hn2 V hB (j := 2) (by omega) (M := MM M r0 s) R (P := 2 + r / 16 % 3) (by omega) (by omega) ((nI r / (16 : Int32)).toInt64)
    refine ⟨H, r', s', ?_, ?_, g3, g4⟩
    · refine ck_eq (by decide) (bd_eq f_isPlayed ?_)
      refine ip_eq (by rw [show (cG c 1 T).2.2 1 = T from rfl, if_neg hp]) (ck_eq (by decide) (bd_eq (by rw [hP]; exact g1) ?_))
      rw [cG_cG]
    · refine ck_eq (by decide) (ck_eq (by decide) (in_eq (by rw [hr1]; exact hp) (ck_eq (by decide) (bd_eq (by rw [hP]; exact g2) ?_))))
      rw [MM_62]
/-! scripts -/
theorem heavy_both {n1 n2 : Nat} (hn1 : 28 < n1) (hn2 : 28 < n2) {B w : Nat} (hw : w < 20) (M : MS) (r0 : Nat → Int32) : ∀ d k m1 m2 (T : GS) (s : Nat → Int32), VG T B → RG T s → k + d = w → d < m1 → d + 1 < m2 →
    ∃ T' s' v, lo2 (f_X0_layHeaviest_h2 n1 (nI w)) m1 T (nI k) = some (T', v) ∧ lo3 (f_X6_playsBest_h4 n2 (nI w)) m2 (MM M r0 s) 1 (nI k) = some (MM M r0 s', v) ∧ (v = 0 ∨ (v = 1 ∧ VG T' B ∧ RG T' s')) := by
  intro d
  induction d with
  | zero =>
    intro k m1 m2 T s V R hk h1 h2
    obtain ⟨m1', rfl⟩ : ∃ m, m1 = m + 1 := ⟨m1 - 1, by omega⟩
    obtain ⟨m2', rfl⟩ : ∃ m, m2 = m + 1 := ⟨m2 - 1, by omega⟩
    rw [lo2_s, lo3_s]
    exact ⟨T, s, 1, ip_eq (nI_le (by omega) (by omega)) rfl, ip_eq (nI_le (by omega) (by omega)) rfl, Or.inr ⟨rfl, V, R⟩⟩
  | succ d ih =>
    intro k m1 m2 T s V R hk h1 h2
    obtain ⟨m1', rfl⟩ : ∃ m, m1 = m + 1 := ⟨m1 - 1, by omega⟩
    obtain ⟨m2', rfl⟩ : ∃ m, m2 = m + 1 + 1 := ⟨m2 - 2, by omega⟩
    obtain ⟨x, H, s', v, g1, g2, g3, g4, g5, g6, g7⟩ := playBest_both hn1 hn2 V R
    have hle : ¬ nI w ≤ nI k := fun q => by
      have := (nI_leI (by omega) (by omega)).mp q
      omega
    rcases g6 with rfl | rfl
    · refine ⟨H, s', 0, ?_, ?_, Or.inl rfl⟩
      · rw [lo2_s]
        exact in_eq hle (bd_eq g1 (bd_eq g2 (ip_eq rfl rfl)))
      · rw [lo3_s]
        refine in_eq hle (in_eq (by decide) (bd_eq g3 ?_))
        rw [MM_2, lo3_s]
        unfold f_X6_playsBest_h4
        by_cases hq : nI w ≤ nI k + 1
        · exact ip_eq hq (ck_eq (Or.inl rfl) rfl)
        · exact in_eq hq (ip_eq rfl (ck_eq (Or.inl rfl) rfl))
    · obtain ⟨T', s'', v, k1, k2, k3⟩ := ih (k + 1) m1' (m2' + 1) H s' g4 g5 (by omega) (by omega) (by omega)
      refine ⟨T', s'', v, ?_, ?_, k3⟩
      · rw [lo2_s]
        refine in_eq hle (bd_eq g1 (bd_eq g2 (in_eq (show ¬ (1 : Int32) = 0 by decide) ?_)))
        rw [nI_1]
        exact k1
      · rw [lo3_s]
        refine in_eq hle (in_eq (by decide) (bd_eq g3 ?_))
        rw [MM_2, nI_1]
        exact k2
