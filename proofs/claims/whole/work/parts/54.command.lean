/-! PURE LEVEL: the commands of a script -/
theorem cmd_nums {g : Nat} (hg : g < 10000) : nI g / (1000 : Int32) = nI (g / 1000) ∧ jrem (nI g / (100 : Int32)) (10 : Int32) = nI (g / 100 % 10) ∧ jrem (nI g) (100 : Int32) = nI (g % 100) ∧ nI (g % 1000) / (100 : Int32) = nI (g / 100 % 10) ∧ jrem (nI (g % 1000)) (100 : Int32) = nI (g % 100) ∧ jrem (nI (g % 1000)) (10 : Int32) = nI (g % 10) ∧ g / 100 % 10 < 10 ∧ g % 100 < 100 := by
  refine ⟨jdiv_n (d := 1000) (by omega) (by decide) (by decide), ?_, jrem_n (d := 100) (by omega) (by decide) (by decide), ?_, ?_, ?_, by omega, by omega⟩
  · rw [show nI g / (100 : Int32) = nI (g / 100) from jdiv_n (d := 100) (by omega) (by decide) (by decide)]
    exact jrem_n (d := 10) (by omega) (by decide) (by decide)
  · rw [show nI (g % 1000) / (100 : Int32) = nI (g % 1000 / 100) from jdiv_n (d := 100) (by omega) (by decide) (by decide), show g % 1000 / 100 = g / 100 % 10 by omega]
  · rw [show jrem (nI (g % 1000)) (100 : Int32) = nI (g % 1000 % 100) from jrem_n (d := 100) (by omega) (by decide) (by decide), show g % 1000 % 100 = g % 100 by omega]
  · rw [show jrem (nI (g % 1000)) (10 : Int32) = nI (g % 1000 % 10) from jrem_n (d := 10) (by omega) (by decide) (by decide), show g % 1000 % 10 = g % 10 by omega]
theorem in_24 {a : Nat} (h : a < 1000) : f_X6_in (nI a).toInt64 2 4 = some (if 2 ≤ a ∧ a ≤ 4 then 1 else 0) := by
  rw [m_inL (nI a) 2 4 2 4 (by decide) (by decide)]
  congr 1
  by_cases h1 : 2 ≤ a ∧ a ≤ 4
  · rw [if_pos h1, if_neg]
    rintro (q | q)
    · have := (gtL_2 (by omega)).mp q
      omega
    · have := (ltL_4 (by omega)).mp q
      omega
  · rw [if_neg h1, if_pos]
    by_cases h2 : a < 2
    · exact Or.inl ((gtL_2 (by omega)).mpr h2)
    · exact Or.inr ((ltL_4 (by omega)).mpr (by omega))
theorem cmd_1 {n1 n2 : Nat} (hn1 : 28 < n1) (hn2 : 28 < n2) {T : GS} {B : Nat} (V : VG T B) (hB : B < 2 ^ 30) {s : Nat → Int32} (R : RG T s) (c : CS) (M : MS) (r0 : Nat → Int32) {g : Nat} (hg : g < 10000) (hk : g / 1000 = 1) :
    ∃ T' r' s' v, f_X5_succeeds n1 (cG c 1 T) (nI g) = some (cG c 1 T', v) ∧ f_X6_command n2 (MM M r0 s) (nI (g / 1000)) (nI (g % 1000)) = some (MM M r' s', v) ∧ (v = 0 ∨ (v = 1 ∧ VG T' (B + 1) ∧ RG T' s')) := by
  obtain ⟨hd, ha, hw, ha', hw', hl', k1, k2⟩ := cmd_nums hg
  have V1 : VG T (B + 1) := V.le (by omega)
  unfold f_X5_succeeds f_X6_command
  by_cases hP : 2 ≤ g / 100 % 10 ∧ g / 100 % 10 ≤ 4
  · obtain ⟨H, s', r', g1, g2, g3, g4, g5⟩ := deal_both hn1 hn2 V hB (j := 2) (by omega) (M := MM M r0 s) R hP.1 hP.2 ((nI (g % 100)).toInt64)
    obtain ⟨rr, e1, e2⟩ := V.rd
    refine ⟨H, r', s', 1, ?_, ?_, Or.inr ⟨rfl, g3, g4⟩⟩
    · refine ck_eq (by decide) (ck_eq (by decide) (ck_eq (by decide) (ck_eq (by decide) (ip_eq (by rw [hd, hk]; rfl) ?_))))
      refine bd_eq (v := (H, 1)) (by rw [ha, hw]; exact g1) (ck_eq (Or.inr rfl) ?_)
      rw [cG_cG]
    · refine ck_eq (by decide) (ck_eq (by decide) (ck_eq (by decide) (ip_eq (by rw [hk]; rfl) ?_)))
      refine bd_eq (v := 1) (by rw [ha', in_24 (by omega), if_pos hP]) (in_eq (by decide) (bd_eq (v := (mA (mA (MM M r0 s) 6 r') 2 s', H.1 0)) (by rw [ha', hw']; exact g2) (in_eq ?_ ?_)))
      · show ¬ H.1 0 ≤ 0
        rw [g5, e1, nI_1]
        exact nI_nle (by omega) (by omega)
      · rw [MM_62]
  · refine ⟨T, r0, s, 0, ?_, ?_, Or.inl rfl⟩
    · refine ck_eq (by decide) (ck_eq (by decide) (ck_eq (by decide) (ck_eq (by decide) (ip_eq (by rw [hd, hk]; rfl) ?_))))
      refine bd_eq (v := (T, 0)) (by rw [ha, hw]; exact startRound_bad T (by omega) (by omega) _) (ck_eq (Or.inl rfl) ?_)
      rw [cG_cG]
    · refine ck_eq (by decide) (ck_eq (by decide) (ck_eq (by decide) (ip_eq (by rw [hk]; rfl) ?_)))
      exact bd_eq (v := 0) (by rw [ha', in_24 (by omega), if_neg hP]) (ip_eq rfl rfl)
theorem try_both {n1 n2 : Nat} (hn1 : 28 < n1) (hn2 : 28 < n2) {T : GS} {B : Nat} (V : VG T B) {s : Nat → Int32} (R : RG T s) (M : MS) (r0 : Nat → Int32) {w : Nat} (hw : w < 28) (x y lf : Int32) :
    ∃ T' s' v, f_X0_layIfPossible n1 T (nI w) lf = some (T', v) ∧ (T.1 3 = 1 → f_X6_command_b141 n2 x y (MM M r0 s) lf (nI w) = some (MM M r0 s', v)) ∧ (¬ T.1 3 = 1 → v = 0 ∧ s' = s) ∧ (v = 0 ∨ (v = 1 ∧ VG T' B ∧ RG T' s')) := by
  by_cases hp : T.1 3 = 1
  · by_cases h0 : rs n2 s w = 0
    · obtain ⟨H, s', g1, g2, g3, g4, g5⟩ := lay_both hn1 hn2 V R hp hw h0 lf
      obtain ⟨r1, r2, r3, r4⟩ := reason_rs hn2 V R hw
      rw [h0] at r1
      refine ⟨H, s', 1, g1, fun _ => ?_, fun q => absurd hp q, Or.inr ⟨rfl, g3, g4⟩⟩
      unfold f_X6_command_b141 f_X6_playOn
      refine bd_eq (v := (s', 0)) (bd_eq r1 (ip_eq rfl (bd_eq g2 rfl))) (ip_eq rfl ?_)
      rw [MM_2]
    · obtain ⟨H, s', r, g1, g2, g3, g4, g5, g6⟩ := play_both hn1 hn2 V R hp hw lf
      refine ⟨T, s', 0, lay_none hn2 V R hw (fun q => h0 q.2) lf, fun _ => ?_, fun q => absurd hp q, Or.inl rfl⟩
      refine bd_eq (v := (s', r)) g2 (in_eq (fun q => h0 ?_) ?_)
      · rw [← g6]
        exact q
      · rw [MM_2]
  · exact ⟨T, s, 0, lay_none hn2 V R hw (fun q => hp q.1) lf, fun q => absurd q hp, fun _ => ⟨rfl, rfl⟩, Or.inl rfl⟩
theorem cmd_2 {n1 n2 : Nat} (hn1 : 28 < n1) (hn2 : 28 < n2) {T : GS} {B : Nat} (V : VG T B) (hB : B < 2 ^ 30) {s : Nat → Int32} (R : RG T s) (c : CS) (M : MS) (r0 : Nat → Int32) {g : Nat} (hg : g < 10000) (hk : g / 1000 = 2) :
    ∃ T' r' s' v, f_X5_succeeds n1 (cG c 1 T) (nI g) = some (cG c 1 T', v) ∧ f_X6_command n2 (MM M r0 s) (nI (g / 1000)) (nI (g % 1000)) = some (MM M r' s', v) ∧ (v = 0 ∨ (v = 1 ∧ VG T' (B + 1) ∧ RG T' s')) := by
  obtain ⟨hd, ha, hw, ha', hw', hl', k1, k2⟩ := cmd_nums hg
  have V1 : VG T (B + 1) := V.le (by omega)
  have hr1 : (MM M r0 s).2 2 (1 : Int32).toNatClampNeg = T.1 3 := by
    rw [tnL_1]
    exact R.r1
  unfold f_X5_succeeds f_X6_command
  by_cases h2 : 2 ≤ g / 100 % 10
  · refine ⟨T, r0, s, 0, ?_, ?_, Or.inl rfl⟩
    · refine ck_eq (by decide) (ck_eq (by decide) (ck_eq (by decide) (ck_eq (by decide) (in_eq (by rw [hd, hk]; decide) (ip_eq (by rw [hd, hk]; rfl) ?_)))))
      exact ip_eq (by rw [ha]; exact (ltL_1 (by omega)).mpr (by omega)) rfl
    · refine ck_eq (by decide) (ck_eq (by decide) (ck_eq (by decide) (in_eq (by rw [hk]; decide) (ip_eq (by rw [hk]; rfl) ?_))))
      exact ip_eq (by rw [ha']; exact (leL_2 (by omega)).mpr h2) rfl
  · have hc1 : ¬ (1 : Int32) < jrem (nI g / (100 : Int32)) (10 : Int32) := by
      rw [ha]
      exact fun q => h2 ((ltL_1 (by omega)).mp q)
    have hm1 : ¬ (2 : Int32) ≤ nI (g % 1000) / (100 : Int32) := by
      rw [ha']
      exact fun q => h2 ((leL_2 (by omega)).mp q)
    by_cases h28 : 28 ≤ g % 100
    · refine ⟨T, r0, s, 0, ?_, ?_, Or.inl rfl⟩
      · refine ck_eq (by decide) (ck_eq (by decide) (ck_eq (by decide) (ck_eq (by decide) (in_eq (by rw [hd, hk]; decide) (ip_eq (by rw [hd, hk]; rfl) ?_)))))
        refine in_eq hc1 ?_
        have hb : ∀ lf, f_X5_succeeds_b99 n1 (nI g) (cG c 1 T) lf (jrem (nI g) (100 : Int32)) = some (cG c 1 T, 0) := fun lf => by
          unfold f_X5_succeeds_b99
          refine bd_eq (v := (T, 0)) (by rw [hw]; exact lay_big V h28 (by omega) lf) (ip_eq rfl ?_)
          rw [cG_cG]
        by_cases hq : jrem (nI g / (100 : Int32)) (10 : Int32) = 1
        · exact ip_eq hq (hb 1)
        · exact in_eq hq (hb 0)
      · refine ck_eq (by decide) (ck_eq (by decide) (ck_eq (by decide) (in_eq (by rw [hk]; decide) (ip_eq (by rw [hk]; rfl) ?_))))
        exact in_eq hm1 (ip_eq (by rw [hw']; exact (leL_28 (by omega)).mpr h28) rfl)
    · have hm2 : ¬ (28 : Int32) ≤ jrem (nI (g % 1000)) (100 : Int32) := by
        rw [hw']
        exact fun q => h28 ((leL_28 (by omega)).mp q)
      have key : ∀ lf : Int32, ∃ T' s' v, f_X5_succeeds_b99 n1 (nI g) (cG c 1 T) lf (jrem (nI g) (100 : Int32)) = some (cG c 1 T', v) ∧ (T.1 3 = 1 → f_X6_command_b141 n2 (nI (g / 1000)) (nI (g % 1000)) (MM M r0 s) lf (jrem (nI (g % 1000)) (100 : Int32)) = some (MM M r0 s', v)) ∧ (¬ T.1 3 = 1 → v = 0 ∧ s' = s) ∧ (v = 0 ∨ (v = 1 ∧ VG T' B ∧ RG T' s')) := fun lf => by
        obtain ⟨T', s', v, q1, q2, q3, q4⟩ := try_both hn1 hn2 V R M r0 (w := g % 100) (by omega) (nI (g / 1000)) (nI (g % 1000)) lf
        refine ⟨T', s', v, ?_, by rw [hw']; exact q2, q3, q4⟩
        unfold f_X5_succeeds_b99
        rw [hw]
        rcases q4 with rfl | ⟨rfl, _⟩
        · refine bd_eq q1 (ip_eq rfl ?_)
          rw [cG_cG]
        · refine bd_eq q1 (in_eq (show ¬ (1 : Int32) = 0 by decide) ?_)
          rw [cG_cG]
      have fin2 : ∀ lf : Int32, (∀ x, f_X5_succeeds_b99 n1 (nI g) (cG c 1 T) lf (jrem (nI g) (100 : Int32)) = x → f_X5_succeeds n1 (cG c 1 T) (nI g) = x) → (T.1 3 = 1 → ∀ x, f_X6_command_b141 n2 (nI (g / 1000)) (nI (g % 1000)) (MM M r0 s) lf (jrem (nI (g % 1000)) (100 : Int32)) = x → f_X6_command n2 (MM M r0 s) (nI (g / 1000)) (nI (g % 1000)) = x) → ∃ T' r' s' v, f_X5_succeeds n1 (cG c 1 T) (nI g) = some (cG c 1 T', v) ∧ f_X6_command n2 (MM M r0 s) (nI (g / 1000)) (nI (g % 1000)) = some (MM M r' s', v) ∧ (v = 0 ∨ (v = 1 ∧ VG T' (B + 1) ∧ RG T' s')) := fun lf e1 e2 => by
        obtain ⟨T', s', v, q1, q2, q3, q4⟩ := key lf
        refine ⟨T', r0, s', v, e1 _ q1, ?_, q4.elim Or.inl (fun z => Or.inr ⟨z.1, z.2.1.le (by omega), z.2.2⟩)⟩
        by_cases hp : T.1 3 = 1
        · exact e2 hp _ (q2 hp)
        · obtain ⟨rfl, rfl⟩ := q3 hp
          unfold f_X6_command
          refine ck_eq (by decide) (ck_eq (by decide) (ck_eq (by decide) (in_eq (by rw [hk]; decide) (ip_eq (by rw [hk]; rfl) ?_))))
          exact in_eq hm1 (in_eq hm2 (ck_eq (by decide) (in_eq (by rw [hr1]; exact hp) rfl)))
      by_cases hq : g / 100 % 10 = 1
      · refine fin2 1 (fun x e => ?_) (fun hp x e => ?_)
        · unfold f_X5_succeeds
          refine ck_eq (by decide) (ck_eq (by decide) (ck_eq (by decide) (ck_eq (by decide) (in_eq (by rw [hd, hk]; decide) (ip_eq (by rw [hd, hk]; rfl) ?_)))))
          exact in_eq hc1 (ip_eq (by rw [ha, hq]; rfl) e)
        · unfold f_X6_command
          refine ck_eq (by decide) (ck_eq (by decide) (ck_eq (by decide) (in_eq (by rw [hk]; decide) (ip_eq (by rw [hk]; rfl) ?_))))
          exact in_eq hm1 (in_eq hm2 (ck_eq (by decide) (ip_eq (by rw [hr1]; exact hp) (ip_eq (by rw [ha', hq]; rfl) e))))
      · refine fin2 0 (fun x e => ?_) (fun hp x e => ?_)
        · unfold f_X5_succeeds
          refine ck_eq (by decide) (ck_eq (by decide) (ck_eq (by decide) (ck_eq (by decide) (in_eq (by rw [hd, hk]; decide) (ip_eq (by rw [hd, hk]; rfl) ?_)))))
          exact in_eq hc1 (in_eq (by rw [ha]; exact fun z => hq ((eqL_1 (by omega)).mp z)) e)
        · unfold f_X6_command
          refine ck_eq (by decide) (ck_eq (by decide) (ck_eq (by decide) (in_eq (by rw [hk]; decide) (ip_eq (by rw [hk]; rfl) ?_))))
          exact in_eq hm1 (in_eq hm2 (ck_eq (by decide) (ip_eq (by rw [hr1]; exact hp) (in_eq (by rw [ha']; exact fun z => hq ((eqL_1 (by omega)).mp z)) e))))
theorem cmd_3 {n1 n2 : Nat} (hn1 : 28 < n1) (hn2 : 28 < n2) {T : GS} {B : Nat} (V : VG T B) (hB : B < 2 ^ 30) {s : Nat → Int32} (R : RG T s) (c : CS) (M : MS) (r0 : Nat → Int32) {g : Nat} (hg : g < 10000) (hk : g / 1000 = 3) :
    ∃ T' r' s' v, f_X5_succeeds n1 (cG c 1 T) (nI g) = some (cG c 1 T', v) ∧ f_X6_command n2 (MM M r0 s) (nI (g / 1000)) (nI (g % 1000)) = some (MM M r' s', v) ∧ (v = 0 ∨ (v = 1 ∧ VG T' (B + 1) ∧ RG T' s')) := by
  obtain ⟨hd, ha, hw, ha', hw', hl', k1, k2⟩ := cmd_nums hg
  have V1 : VG T (B + 1) := V.le (by omega)
  have hcd := can_draw V R
  unfold f_X5_succeeds f_X6_command
  by_cases h0 : g % 1000 = 0
  · have hx : nI g = 3000 := by
      rw [show g = 3000 by omega]
      rfl
    have hx2 : nI (g % 1000) = 0 := by
      rw [h0]
      rfl
    by_cases hb : T.1 3 = 1 ∧ hbG T < 28
    · obtain ⟨H, s', t, g1, g2, g3, g4, g5, g6⟩ := draw_both hn2 V R hb.1 hb.2
      rw [if_pos hb] at hcd
      refine ⟨H, r0, s', 1, ?_, ?_, Or.inr ⟨rfl, g3.le (by omega), g4⟩⟩
      · refine ck_eq (by decide) (ck_eq (by decide) (ck_eq (by decide) (ck_eq (by decide) (in_eq (by rw [hd, hk]; decide) (in_eq (by rw [hd, hk]; decide) (ip_eq (by rw [hd, hk]; rfl) ?_))))))
        refine ip_eq hx (bd_eq g1 (in_eq (nI_ne_m1 (by omega)) ?_))
        rw [cG_cG]
      · refine ck_eq (by decide) (ck_eq (by decide) (ck_eq (by decide) (in_eq (by rw [hk]; decide) (in_eq (by rw [hk]; decide) (ip_eq (by rw [hk]; rfl) ?_)))))
        refine ip_eq hx2 (bd_eq hcd.2 (in_eq (by decide) (bd_eq g2 (in_eq (nI_pos (by omega)) ?_))))
        rw [MM_2]
    · rw [if_neg hb] at hcd
      refine ⟨T, r0, s, 0, ?_, ?_, Or.inl rfl⟩
      · refine ck_eq (by decide) (ck_eq (by decide) (ck_eq (by decide) (ck_eq (by decide) (in_eq (by rw [hd, hk]; decide) (in_eq (by rw [hd, hk]; decide) (ip_eq (by rw [hd, hk]; rfl) ?_))))))
        refine ip_eq hx (bd_eq (v := (T, -1)) (draw_none V R hb) (ip_eq rfl ?_))
        rw [cG_cG]
      · refine ck_eq (by decide) (ck_eq (by decide) (ck_eq (by decide) (in_eq (by rw [hk]; decide) (in_eq (by rw [hk]; decide) (ip_eq (by rw [hk]; rfl) ?_)))))
        exact ip_eq hx2 (bd_eq hcd.2 (ip_eq rfl rfl))
  · refine ⟨T, r0, s, 0, ?_, ?_, Or.inl rfl⟩
    · refine ck_eq (by decide) (ck_eq (by decide) (ck_eq (by decide) (ck_eq (by decide) (in_eq (by rw [hd, hk]; decide) (in_eq (by rw [hd, hk]; decide) (ip_eq (by rw [hd, hk]; rfl) ?_))))))
      refine in_eq (fun q => ?_) rfl
      have := nI_inj (a := g) (b := 3000) (by omega) (by omega) q
      omega
    · refine ck_eq (by decide) (ck_eq (by decide) (ck_eq (by decide) (in_eq (by rw [hk]; decide) (in_eq (by rw [hk]; decide) (ip_eq (by rw [hk]; rfl) ?_)))))
      exact in_eq (fun q => h0 ((eqL_0 (by omega)).mp q)) rfl
theorem cmd_4 {n1 n2 : Nat} (hn1 : 28 < n1) (hn2 : 28 < n2) {T : GS} {B : Nat} (V : VG T B) (hB : B < 2 ^ 30) {s : Nat → Int32} (R : RG T s) (c : CS) (M : MS) (r0 : Nat → Int32) {g : Nat} (hg : g < 10000) (hk : g / 1000 = 4) :
    ∃ T' r' s' v, f_X5_succeeds n1 (cG c 1 T) (nI g) = some (cG c 1 T', v) ∧ f_X6_command n2 (MM M r0 s) (nI (g / 1000)) (nI (g % 1000)) = some (MM M r' s', v) ∧ (v = 0 ∨ (v = 1 ∧ VG T' (B + 1) ∧ RG T' s')) := by
  obtain ⟨hd, ha, hw, ha', hw', hl', k1, k2⟩ := cmd_nums hg
  have V1 : VG T (B + 1) := V.le (by omega)
  have hcd := can_pass V R
  unfold f_X5_succeeds f_X6_command
  by_cases h0 : g % 1000 = 0
  · have hx : nI g = 4000 := by
      rw [show g = 4000 by omega]
      rfl
    have hx2 : nI (g % 1000) = 0 := by
      rw [h0]
      rfl
    by_cases hb : T.1 3 = 1 ∧ hbG T = 28
    · obtain ⟨H, s', v, g1, g2, g3, g4, g5, g6⟩ := pass_both hn1 hn2 V R hb.1 hb.2
      rw [if_pos hb] at hcd
      have hv1 : ¬ v = -1 := by
        rcases g5 with rfl | rfl <;> decide
      have hv2 : ¬ v ≤ 0 := by
        rcases g5 with rfl | rfl <;> decide
      refine ⟨H, r0, s', 1, ?_, ?_, Or.inr ⟨rfl, g3.le (by omega), g4⟩⟩
      · refine ck_eq (by decide) (ck_eq (by decide) (ck_eq (by decide) (ck_eq (by decide) (in_eq (by rw [hd, hk]; decide) (in_eq (by rw [hd, hk]; decide) (in_eq (by rw [hd, hk]; decide) (ip_eq (by rw [hd, hk]; rfl) ?_)))))))
        refine ip_eq hx (bd_eq g1 (in_eq hv1 ?_))
        rw [cG_cG]
      · refine ck_eq (by decide) (ck_eq (by decide) (ck_eq (by decide) (in_eq (by rw [hk]; decide) (in_eq (by rw [hk]; decide) (in_eq (by rw [hk]; decide) (ip_eq (by rw [hk]; rfl) ?_))))))
        refine ip_eq hx2 (bd_eq hcd.2 (in_eq (by decide) (bd_eq g2 (in_eq hv2 ?_))))
        rw [MM_2]
    · rw [if_neg hb] at hcd
      refine ⟨T, r0, s, 0, ?_, ?_, Or.inl rfl⟩
      · refine ck_eq (by decide) (ck_eq (by decide) (ck_eq (by decide) (ck_eq (by decide) (in_eq (by rw [hd, hk]; decide) (in_eq (by rw [hd, hk]; decide) (in_eq (by rw [hd, hk]; decide) (ip_eq (by rw [hd, hk]; rfl) ?_)))))))
        refine ip_eq hx (bd_eq (v := (T, -1)) (pass_none V R hb) (ip_eq rfl ?_))
        rw [cG_cG]
      · refine ck_eq (by decide) (ck_eq (by decide) (ck_eq (by decide) (in_eq (by rw [hk]; decide) (in_eq (by rw [hk]; decide) (in_eq (by rw [hk]; decide) (ip_eq (by rw [hk]; rfl) ?_))))))
        exact ip_eq hx2 (bd_eq hcd.2 (ip_eq rfl rfl))
  · refine ⟨T, r0, s, 0, ?_, ?_, Or.inl rfl⟩
    · refine ck_eq (by decide) (ck_eq (by decide) (ck_eq (by decide) (ck_eq (by decide) (in_eq (by rw [hd, hk]; decide) (in_eq (by rw [hd, hk]; decide) (in_eq (by rw [hd, hk]; decide) (ip_eq (by rw [hd, hk]; rfl) ?_)))))))
      refine in_eq (fun q => ?_) rfl
      have := nI_inj (a := g) (b := 4000) (by omega) (by omega) q
      omega
    · refine ck_eq (by decide) (ck_eq (by decide) (ck_eq (by decide) (in_eq (by rw [hk]; decide) (in_eq (by rw [hk]; decide) (in_eq (by rw [hk]; decide) (ip_eq (by rw [hk]; rfl) ?_))))))
      exact in_eq (fun q => h0 ((eqL_0 (by omega)).mp q)) rfl
theorem cmd_5 {n1 n2 : Nat} (hn1 : 28 < n1) (hn2 : 28 < n2) {T : GS} {B : Nat} (V : VG T B) (hB : B < 2 ^ 30) {s : Nat → Int32} (R : RG T s) (c : CS) (M : MS) (r0 : Nat → Int32) {g : Nat} (hg : g < 10000) (hk : g / 1000 = 5) :
    ∃ T' r' s' v, f_X5_succeeds n1 (cG c 1 T) (nI g) = some (cG c 1 T', v) ∧ f_X6_command n2 (MM M r0 s) (nI (g / 1000)) (nI (g % 1000)) = some (MM M r' s', v) ∧ (v = 0 ∨ (v = 1 ∧ VG T' (B + 1) ∧ RG T' s')) := by
  obtain ⟨hd, ha, hw, ha', hw', hl', k1, k2⟩ := cmd_nums hg
  have V1 : VG T (B + 1) := V.le (by omega)
  unfold f_X5_succeeds f_X6_command
  by_cases h0 : g % 1000 < 10
  · obtain ⟨T', s', v, q1, q2, q3⟩ := heavy_both hn1 hn2 (B := B) (w := g % 100) (by omega) M r0 (g % 100) 0 n1 n2 T s V R (by omega) (by omega) (by omega)
    have hc : f_X0_layHeaviest n1 T (nI (g % 100)) = some (T', v) := q1
    have hm : f_X6_playsBest n2 (MM M r0 s) (nI (g % 100)) = some (MM M r0 s', v) := q2
    have hx : jrem (nI (g % 1000)) (10 : Int32) = nI (g % 100) := by
      rw [hl', show g % 10 = g % 100 by omega]
    refine ⟨T', r0, s', v, ?_, ?_, q3.elim Or.inl (fun z => Or.inr ⟨z.1, z.2.1.le (by omega), z.2.2⟩)⟩
    · refine ck_eq (by decide) (ck_eq (by decide) (ck_eq (by decide) (ck_eq (by decide) (in_eq (by rw [hd, hk]; decide) (in_eq (by rw [hd, hk]; decide) (in_eq (by rw [hd, hk]; decide) (in_eq (by rw [hd, hk]; decide) (ip_eq (by rw [hd, hk]; rfl) ?_))))))))
      refine ip_eq (by rw [ha, show g / 100 % 10 = 0 by omega]; rfl) (in_eq (fun q => ?_) (bd_eq (v := (T', v)) (by rw [hw]; exact hc) ?_))
      · rw [hw] at q
        have := nI_lt (a := g % 100) (b := 10) (by omega) (by omega)
        have h9 := (nI_ltI (a := 9) (b := g % 100) (by omega) (by omega)).mp q
        omega
      · rcases q3 with rfl | ⟨rfl, _⟩
        · refine ip_eq rfl ?_
          rw [cG_cG]
        · refine in_eq (show ¬ (1 : Int32) = 0 by decide) ?_
          rw [cG_cG]
    · refine ck_eq (by decide) (ck_eq (by decide) (ck_eq (by decide) (in_eq (by rw [hk]; decide) (in_eq (by rw [hk]; decide) (in_eq (by rw [hk]; decide) (in_eq (by rw [hk]; decide) (ip_eq (by rw [hk]; rfl) ?_)))))))
      refine in_eq (fun q => ?_) (bd_eq (v := (MM M r0 s', v)) (by rw [hx]; exact hm) ?_)
      · have := (leL_10 (by omega)).mp q
        omega
      · rcases q3 with rfl | ⟨rfl, _⟩
        · exact ip_eq rfl rfl
        · exact in_eq (show ¬ (1 : Int32) = 0 by decide) rfl
  · refine ⟨T, r0, s, 0, ?_, ?_, Or.inl rfl⟩
    · refine ck_eq (by decide) (ck_eq (by decide) (ck_eq (by decide) (ck_eq (by decide) (in_eq (by rw [hd, hk]; decide) (in_eq (by rw [hd, hk]; decide) (in_eq (by rw [hd, hk]; decide) (in_eq (by rw [hd, hk]; decide) (ip_eq (by rw [hd, hk]; rfl) ?_))))))))
      by_cases h1 : g / 100 % 10 = 0
      · refine ip_eq (by rw [ha, h1]; rfl) (ip_eq ?_ rfl)
        rw [hw]
        exact (nI_ltI (a := 9) (by omega) (by omega)).mpr (by omega)
      · exact in_eq (by rw [ha]; exact fun z => h1 ((eqL_0 (by omega)).mp z)) rfl
    · refine ck_eq (by decide) (ck_eq (by decide) (ck_eq (by decide) (in_eq (by rw [hk]; decide) (in_eq (by rw [hk]; decide) (in_eq (by rw [hk]; decide) (in_eq (by rw [hk]; decide) (ip_eq (by rw [hk]; rfl) ?_)))))))
      exact ip_eq ((leL_10 (by omega)).mpr (by omega)) rfl
theorem cmd_6 {n1 n2 : Nat} (hn1 : 28 < n1) (hn2 : 28 < n2) {T : GS} {B : Nat} (V : VG T B) (hB : B < 2 ^ 30) {s : Nat → Int32} (R : RG T s) (c : CS) (M : MS) (r0 : Nat → Int32) {g : Nat} (hg : g < 10000) (hk : g / 1000 = 6) :
    ∃ T' r' s' v, f_X5_succeeds n1 (cG c 1 T) (nI g) = some (cG c 1 T', v) ∧ f_X6_command n2 (MM M r0 s) (nI (g / 1000)) (nI (g % 1000)) = some (MM M r' s', v) ∧ (v = 0 ∨ (v = 1 ∧ VG T' (B + 1) ∧ RG T' s')) := by
  obtain ⟨hd, ha, hw, ha', hw', hl', k1, k2⟩ := cmd_nums hg
  have V1 : VG T (B + 1) := V.le (by omega)
  have hr1 : (MM M r0 s).2 2 (1 : Int32).toNatClampNeg = T.1 3 := by
    rw [tnL_1]
    exact R.r1
  have hr3 : (MM M r0 s).2 2 (3 : Int32).toNatClampNeg = T.1 5 := by
    rw [tnL_3]
    exact R.r3
  have hpm : f_X0_playerToMove T = some (if T.1 3 = 1 then T.1 5 else -1) := by
    unfold f_X0_playerToMove
    refine bd_eq f_isPlayed ?_
    by_cases hp : T.1 3 = 1
    · rw [if_pos hp, if_pos hp]
      rfl
    · rw [if_neg hp, if_neg hp]
      rfl
  unfold f_X5_succeeds f_X6_command
  by_cases h1 : g / 100 % 10 = 0
  · have hz : jrem (nI g / (100 : Int32)) (10 : Int32) = 0 := by
      rw [ha, h1]
      rfl
    by_cases hp : T.1 3 = 1
    · rw [if_pos hp] at hpm
      obtain ⟨P, tt, q, z1, z2, z3, z4, e1, e2, e3⟩ := V.pl hp
      by_cases hq : tt = g % 100
      · have hx : jrem (nI (g % 1000)) (10 : Int32) = nI (g % 100) := by
          rw [hl', show g % 10 = g % 100 by omega]
        refine ⟨T, r0, s, 1, ?_, ?_, Or.inr ⟨rfl, V1, R⟩⟩
        · refine ck_eq (by decide) (ck_eq (by decide) (ck_eq (by decide) (ck_eq (by decide) (in_eq (by rw [hd, hk]; decide) (in_eq (by rw [hd, hk]; decide) (in_eq (by rw [hd, hk]; decide) (in_eq (by rw [hd, hk]; decide) (in_eq (by rw [hd, hk]; decide) (ip_eq (by rw [hd, hk]; rfl) ?_)))))))))
          exact ip_eq hz (bd_eq hpm (ip_eq (by rw [hw, e2, hq]) rfl))
        · refine ck_eq (by decide) (ck_eq (by decide) (ck_eq (by decide) (in_eq (by rw [hk]; decide) (in_eq (by rw [hk]; decide) (in_eq (by rw [hk]; decide) (in_eq (by rw [hk]; decide) (in_eq (by rw [hk]; decide) (ip_eq (by rw [hk]; rfl) ?_))))))))
          refine in_eq (fun z => ?_) (ck_eq (by decide) (ip_eq (by rw [hr1]; exact hp) (ck_eq (by decide) (ip_eq (by rw [hr3, hx, e2, hq]) rfl))))
          have := (leL_4 (by omega)).mp z
          omega
      · refine ⟨T, r0, s, 0, ?_, ?_, Or.inl rfl⟩
        · refine ck_eq (by decide) (ck_eq (by decide) (ck_eq (by decide) (ck_eq (by decide) (in_eq (by rw [hd, hk]; decide) (in_eq (by rw [hd, hk]; decide) (in_eq (by rw [hd, hk]; decide) (in_eq (by rw [hd, hk]; decide) (in_eq (by rw [hd, hk]; decide) (ip_eq (by rw [hd, hk]; rfl) ?_)))))))))
          refine ip_eq hz (bd_eq hpm (in_eq (fun z => ?_) rfl))
          rw [hw, e2] at z
          exact hq (nI_inj (by omega) (by omega) z)
        · refine ck_eq (by decide) (ck_eq (by decide) (ck_eq (by decide) (in_eq (by rw [hk]; decide) (in_eq (by rw [hk]; decide) (in_eq (by rw [hk]; decide) (in_eq (by rw [hk]; decide) (in_eq (by rw [hk]; decide) (ip_eq (by rw [hk]; rfl) ?_))))))))
          by_cases h4 : 4 ≤ g % 1000
          · exact ip_eq ((leL_4 (by omega)).mpr h4) rfl
          · have hx : jrem (nI (g % 1000)) (10 : Int32) = nI (g % 100) := by
              rw [hl', show g % 10 = g % 100 by omega]
            refine in_eq (fun z => h4 ((leL_4 (by omega)).mp z)) (ck_eq (by decide) (ip_eq (by rw [hr1]; exact hp) (ck_eq (by decide) (in_eq (fun z => ?_) rfl))))
            rw [hr3, hx, e2] at z
            exact hq (nI_inj (by omega) (by omega) z)
    · rw [if_neg hp] at hpm
      refine ⟨T, r0, s, 0, ?_, ?_, Or.inl rfl⟩
      · refine ck_eq (by decide) (ck_eq (by decide) (ck_eq (by decide) (ck_eq (by decide) (in_eq (by rw [hd, hk]; decide) (in_eq (by rw [hd, hk]; decide) (in_eq (by rw [hd, hk]; decide) (in_eq (by rw [hd, hk]; decide) (in_eq (by rw [hd, hk]; decide) (ip_eq (by rw [hd, hk]; rfl) ?_)))))))))
        refine ip_eq hz (bd_eq hpm (in_eq (fun z => ?_) rfl))
        rw [hw] at z
        exact nI_ne_m1' (by omega) z
      · refine ck_eq (by decide) (ck_eq (by decide) (ck_eq (by decide) (in_eq (by rw [hk]; decide) (in_eq (by rw [hk]; decide) (in_eq (by rw [hk]; decide) (in_eq (by rw [hk]; decide) (in_eq (by rw [hk]; decide) (ip_eq (by rw [hk]; rfl) ?_))))))))
        by_cases h4 : 4 ≤ g % 1000
        · exact ip_eq ((leL_4 (by omega)).mpr h4) rfl
        · exact in_eq (fun z => h4 ((leL_4 (by omega)).mp z)) (ck_eq (by decide) (in_eq (by rw [hr1]; exact hp) rfl))
  · refine ⟨T, r0, s, 0, ?_, ?_, Or.inl rfl⟩
    · refine ck_eq (by decide) (ck_eq (by decide) (ck_eq (by decide) (ck_eq (by decide) (in_eq (by rw [hd, hk]; decide) (in_eq (by rw [hd, hk]; decide) (in_eq (by rw [hd, hk]; decide) (in_eq (by rw [hd, hk]; decide) (in_eq (by rw [hd, hk]; decide) (ip_eq (by rw [hd, hk]; rfl) ?_)))))))))
      exact in_eq (by rw [ha]; exact fun z => h1 ((eqL_0 (by omega)).mp z)) rfl
    · refine ck_eq (by decide) (ck_eq (by decide) (ck_eq (by decide) (in_eq (by rw [hk]; decide) (in_eq (by rw [hk]; decide) (in_eq (by rw [hk]; decide) (in_eq (by rw [hk]; decide) (in_eq (by rw [hk]; decide) (ip_eq (by rw [hk]; rfl) ?_))))))))
      exact ip_eq ((leL_4 (by omega)).mpr (by omega)) rfl
theorem cmd_7 {n1 n2 : Nat} (hn1 : 28 < n1) (hn2 : 28 < n2) {T : GS} {B : Nat} (V : VG T B) (hB : B < 2 ^ 30) {s : Nat → Int32} (R : RG T s) (c : CS) (M : MS) (r0 : Nat → Int32) {g : Nat} (hg : g < 10000) (hk : g / 1000 = 7) :
    ∃ T' r' s' v, f_X5_succeeds n1 (cG c 1 T) (nI g) = some (cG c 1 T', v) ∧ f_X6_command n2 (MM M r0 s) (nI (g / 1000)) (nI (g % 1000)) = some (MM M r' s', v) ∧ (v = 0 ∨ (v = 1 ∧ VG T' (B + 1) ∧ RG T' s')) := by
  obtain ⟨hd, ha, hw, ha', hw', hl', k1, k2⟩ := cmd_nums hg
  have V1 : VG T (B + 1) := V.le (by omega)
  have hcnt := cntH_le (T.2.2 1) (nI (g / 100 % 10)) 28
  unfold f_X5_succeeds f_X6_command
  by_cases h1 : g / 100 % 10 < 4
  · have hc1 : f_X5_isPlayer (jrem (nI g / (100 : Int32)) (10 : Int32)) = some 1 := by
      rw [ha]
      exact f_isPlayer_n h1
    have hm1 : ¬ (4 : Int32) ≤ nI (g % 1000) / (100 : Int32) := by
      rw [ha']
      intro z
      have := (leL_4 (by omega)).mp z
      omega
    by_cases h2 : g % 100 < cntH (T.2.2 1) (nI (g / 100 % 10)) 28
    · refine ⟨T, r0, s, 0, ?_, ?_, Or.inl rfl⟩
      · refine ck_eq (by decide) (ck_eq (by decide) (ck_eq (by decide) (ck_eq (by decide) (in_eq (by rw [hd, hk]; decide) (in_eq (by rw [hd, hk]; decide) (in_eq (by rw [hd, hk]; decide) (in_eq (by rw [hd, hk]; decide) (in_eq (by rw [hd, hk]; decide) (in_eq (by rw [hd, hk]; decide) (ip_eq (by rw [hd, hk]; rfl) ?_))))))))))
        refine bd_eq hc1 (in_eq (by decide) (bd_eq (f_tilesOf hn1 T _) (ip_eq ?_ rfl)))
        rw [hw, ha]
        exact nI_lt h2 (by omega)
      · refine ck_eq (by decide) (ck_eq (by decide) (ck_eq (by decide) (in_eq (by rw [hk]; decide) (in_eq (by rw [hk]; decide) (in_eq (by rw [hk]; decide) (in_eq (by rw [hk]; decide) (in_eq (by rw [hk]; decide) (in_eq (by rw [hk]; decide) (ip_eq (by rw [hk]; rfl) ?_)))))))))
        refine in_eq hm1 (bd_eq (r_handMany hn2 R _) (ip_eq ?_ rfl))
        rw [hw', ha']
        exact nI_lt h2 (by omega)
    · refine ⟨T, r0, s, 1, ?_, ?_, Or.inr ⟨rfl, V1, R⟩⟩
      · refine ck_eq (by decide) (ck_eq (by decide) (ck_eq (by decide) (ck_eq (by decide) (in_eq (by rw [hd, hk]; decide) (in_eq (by rw [hd, hk]; decide) (in_eq (by rw [hd, hk]; decide) (in_eq (by rw [hd, hk]; decide) (in_eq (by rw [hd, hk]; decide) (in_eq (by rw [hd, hk]; decide) (ip_eq (by rw [hd, hk]; rfl) ?_))))))))))
        refine bd_eq hc1 (in_eq (by decide) (bd_eq (f_tilesOf hn1 T _) (in_eq ?_ rfl)))
        rw [hw, ha]
        exact nI_nlt (by omega) (by omega)
      · refine ck_eq (by decide) (ck_eq (by decide) (ck_eq (by decide) (in_eq (by rw [hk]; decide) (in_eq (by rw [hk]; decide) (in_eq (by rw [hk]; decide) (in_eq (by rw [hk]; decide) (in_eq (by rw [hk]; decide) (in_eq (by rw [hk]; decide) (ip_eq (by rw [hk]; rfl) ?_)))))))))
        refine in_eq hm1 (bd_eq (r_handMany hn2 R _) (in_eq ?_ rfl))
        rw [hw', ha']
        exact nI_nlt (by omega) (by omega)
  · refine ⟨T, r0, s, 0, ?_, ?_, Or.inl rfl⟩
    · refine ck_eq (by decide) (ck_eq (by decide) (ck_eq (by decide) (ck_eq (by decide) (in_eq (by rw [hd, hk]; decide) (in_eq (by rw [hd, hk]; decide) (in_eq (by rw [hd, hk]; decide) (in_eq (by rw [hd, hk]; decide) (in_eq (by rw [hd, hk]; decide) (in_eq (by rw [hd, hk]; decide) (ip_eq (by rw [hd, hk]; rfl) ?_))))))))))
      refine bd_eq (v := 0) ?_ (ip_eq rfl rfl)
      rw [ha]
      unfold f_X5_isPlayer
      exact in_eq (nI_pos (by omega)) (ip_eq ((leL_4 (by omega)).mpr (by omega)) rfl)
    · refine ck_eq (by decide) (ck_eq (by decide) (ck_eq (by decide) (in_eq (by rw [hk]; decide) (in_eq (by rw [hk]; decide) (in_eq (by rw [hk]; decide) (in_eq (by rw [hk]; decide) (in_eq (by rw [hk]; decide) (in_eq (by rw [hk]; decide) (ip_eq (by rw [hk]; rfl) ?_)))))))))
      refine ip_eq ?_ rfl
      rw [ha']
      exact (leL_4 (by omega)).mpr (by omega)
theorem cmd_8 {n1 n2 : Nat} (hn1 : 28 < n1) (hn2 : 28 < n2) {T : GS} {B : Nat} (V : VG T B) (hB : B < 2 ^ 30) {s : Nat → Int32} (R : RG T s) (c : CS) (M : MS) (r0 : Nat → Int32) {g : Nat} (hg : g < 10000) (hk : g / 1000 = 8) :
    ∃ T' r' s' v, f_X5_succeeds n1 (cG c 1 T) (nI g) = some (cG c 1 T', v) ∧ f_X6_command n2 (MM M r0 s) (nI (g / 1000)) (nI (g % 1000)) = some (MM M r' s', v) ∧ (v = 0 ∨ (v = 1 ∧ VG T' (B + 1) ∧ RG T' s')) := by
  obtain ⟨hd, ha, hw, ha', hw', hl', k1, k2⟩ := cmd_nums hg
  have V1 : VG T (B + 1) := V.le (by omega)
  have hr6 : (MM M r0 s).2 2 (6 : Int32).toNatClampNeg = T.2.1 1 := by
    rw [tnL_6]
    exact R.r6
  have hen : ∀ w : Nat, w < 100 → 10 ≤ w → ¬ T.2.1 1 = nI w := fun w h1 h2 q => by
    rcases V.en with ⟨z1, z2⟩ | ⟨z1, e, z2, z3⟩
    · rw [z2] at q
      exact nI_ne_m1' (by omega) q
    · rw [z3] at q
      have := nI_inj (by omega) (by omega) q
      omega
  unfold f_X5_succeeds f_X6_command
  by_cases h1 : g / 100 % 10 = 0
  · have hz : jrem (nI g / (100 : Int32)) (10 : Int32) = 0 := by
      rw [ha, h1]
      rfl
    by_cases h2 : g % 100 < 10
    · have hx : jrem (nI (g % 1000)) (10 : Int32) = nI (g % 100) := by
        rw [hl', show g % 10 = g % 100 by omega]
      have hm1 : ¬ (10 : Int32) ≤ nI (g % 1000) := fun z => by
        have := (leL_10 (by omega)).mp z
        omega
      by_cases h3 : T.2.1 1 = nI (g % 100)
      · refine ⟨T, r0, s, 1, ?_, ?_, Or.inr ⟨rfl, V1, R⟩⟩
        · refine ck_eq (by decide) (ck_eq (by decide) (ck_eq (by decide) (ck_eq (by decide) (in_eq (by rw [hd, hk]; decide) (in_eq (by rw [hd, hk]; decide) (in_eq (by rw [hd, hk]; decide) (in_eq (by rw [hd, hk]; decide) (in_eq (by rw [hd, hk]; decide) (in_eq (by rw [hd, hk]; decide) (in_eq (by rw [hd, hk]; decide) (ip_eq (by rw [hd, hk]; rfl) ?_)))))))))))
          exact ip_eq hz (bd_eq (v := ()) rfl (bd_eq (v := T.2.1 1) rfl (ip_eq (by rw [hw]; exact h3) rfl)))
        · refine ck_eq (by decide) (ck_eq (by decide) (ck_eq (by decide) (in_eq (by rw [hk]; decide) (in_eq (by rw [hk]; decide) (in_eq (by rw [hk]; decide) (in_eq (by rw [hk]; decide) (in_eq (by rw [hk]; decide) (in_eq (by rw [hk]; decide) (in_eq (by rw [hk]; decide) (ip_eq (by rw [hk]; rfl) ?_))))))))))
          exact in_eq hm1 (ck_eq (by decide) (ip_eq (by rw [hr6, hx]; exact h3) rfl))
      · refine ⟨T, r0, s, 0, ?_, ?_, Or.inl rfl⟩
        · refine ck_eq (by decide) (ck_eq (by decide) (ck_eq (by decide) (ck_eq (by decide) (in_eq (by rw [hd, hk]; decide) (in_eq (by rw [hd, hk]; decide) (in_eq (by rw [hd, hk]; decide) (in_eq (by rw [hd, hk]; decide) (in_eq (by rw [hd, hk]; decide) (in_eq (by rw [hd, hk]; decide) (in_eq (by rw [hd, hk]; decide) (ip_eq (by rw [hd, hk]; rfl) ?_)))))))))))
          exact ip_eq hz (bd_eq (v := ()) rfl (bd_eq (v := T.2.1 1) rfl (in_eq (by rw [hw]; exact h3) rfl)))
        · refine ck_eq (by decide) (ck_eq (by decide) (ck_eq (by decide) (in_eq (by rw [hk]; decide) (in_eq (by rw [hk]; decide) (in_eq (by rw [hk]; decide) (in_eq (by rw [hk]; decide) (in_eq (by rw [hk]; decide) (in_eq (by rw [hk]; decide) (in_eq (by rw [hk]; decide) (ip_eq (by rw [hk]; rfl) ?_))))))))))
          exact in_eq hm1 (ck_eq (by decide) (in_eq (by rw [hr6, hx]; exact h3) rfl))
    · refine ⟨T, r0, s, 0, ?_, ?_, Or.inl rfl⟩
      · refine ck_eq (by decide) (ck_eq (by decide) (ck_eq (by decide) (ck_eq (by decide) (in_eq (by rw [hd, hk]; decide) (in_eq (by rw [hd, hk]; decide) (in_eq (by rw [hd, hk]; decide) (in_eq (by rw [hd, hk]; decide) (in_eq (by rw [hd, hk]; decide) (in_eq (by rw [hd, hk]; decide) (in_eq (by rw [hd, hk]; decide) (ip_eq (by rw [hd, hk]; rfl) ?_)))))))))))
        exact ip_eq hz (bd_eq (v := ()) rfl (bd_eq (v := T.2.1 1) rfl (in_eq (by rw [hw]; exact hen _ (by omega) (by omega)) rfl)))
      · refine ck_eq (by decide) (ck_eq (by decide) (ck_eq (by decide) (in_eq (by rw [hk]; decide) (in_eq (by rw [hk]; decide) (in_eq (by rw [hk]; decide) (in_eq (by rw [hk]; decide) (in_eq (by rw [hk]; decide) (in_eq (by rw [hk]; decide) (in_eq (by rw [hk]; decide) (ip_eq (by rw [hk]; rfl) ?_))))))))))
        exact ip_eq ((leL_10 (by omega)).mpr (by omega)) rfl
  · refine ⟨T, r0, s, 0, ?_, ?_, Or.inl rfl⟩
    · refine ck_eq (by decide) (ck_eq (by decide) (ck_eq (by decide) (ck_eq (by decide) (in_eq (by rw [hd, hk]; decide) (in_eq (by rw [hd, hk]; decide) (in_eq (by rw [hd, hk]; decide) (in_eq (by rw [hd, hk]; decide) (in_eq (by rw [hd, hk]; decide) (in_eq (by rw [hd, hk]; decide) (in_eq (by rw [hd, hk]; decide) (ip_eq (by rw [hd, hk]; rfl) ?_)))))))))))
      exact in_eq (by rw [ha]; exact fun z => h1 ((eqL_0 (by omega)).mp z)) rfl
    · refine ck_eq (by decide) (ck_eq (by decide) (ck_eq (by decide) (in_eq (by rw [hk]; decide) (in_eq (by rw [hk]; decide) (in_eq (by rw [hk]; decide) (in_eq (by rw [hk]; decide) (in_eq (by rw [hk]; decide) (in_eq (by rw [hk]; decide) (in_eq (by rw [hk]; decide) (ip_eq (by rw [hk]; rfl) ?_))))))))))
      exact ip_eq ((leL_10 (by omega)).mpr (by omega)) rfl
theorem cmd_9 {n1 n2 : Nat} (hn1 : 28 < n1) (hn2 : 28 < n2) {T : GS} {B : Nat} (V : VG T B) (hB : B < 2 ^ 30) {s : Nat → Int32} (R : RG T s) (c : CS) (M : MS) (r0 : Nat → Int32) {g : Nat} (hg : g < 10000) (hk : g / 1000 = 9) :
    ∃ T' r' s' v, f_X5_succeeds n1 (cG c 1 T) (nI g) = some (cG c 1 T', v) ∧ f_X6_command n2 (MM M r0 s) (nI (g / 1000)) (nI (g % 1000)) = some (MM M r' s', v) ∧ (v = 0 ∨ (v = 1 ∧ VG T' (B + 1) ∧ RG T' s')) := by
  obtain ⟨hd, ha, hw, ha', hw', hl', k1, k2⟩ := cmd_nums hg
  have V1 : VG T (B + 1) := V.le (by omega)
  have h28 := V.sz28
  have hr5 : (MM M r0 s).2 2 (5 : Int32).toNatClampNeg = nI (szG T) := by
    rw [tnL_5]
    exact R.r5
  unfold f_X5_succeeds f_X6_command
  by_cases h1 : g / 100 % 10 = 0
  · have hz : jrem (nI g / (100 : Int32)) (10 : Int32) = 0 := by
      rw [ha, h1]
      rfl
    have hz' : nI (g % 1000) / (100 : Int32) = 0 := by
      rw [ha', h1]
      rfl
    by_cases h2 : szG T < g % 100
    · refine ⟨T, r0, s, 0, ?_, ?_, Or.inl rfl⟩
      · refine ck_eq (by decide) (ck_eq (by decide) (ck_eq (by decide) (ck_eq (by decide) (in_eq (by rw [hd, hk]; decide) (in_eq (by rw [hd, hk]; decide) (in_eq (by rw [hd, hk]; decide) (in_eq (by rw [hd, hk]; decide) (in_eq (by rw [hd, hk]; decide) (in_eq (by rw [hd, hk]; decide) (in_eq (by rw [hd, hk]; decide) (in_eq (by rw [hd, hk]; decide) (ip_eq (by rw [hd, hk]; rfl) ?_))))))))))))
        exact ip_eq hz (bd_eq (v := ()) rfl (bd_eq (v := nI (szG T)) (congrArg some V.sz) (ip_eq (by rw [hw]; exact nI_lt h2 (by omega)) rfl)))
      · refine ck_eq (by decide) (ck_eq (by decide) (ck_eq (by decide) (in_eq (by rw [hk]; decide) (in_eq (by rw [hk]; decide) (in_eq (by rw [hk]; decide) (in_eq (by rw [hk]; decide) (in_eq (by rw [hk]; decide) (in_eq (by rw [hk]; decide) (in_eq (by rw [hk]; decide) (in_eq (by rw [hk]; decide) (ip_eq (by rw [hk]; rfl) ?_)))))))))))
        exact ip_eq hz' (ck_eq (by decide) (ip_eq (by rw [hr5, hw']; exact nI_lt h2 (by omega)) rfl))
    · refine ⟨T, r0, s, 1, ?_, ?_, Or.inr ⟨rfl, V1, R⟩⟩
      · refine ck_eq (by decide) (ck_eq (by decide) (ck_eq (by decide) (ck_eq (by decide) (in_eq (by rw [hd, hk]; decide) (in_eq (by rw [hd, hk]; decide) (in_eq (by rw [hd, hk]; decide) (in_eq (by rw [hd, hk]; decide) (in_eq (by rw [hd, hk]; decide) (in_eq (by rw [hd, hk]; decide) (in_eq (by rw [hd, hk]; decide) (in_eq (by rw [hd, hk]; decide) (ip_eq (by rw [hd, hk]; rfl) ?_))))))))))))
        exact ip_eq hz (bd_eq (v := ()) rfl (bd_eq (v := nI (szG T)) (congrArg some V.sz) (in_eq (by rw [hw]; exact nI_nlt (by omega) (by omega)) rfl)))
      · refine ck_eq (by decide) (ck_eq (by decide) (ck_eq (by decide) (in_eq (by rw [hk]; decide) (in_eq (by rw [hk]; decide) (in_eq (by rw [hk]; decide) (in_eq (by rw [hk]; decide) (in_eq (by rw [hk]; decide) (in_eq (by rw [hk]; decide) (in_eq (by rw [hk]; decide) (in_eq (by rw [hk]; decide) (ip_eq (by rw [hk]; rfl) ?_)))))))))))
        exact ip_eq hz' (ck_eq (by decide) (in_eq (by rw [hr5, hw']; exact nI_nlt (by omega) (by omega)) rfl))
  · refine ⟨T, r0, s, 0, ?_, ?_, Or.inl rfl⟩
    · refine ck_eq (by decide) (ck_eq (by decide) (ck_eq (by decide) (ck_eq (by decide) (in_eq (by rw [hd, hk]; decide) (in_eq (by rw [hd, hk]; decide) (in_eq (by rw [hd, hk]; decide) (in_eq (by rw [hd, hk]; decide) (in_eq (by rw [hd, hk]; decide) (in_eq (by rw [hd, hk]; decide) (in_eq (by rw [hd, hk]; decide) (in_eq (by rw [hd, hk]; decide) (ip_eq (by rw [hd, hk]; rfl) ?_))))))))))))
      exact in_eq (by rw [ha]; exact fun z => h1 ((eqL_0 (by omega)).mp z)) rfl
    · refine ck_eq (by decide) (ck_eq (by decide) (ck_eq (by decide) (in_eq (by rw [hk]; decide) (in_eq (by rw [hk]; decide) (in_eq (by rw [hk]; decide) (in_eq (by rw [hk]; decide) (in_eq (by rw [hk]; decide) (in_eq (by rw [hk]; decide) (in_eq (by rw [hk]; decide) (in_eq (by rw [hk]; decide) (ip_eq (by rw [hk]; rfl) ?_)))))))))))
      exact in_eq (by rw [ha']; exact fun z => h1 ((eqL_0 (by omega)).mp z)) rfl
theorem cmd_0 {n1 n2 : Nat} (hn1 : 28 < n1) (hn2 : 28 < n2) {T : GS} {B : Nat} (V : VG T B) (hB : B < 2 ^ 30) {s : Nat → Int32} (R : RG T s) (c : CS) (M : MS) (r0 : Nat → Int32) {g : Nat} (hg : g < 10000) (hk : g / 1000 = 0) :
    ∃ T' r' s' v, f_X5_succeeds n1 (cG c 1 T) (nI g) = some (cG c 1 T', v) ∧ f_X6_command n2 (MM M r0 s) (nI (g / 1000)) (nI (g % 1000)) = some (MM M r' s', v) ∧ (v = 0 ∨ (v = 1 ∧ VG T' (B + 1) ∧ RG T' s')) := by
  obtain ⟨hd, ha, hw, ha', hw', hl', k1, k2⟩ := cmd_nums hg
  have V1 : VG T (B + 1) := V.le (by omega)
  unfold f_X5_succeeds f_X6_command
  refine ⟨T, r0, s, 0, ?_, ?_, Or.inl rfl⟩
  · exact ck_eq (by decide) (ck_eq (by decide) (ck_eq (by decide) (ck_eq (by decide) (in_eq (by rw [hd, hk]; decide) (in_eq (by rw [hd, hk]; decide) (in_eq (by rw [hd, hk]; decide) (in_eq (by rw [hd, hk]; decide) (in_eq (by rw [hd, hk]; decide) (in_eq (by rw [hd, hk]; decide) (in_eq (by rw [hd, hk]; decide) (in_eq (by rw [hd, hk]; decide) (in_eq (by rw [hd, hk]; decide) (rfl)))))))))))))
  · exact ck_eq (by decide) (ck_eq (by decide) (ck_eq (by decide) (in_eq (by rw [hk]; decide) (in_eq (by rw [hk]; decide) (in_eq (by rw [hk]; decide) (in_eq (by rw [hk]; decide) (in_eq (by rw [hk]; decide) (in_eq (by rw [hk]; decide) (in_eq (by rw [hk]; decide) (in_eq (by rw [hk]; decide) (in_eq (by rw [hk]; decide) (rfl))))))))))))
theorem cmd_both {n1 n2 : Nat} (hn1 : 28 < n1) (hn2 : 28 < n2) {T : GS} {B : Nat} (V : VG T B) (hB : B < 2 ^ 30) {s : Nat → Int32} (R : RG T s) (c : CS) (M : MS) (r0 : Nat → Int32) {g : Nat} (hg : g < 10000) :
    ∃ T' r' s' v, f_X5_succeeds n1 (cG c 1 T) (nI g) = some (cG c 1 T', v) ∧ f_X6_command n2 (MM M r0 s) (nI (g / 1000)) (nI (g % 1000)) = some (MM M r' s', v) ∧ (v = 0 ∨ (v = 1 ∧ VG T' (B + 1) ∧ RG T' s')) := by
  have h : g / 1000 = 0 ∨ g / 1000 = 1 ∨ g / 1000 = 2 ∨ g / 1000 = 3 ∨ g / 1000 = 4 ∨ g / 1000 = 5 ∨ g / 1000 = 6 ∨ g / 1000 = 7 ∨ g / 1000 = 8 ∨ g / 1000 = 9 := by omega
  rcases h with h | h | h | h | h | h | h | h | h | h
  · exact cmd_0 hn1 hn2 V hB R c M r0 hg h
  · exact cmd_1 hn1 hn2 V hB R c M r0 hg h
  · exact cmd_2 hn1 hn2 V hB R c M r0 hg h
  · exact cmd_3 hn1 hn2 V hB R c M r0 hg h
  · exact cmd_4 hn1 hn2 V hB R c M r0 hg h
  · exact cmd_5 hn1 hn2 V hB R c M r0 hg h
  · exact cmd_6 hn1 hn2 V hB R c M r0 hg h
  · exact cmd_7 hn1 hn2 V hB R c M r0 hg h
  · exact cmd_8 hn1 hn2 V hB R c M r0 hg h
  · exact cmd_9 hn1 hn2 V hB R c M r0 hg h
