/-! PURE LEVEL: simulations -/
theorem cG_cG (c : CS) (i : Nat) (G H : GS) : cG (cG c i G) i H = cG c i H := by
  unfold cG
  refine Prod.ext rfl (Prod.ext rfl (funext fun j => ?_))
  show (if j = i then H else if j = i then G else c.2.2 j) = if j = i then H else c.2.2 j
  by_cases e : j = i
  · rw [if_pos e, if_pos e]
  · rw [if_neg e, if_neg e, if_neg e]
theorem cG_at (c : CS) (i : Nat) (G : GS) : (cG c i G).2.2 i = G := if_pos rfl
theorem jdiv_16 {a : Nat} (ha : a < 2 ^ 31) : nI a / (16 : Int32) = nI (a / 16) := jdiv_n (d := 16) ha (by decide) (by decide)
theorem jrem_16 {a : Nat} (ha : a < 2 ^ 31) : jrem (nI a) (16 : Int32) = nI (a % 16) := jrem_n (d := 16) ha (by decide) (by decide)
theorem jrem_3 {a : Nat} (ha : a < 2 ^ 31) : jrem (nI a) (3 : Int32) = nI (a % 3) := jrem_n (d := 3) ha (by decide) (by decide)
theorem f_turn {n : Nat} (hn : 28 < n) {T : GS} {B : Nat} (V : VG T B) (hB : B < 2 ^ 30) (c : CS) {r : Nat} (hr : r < 2 ^ 31) : ∃ T', f_X5_simulateTurn n (cG c 1 T) (nI r) = some (cG c 1 T') ∧ VG T' (B + 1) := by
  have d16 := jdiv_16 hr
  have r16 := jrem_16 hr
  have hq : r / 16 < 2 ^ 31 := by omega
  unfold f_X5_simulateTurn
  by_cases hp : T.1 3 = 1
  · have hcnt := cntH_le (rsn T) 0 28
    have hpl := f_playable hn V
    by_cases hz : cntH (rsn T) 0 28 = 0
    · have hzz : (nI (cntH (rsn T) 0 28)) ≤ 0 := by
        rw [hz]
        decide
      have hc := f_can_draw V
      by_cases hb : hbG T < 28
      · obtain ⟨t, ht, e, h1, h2⟩ := V.he (hbG T) (Nat.le_refl _) hb
        rw [if_pos ⟨hp, hb⟩] at hc
        refine ⟨drwG T t, ?_, (draw_VG V hp hb ht e h2).le (by omega)⟩
        refine ck_eq (by decide) (bd_eq f_isPlayed ?_)
        refine in_eq (by rw [show (cG c 1 T).2.2 1 = T from rfl, if_pos hp]; decide) ?_
        refine bd_eq hpl (bd_eq (count_msk _ _) (ip_eq hzz (bd_eq hc (in_eq (by decide) (bd_eq (f_draw V hp hb ht e) ?_)))))
        rw [cG_cG]
      · have hb28 : hbG T = 28 := by
          have := V.hb28
          omega
        obtain ⟨P, t, q, h1, h2, h3, h4, e1, e2, e3⟩ := V.pl hp
        rw [if_neg (fun q => hb q.2)] at hc
        refine ⟨passG T P t q, ?_, (pass_VG V h1 h2 h3 h4 e1 e2 e3).le (by omega)⟩
        refine ck_eq (by decide) (bd_eq f_isPlayed ?_)
        refine in_eq (by rw [show (cG c 1 T).2.2 1 = T from rfl, if_pos hp]; decide) ?_
        refine bd_eq hpl (bd_eq (count_msk _ _) (ip_eq hzz (bd_eq hc (ip_eq rfl (bd_eq (f_pass hn V hp hb28 h1 h2 h3 h4 e1 e2 e3) ?_)))))
        rw [cG_cG]
        rfl
    · have hnz : ¬ (nI (cntH (rsn T) 0 28)) ≤ 0 := nI_nle (by omega) (by omega)
      have hmod : r % 16 % cntH (rsn T) 0 28 < cntH (rsn T) 0 28 := Nat.mod_lt _ (by omega)
      have hrem : jrem (jrem (nI r) (16 : Int32)) (nI (cntH (rsn T) 0 28)) = nI (r % 16 % cntH (rsn T) 0 28) := by
        rw [r16, jrem_n (by omega) (by omega) (by omega)]
      obtain ⟨t, ht, g1, g3⟩ := f_member hn T hmod
      have key : ∀ lf : Int32, ∃ T', f_X5_simulateTurn_b77 n (nI r) (cG c 1 T) lf (nI t) = some (cG c 1 T') ∧ VG T' (B + 1) := fun lf => by
        obtain ⟨K, f, w, d, a, b, a', b', P, tt, S, k1⟩ := f_lay hn V ht g3 lf
        refine ⟨layF K P tt, ?_, (layF_VG V ht S).le (by omega)⟩
        refine bd_eq k1 ?_
        rw [cG_cG]
      have hodd : jrem (nI r / (16 : Int32)) (2 : Int32) = nI (r / 16 % 2) := by
        rw [d16, jrem_2 hq]
      by_cases ho : nI (r / 16 % 2) = 1
      · obtain ⟨T', k1, k3⟩ := key 1
        refine ⟨T', ?_, k3⟩
        refine ck_eq (by decide) (bd_eq f_isPlayed ?_)
        refine in_eq (by rw [show (cG c 1 T).2.2 1 = T from rfl, if_pos hp]; decide) ?_
        exact bd_eq hpl (bd_eq (count_msk _ _) (in_eq hnz (ck_eq (by decide) (ck_eq (nI_ne0 (by omega) (by omega)) (bd_eq (by rw [hrem]; exact g1) (ck_eq (by decide) (ip_eq (by rw [hodd]; exact ho) k1)))))))
      · obtain ⟨T', k1, k3⟩ := key 0
        refine ⟨T', ?_, k3⟩
        refine ck_eq (by decide) (bd_eq f_isPlayed ?_)
        refine in_eq (by rw [show (cG c 1 T).2.2 1 = T from rfl, if_pos hp]; decide) ?_
        exact bd_eq hpl (bd_eq (count_msk _ _) (in_eq hnz (ck_eq (by decide) (ck_eq (nI_ne0 (by omega) (by omega)) (bd_eq (by rw [hrem]; exact g1) (ck_eq (by decide) (in_eq (by rw [hodd]; exact ho) k1)))))))
  · have hP : (2 : Int32) + jrem (nI r / (16 : Int32)) (3 : Int32) = nI (2 + r / 16 % 3) := by
      rw [d16, jrem_3 hq, alL_2]
    obtain ⟨H, r', h', g1, g2, g3, g4, g5⟩ := f_deal hn V hB (P := 2 + r / 16 % 3) (by omega) (by omega) ((nI r / (16 : Int32)).toInt64)
    refine ⟨H, ?_, g5⟩
    refine ck_eq (by decide) (bd_eq f_isPlayed ?_)
    refine ip_eq (by rw [show (cG c 1 T).2.2 1 = T from rfl, if_neg hp]) (ck_eq (by decide) (bd_eq (by rw [hP]; exact g1) ?_))
    rw [cG_cG]
theorem f_sim {n : Nat} (hn : 250 < n) {c : CS} {B : Nat} (V : VG (c.2.2 0) B) (hB : B < 2 ^ 20) (y : Int64) {m : Nat} (h1 : 1 ≤ m) (h2 : m ≤ 200) : ∃ T v, f_X5_simulate n c y (nI m) = some (0, cG c 1 T, v) := by
  have c1 : ¬ nI m < (1 : Int32) := fun q => by
    have := (gtL_1 (by omega)).mp q
    omega
  have c2 : nI m ≤ (200 : Int32) := (geL_200 (by omega)).mpr h2
  obtain ⟨T, g1, g2⟩ := becomeLike_eq (c.2.2 0) (c.2.2 1)
  have g3 : VG T B := V.eq g2
  unfold f_X5_simulate f_X5_simulate_b12
  obtain ⟨r1, q1, T', v, rfl⟩ := for3 (F := f_X5_simulate_h39 n y (nI m)) m (fun j a1 b1 => ∃ T, a1 = cG c 1 T ∧ VG T (B + j)) (fun r1 => ∃ T v, r1 = (0, cG c 1 T, v)) (by
    rintro K a1 b ⟨T, rfl, V1⟩
    have hle : nI m ≤ nI m := nI_le (Nat.le_refl m) (by omega)
    refine ⟨(0, cG c 1 T, ((10000 : Int32) * (T.1 0 - (c.2.2 0).1 0) + (100 : Int32) * T.2.1 0) + ((28 : Int32) - T.1 7)), ?_, T, _, rfl⟩
    unfold f_X5_simulate_h39
    exact ip_eq hle (bd_eq (v := T.1 0) rfl (bd_eq (v := (c.2.2 0).1 0) rfl (bd_eq (v := ()) rfl (bd_eq (v := T.2.1 0) rfl (bd_eq (v := (28 : Int32) - T.1 7) rfl rfl)))))) (by
    rintro K a1 b j hj ⟨T, rfl, V1⟩
    left
    have hle : ¬ nI m ≤ nI j := fun q => by
      have := (nI_leI (by omega) (by omega)).mp q
      omega
    have hix := ix_ok (lcg b)
    obtain ⟨T', k1, k3⟩ := f_turn (n := n) (by omega) V1 (by omega) c hix.2
    refine ⟨cG c 1 T', lcg b, ?_, T', rfl, k3⟩
    unfold f_X5_simulate_h39 stt
    have h6 : b * (6364136223846793005 : Int64) + (1442695040888963407 : Int64) = lcg b := rfl
    rw [h6]
    generalize lcg b = b' at *
    refine in_eq hle (bd_eq (v := cG c 1 T') (by rw [hix.1]; exact k1) ?_)
    rw [nI_1]) n 0 (cG c 1 T) y (by omega) (by omega) ⟨T, rfl, g3⟩
  exact ⟨T', v, in_eq c1 (ip_eq c2 (ck_eq (by decide) (bd_eq g1 q1)))⟩
