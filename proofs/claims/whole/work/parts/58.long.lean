/-! PURE LEVEL: the commands of four letters -/
theorem fe_stop {n : Nat} {T : TS} {L b i : Nat} (hT : T.1 = nI L) (hL : L ≤ 120) (hb : b < i) (hi : i ≤ L) (h : i = L ∨ f_X4_isAllowed T (nI b) (nI i) = some 0) (m : Nat) : lo2 (f_X4_firstError_h16 n T) (m + 1) (nI b) (nI i) = some (nI i) := by
  by_cases e : i = L
  · subst e
    exact fe_L hT hL hb m
  · exact fe_bad hT hL (by omega) (h.resolve_left e) m
theorem fe_e1 {n : Nat} {T : TS} {L b c : Nat} (hT : T.1 = nI L) (hL : L ≤ 120) (hb : b < L) (hc : c < 256) (e : T.2 b = nI c) (h4 : lenC c = 4) (h1 : b + 1 = L ∨ f_X4_isAllowed T (nI b) (nI (b + 1)) = some 0) (m : Nat) : lo2 (f_X4_firstError_h16 n T) (m + 5) (nI b) (nI b) = some (nI (b + 1)) := by
  have ha := al_bb hT hL hb hc e
  rw [if_neg (by omega)] at ha
  rw [fe_go hT hL (Nat.le_refl b) hb hc e ha (m + 4), if_neg (by omega)]
  exact fe_stop hT hL (by omega) (by omega) h1 (m + 3)
theorem fe_e2 {n : Nat} {T : TS} {L b c : Nat} (hT : T.1 = nI L) (hL : L ≤ 120) (hb : b + 1 < L) (hc : c < 256) (e : T.2 b = nI c) (h4 : lenC c = 4) (h1 : f_X4_isAllowed T (nI b) (nI (b + 1)) = some 1) (h2 : b + 2 = L ∨ f_X4_isAllowed T (nI b) (nI (b + 2)) = some 0) (m : Nat) : lo2 (f_X4_firstError_h16 n T) (m + 5) (nI b) (nI b) = some (nI (b + 2)) := by
  have ha := al_bb hT hL (b := b) (by omega) hc e
  rw [if_neg (by omega)] at ha
  rw [fe_go hT hL (Nat.le_refl b) (by omega) hc e ha (m + 4), if_neg (by omega), fe_go hT hL (by omega) hb hc e h1 (m + 3), if_neg (by omega)]
  exact fe_stop hT hL (by omega) (by omega) h2 (m + 2)
theorem fe_e3 {n : Nat} {T : TS} {L b c : Nat} (hT : T.1 = nI L) (hL : L ≤ 120) (hb : b + 2 < L) (hc : c < 256) (e : T.2 b = nI c) (h4 : lenC c = 4) (h1 : f_X4_isAllowed T (nI b) (nI (b + 1)) = some 1) (h2 : f_X4_isAllowed T (nI b) (nI (b + 2)) = some 1) (h3 : b + 3 = L ∨ f_X4_isAllowed T (nI b) (nI (b + 3)) = some 0) (m : Nat) : lo2 (f_X4_firstError_h16 n T) (m + 5) (nI b) (nI b) = some (nI (b + 3)) := by
  have ha := al_bb hT hL (b := b) (by omega) hc e
  rw [if_neg (by omega)] at ha
  rw [fe_go hT hL (Nat.le_refl b) (by omega) hc e ha (m + 4), if_neg (by omega), fe_go hT hL (by omega) (by omega) hc e h1 (m + 3), if_neg (by omega), fe_go hT hL (by omega) (by omega) hc e h2 (m + 2), if_neg (by omega)]
  exact fe_stop hT hL (by omega) (by omega) h3 (m + 1)
theorem fe_ok {n : Nat} {T : TS} {L b c : Nat} (hT : T.1 = nI L) (hL : L ≤ 120) (hb : b + 3 < L) (hc : c < 256) (e : T.2 b = nI c) (h4 : lenC c = 4) (h1 : f_X4_isAllowed T (nI b) (nI (b + 1)) = some 1) (h2 : f_X4_isAllowed T (nI b) (nI (b + 2)) = some 1) (h3 : f_X4_isAllowed T (nI b) (nI (b + 3)) = some 1) (m : Nat) : lo2 (f_X4_firstError_h16 n T) (m + 4) (nI b) (nI b) = lo2 (f_X4_firstError_h16 n T) m (nI (b + 4)) (nI (b + 4)) := by
  have ha := al_bb hT hL (b := b) (by omega) hc e
  rw [if_neg (by omega)] at ha
  rw [fe_go hT hL (Nat.le_refl b) (by omega) hc e ha (m + 3), if_neg (by omega), fe_go hT hL (by omega) (by omega) hc e h1 (m + 2), if_neg (by omega), fe_go hT hL (by omega) (by omega) hc e h2 (m + 1), if_neg (by omega), fe_go hT hL (by omega) (by omega) hc e h3 m, if_pos (by omega)]
theorem dc_ok {n : Nat} {c0 c1 : CS} {L b c : Nat} {v : Int32} (hT : c0.2.1.1 = nI L) (hL : L ≤ 120) (hb : b + 3 < L) (hc : c < 256) (e : c0.2.1.2 b = nI c) (h4 : lenC c = 4) (hdo : f_X5_doCommandAt n c0 (nI b) = some (c1, v)) (o : Int32) (m : Nat) : lo4 (f_X5_doCommandsOfText_h6 n) (m + 4) c0 o (nI b) (nI b) = lo4 (f_X5_doCommandsOfText_h6 n) m c1 (if v = 0 then o + 1 else o) (nI (b + 4)) (nI (b + 4)) := by
  rw [dc_go hT hL (Nat.le_refl b) (by omega) hc e (by omega) o (m + 3), dc_go hT hL (by omega) (by omega) hc e (by omega) o (m + 2), dc_go hT hL (by omega) (by omega) hc e (by omega) o (m + 1), dc_end hT hL (by omega) hb hc e (by omega) hdo o m]
theorem al_d1 {T : TS} {L b : Nat} {v : Int32} (hT : T.1 = nI L) (hL : L ≤ 120) (hb : b + 1 < L) (e : T.2 b = nI 100) (hv : v = 0 ∨ v = 1) (h : f_X4_isDigit T (nI (b + 1)) (nI 2) (nI 4) = some v) : f_X4_isAllowed T (nI b) (nI (b + 1)) = some v := by
  unfold f_X4_isAllowed
  refine in_eq (fun q => ?_) (bd_eq (f_sign hT hL (i := b) (by omega)) (ip_eq (by rw [e]; rfl) (ip_eq (by rw [nI_1]) (bd_eq h (ck_eq hv rfl)))))
  have := nI_inj (by omega) (by omega) q
  omega
theorem al_d2 {T : TS} {L b i : Nat} {v : Int32} (hT : T.1 = nI L) (hL : L ≤ 120) (hb : b + 1 < i) (hi : i < L) (e : T.2 b = nI 100) (hv : v = 0 ∨ v = 1) (h : f_X4_isDigit T (nI i) (nI 0) (nI 9) = some v) : f_X4_isAllowed T (nI b) (nI i) = some v := by
  unfold f_X4_isAllowed
  refine in_eq (fun q => ?_) (bd_eq (f_sign hT hL (i := b) (by omega)) (ip_eq (by rw [e]; rfl) (in_eq (fun q => ?_) (bd_eq h (ck_eq hv rfl)))))
  · have := nI_inj (by omega) (by omega) q
    omega
  · rw [nI_1] at q
    have := nI_inj (by omega) (by omega) q
    omega
theorem al_p1 {T : TS} {L b : Nat} {v : Int32} (hT : T.1 = nI L) (hL : L ≤ 120) (hb : b + 1 < L) (e : T.2 b = nI 112) (hv : v = 0 ∨ v = 1) (h : f_X4_isDigit T (nI (b + 1)) (nI 0) (nI 2) = some v) : f_X4_isAllowed T (nI b) (nI (b + 1)) = some v := by
  unfold f_X4_isAllowed
  refine in_eq (fun q => ?_) (bd_eq (f_sign hT hL (i := b) (by omega)) (in_eq (by rw [e]; decide) (ip_eq (by rw [nI_1]) (bd_eq h (ck_eq hv rfl)))))
  have := nI_inj (by omega) (by omega) q
  omega
theorem al_p2 {T : TS} {L b w : Nat} {v : Int32} (hT : T.1 = nI L) (hL : L ≤ 120) (hb : b + 2 < L) (e : T.2 b = nI 112) (e1 : T.2 (b + 1) = nI (48 + w)) (hw : w ≤ 9) (hv : v = 0 ∨ v = 1) (h : f_X4_isDigit T (nI (b + 2)) (nI 0) (nI (if w = 2 then 7 else 9)) = some v) : f_X4_isAllowed T (nI b) (nI (b + 2)) = some v := by
  have s1 : f_X4_signAt T (nI b + (1 : Int32)) = some (nI (48 + w)) := by
    rw [nI_1, f_sign hT hL (i := b + 1) (by omega), e1]
  unfold f_X4_isAllowed f_X4_isAllowed_b102
  refine in_eq (fun q => ?_) (bd_eq (f_sign hT hL (i := b) (by omega)) (in_eq (by rw [e]; decide) (in_eq (fun q => ?_) (ip_eq (adL_2 (j := b)).symm (bd_eq s1 ?_)))))
  · have := nI_inj (by omega) (by omega) q
    omega
  · rw [nI_1] at q
    have := nI_inj (by omega) (by omega) q
    omega
  · by_cases h2 : w = 2
    · rw [if_pos h2] at h
      refine ip_eq (by rw [h2]; rfl) (bd_eq h (ck_eq hv rfl))
    · rw [if_neg h2] at h
      refine in_eq (fun q => ?_) (bd_eq h (ck_eq hv rfl))
      have := nI_inj (a := 48 + w) (b := 50) (by omega) (by omega) q
      omega
theorem al_p3 {T : TS} {L b : Nat} (hT : T.1 = nI L) (hL : L ≤ 120) (hb : b + 3 < L) (e : T.2 b = nI 112) : f_X4_isAllowed T (nI b) (nI (b + 3)) = some (if T.2 (b + 3) = nI 114 ∨ T.2 (b + 3) = nI 108 then 1 else 0) := by
  have s3 := f_sign hT hL (i := b + 3) (by omega)
  unfold f_X4_isAllowed f_X4_isAllowed_b126
  refine in_eq (fun q => ?_) (bd_eq (f_sign hT hL (i := b) (by omega)) (in_eq (by rw [e]; decide) (in_eq (fun q => ?_) (in_eq (fun q => ?_) (bd_eq s3 ?_)))))
  · have := nI_inj (by omega) (by omega) q
    omega
  · rw [nI_1] at q
    have := nI_inj (by omega) (by omega) q
    omega
  · rw [adL_2] at q
    have := nI_inj (by omega) (by omega) q
    omega
  · by_cases h1 : T.2 (b + 3) = nI 114
    · refine ip_eq h1 ?_
      rw [if_pos (Or.inl h1)]
    · refine in_eq h1 (bd_eq s3 ?_)
      by_cases h2 : T.2 (b + 3) = nI 108
      · refine ip_eq h2 ?_
        rw [if_pos (Or.inr h2)]
      · refine in_eq h2 ?_
        rw [if_neg (fun q => q.elim h1 h2)]
theorem f_number {T : TS} {L i v w : Nat} (hT : T.1 = nI L) (hL : L ≤ 120) (h1 : dG L T.2 i v) (h2 : dG L T.2 (i + 1) w) : f_X4_numberAt T (nI i) = some (nI (10 * v + w)) := by
  have d1 := f_digit hT hL h1.1
  have d2 := f_digit hT hL h2.1
  rw [dig_sub h1] at d1
  rw [dig_sub h2] at d2
  unfold f_X4_numberAt
  refine bd_eq d1 (bd_eq (by rw [nI_1]; exact d2) ?_)
  rw [muL_10, nI_add]
theorem step_d {n1 n2 L b : Nat} (hn1 : 28 < n1) (hn2 : 28 < n2) {T : TS} {M0 : MS} {G : GS} {B : Nat} (V : VG G B) (hB : B < 2 ^ 20) {s : Nat → Int32} (R : RG G s) (o : Int32) (r : Nat → Int32) (X : tX L T.2 M0) (hT : T.1 = nI L) (hb : b < L) (e : T.2 b = nI 100) : stepT n1 n2 L b T M0 G B o r s := by
  have hL := X.l
  have hs := rc_sign X hb o r s
  rw [e] at hs
  have hsg : ∀ c0 : CS, c0.2.1 = T → f_X4_signAt c0.2.1 (nI b) = some (nI 100) := fun c0 q => by
    rw [q, f_sign hT hL hb, e]
  have hmd : ∀ z, ((f_X6_figures n2 (TX M0 o (nI (b + 1)) r s) (0 : Int32) (1 : Int32) (2 : Int32) (4 : Int32)).bind (fun q77 => (f_X6_figures n2 q77.1 q77.2 (2 : Int32) (0 : Int32) (99 : Int32)).bind (fun q87 => if q87.2 = (-1 : Int32) then (some (q87.1, (0 : Int32))) else ((f_X6_dealOn n2 2 q87.1 q77.2 q87.2.toInt64).bind (fun q105 => if q105.2 ≤ 0 then (f_X6_readCommand_b116 n2 q105.1 (0 : Int32)) else (f_X6_readCommand_b116 n2 q105.1 (1 : Int32))))))) = z → f_X6_readCommand n2 (TX M0 o (nI b) r s) = z := fun z hz => by
    unfold f_X6_readCommand
    refine ck_eq (rc_in X hb o r s) (in_eq (by rw [hs]; decide) (ip_eq (by rw [hs]; rfl) ?_))
    rw [TX_a3, nI_1, TX_3]
    exact hz
  have err : ∀ e9 : Nat, e9 < 200 → ∀ a, f_X6_figures n2 (TX M0 o (nI (b + 1)) r s) 0 1 2 4 = some a → f_X6_figures n2 a.1 a.2 2 0 99 = some (TX M0 o (nI e9) r s, -1) → (∀ m, lo2 (f_X4_firstError_h16 n1 T) (m + 5) (nI b) (nI b) = some (nI e9)) → stepT n1 n2 L b T M0 G B o r s := fun e9 h9 a q1 q2 q3 => by
    refine Or.inl ⟨e9, r, s, h9, hmd _ (bd_eq q1 (bd_eq q2 (ip_eq rfl rfl))), q3⟩
  obtain ⟨fa, fb⟩ := fig_1 hn2 X (p := b + 1) o r s
  rcases dig_or X (p := b + 1) (by omega) with ⟨v, hv⟩ | hnd
  · by_cases hv4 : 2 ≤ v ∧ v ≤ 4
    · have a1 : f_X4_isAllowed T (nI b) (nI (b + 1)) = some 1 := al_d1 hT hL hv.1 e (Or.inr rfl) (by rw [f_isd hT hL hv (by omega) (by omega), if_pos hv4])
      have f1 := fb v hv
      rw [if_pos hv4] at f1
      obtain ⟨ga, gb, gc, gd⟩ := fig_2 hn2 X (p := b + 1 + 1) (h := 99) o r s (a := nI v) (nI_ne_m1 (by omega)) (by omega)
      have hlt := hv.1
      rcases dig_or X (p := b + 1 + 1) (by omega) with ⟨x, hx⟩ | hnd
      · have a2 : f_X4_isAllowed T (nI b) (nI (b + 2)) = some 1 := al_d2 hT hL (by omega) hx.1 e (Or.inr rfl) (by rw [f_isd hT hL hx (by omega) (by omega), if_pos ⟨by omega, hx.2.1⟩])
        have hlt2 := hx.1
        have hx9 := hx.2.1
        rcases dig_or X (p := b + 1 + 1 + 1) (by omega) with ⟨y, hy⟩ | hnd
        · have a3 : f_X4_isAllowed T (nI b) (nI (b + 3)) = some 1 := al_d2 hT hL (by omega) hy.1 e (Or.inr rfl) (by rw [f_isd hT hL hy (by omega) (by omega), if_pos ⟨by omega, hy.2.1⟩])
          have hlt3 := hy.1
          have hy9 := hy.2.1
          have f2 := gd x y hx (by omega) hy
          rw [if_pos (by omega)] at f2
          obtain ⟨H, s', r', g1, g2, g3, g4, g5⟩ := deal_both hn1 hn2 V (by omega) (j := 2) (by omega) (M := TX M0 o (nI (b + 1 + 1 + 2)) r s) R hv4.1 hv4.2 ((nI (10 * x + y)).toInt64)
          obtain ⟨rr, k1, k2⟩ := V.rd
          refine Or.inr ⟨4, o, r', s', H, by omega, by omega, by omega, ?_, fun m => fe_ok hT hL (by omega) (by omega) e (by decide) a1 a2 a3 m, fun c0 q1 q2 m => ?_, g3, g4⟩
          · refine hmd _ (bd_eq f1 (bd_eq f2 (in_eq (nI_ne_m1 (by omega)) (bd_eq g2 (in_eq ?_ ?_)))))
            · show ¬ H.1 0 ≤ 0
              rw [g5, k1, nI_1]
              exact nI_nle (by omega) (by omega)
            · unfold f_X6_readCommand_b116
              rw [TX_62]
              exact bd_eq (m_done M0 o _ r' s' 1) (in_eq (show ¬ (1 : Int32) = 0 by decide) rfl)
          · have hT' : c0.2.1.1 = nI L := by rw [q1]; exact hT
            refine (dc_ok (c := 100) (v := 1) (c1 := cG c0 0 H) hT' hL (by omega) (by omega) (by rw [q1]; exact e) (by decide) ?_ o m).trans rfl
            unfold f_X5_doCommandAt
            refine bd_eq (hsg c0 q1) (ip_eq rfl (bd_eq (v := nI v) ?_ (bd_eq (v := nI (10 * x + y)) ?_ (bd_eq (v := (H, 1)) (by rw [q2]; exact g1) (ck_eq (Or.inr rfl) rfl)))))
            · rw [q1, nI_1, f_digit hT hL hv.1, dig_sub hv]
            · rw [q1, adL_2]
              exact f_number hT hL hx hy
        · refine err (b + 3) (by omega) _ f1 (gc x hx (by omega) hnd) (fun m => fe_e3 hT hL (by omega) (by omega) e (by decide) a1 a2 ?_ m)
          by_cases hq : b + 3 = L
          · exact Or.inl hq
          · exact Or.inr (al_d2 hT hL (by omega) (by omega) e (Or.inl rfl) (f_isd_n hT hL (by omega) hnd (by omega) (by omega)))
      · refine err (b + 2) (by omega) _ f1 (ga hnd) (fun m => fe_e2 hT hL hlt (by omega) e (by decide) a1 ?_ m)
        by_cases hq : b + 2 = L
        · exact Or.inl hq
        · exact Or.inr (al_d2 hT hL (by omega) (by omega) e (Or.inl rfl) (f_isd_n hT hL (by omega) hnd (by omega) (by omega)))
    · have f1 := fb v hv
      rw [if_neg hv4] at f1
      refine err (b + 1) (by omega) _ f1 (fig_m1 hn2 _ _ _) (fun m => fe_e1 hT hL hb (by omega) e (by decide) (Or.inr (al_d1 hT hL hv.1 e (Or.inl rfl) ?_)) m)
      rw [f_isd hT hL hv (by omega) (by omega), if_neg hv4]
  · refine err (b + 1) (by omega) _ (fa hnd) (fig_m1 hn2 _ _ _) (fun m => fe_e1 hT hL hb (by omega) e (by decide) ?_ m)
    by_cases hq : b + 1 = L
    · exact Or.inl hq
    · exact Or.inr (al_d1 hT hL (by omega) e (Or.inl rfl) (f_isd_n hT hL (by omega) hnd (by omega) (by omega)))
theorem step_p {n1 n2 L b : Nat} (hn1 : 28 < n1) (hn2 : 28 < n2) {T : TS} {M0 : MS} {G : GS} {B : Nat} (V : VG G B) {s : Nat → Int32} (R : RG G s) (o : Int32) (r : Nat → Int32) (X : tX L T.2 M0) (hT : T.1 = nI L) (hb : b < L) (e : T.2 b = nI 112) : stepT n1 n2 L b T M0 G B o r s := by
  have hL := X.l
  have hs := rc_sign X hb o r s
  rw [e] at hs
  have hsg : ∀ c0 : CS, c0.2.1 = T → f_X4_signAt c0.2.1 (nI b) = some (nI 112) := fun c0 q => by
    rw [q, f_sign hT hL hb, e]
  have hmd : ∀ z : MS × Int32, (z.2 = 0 ∨ z.2 = 1) → f_X6_readTile n2 (TX M0 o (nI (b + 1)) r s) = some z → f_X6_readCommand n2 (TX M0 o (nI b) r s) = some z := fun z h1 hz => by
    unfold f_X6_readCommand
    refine ck_eq (rc_in X hb o r s) (in_eq (by rw [hs]; decide) (in_eq (by rw [hs]; decide) (ip_eq (by rw [hs]; rfl) ?_)))
    rw [TX_a3, nI_1, TX_3]
    exact bd_eq hz (ck_eq h1 rfl)
  have err : ∀ e9 : Nat, e9 < 200 → f_X6_readTile n2 (TX M0 o (nI (b + 1)) r s) = some (TX M0 o (nI e9) r s, 0) → (∀ m, lo2 (f_X4_firstError_h16 n1 T) (m + 5) (nI b) (nI b) = some (nI e9)) → stepT n1 n2 L b T M0 G B o r s := fun e9 h9 q1 q2 => by
    exact Or.inl ⟨e9, r, s, h9, hmd _ (Or.inl rfl) q1, q2⟩
  have errF : ∀ e9 : Nat, e9 < 200 → f_X6_figures n2 (TX M0 o (nI (b + 1)) r s) 0 2 0 27 = some (TX M0 o (nI e9) r s, -1) → (∀ m, lo2 (f_X4_firstError_h16 n1 T) (m + 5) (nI b) (nI b) = some (nI e9)) → stepT n1 n2 L b T M0 G B o r s := fun e9 h9 q1 q2 => by
    refine err e9 h9 ?_ q2
    unfold f_X6_readTile
    exact bd_eq q1 (ip_eq rfl rfl)
  obtain ⟨ga, gb, gc, gd⟩ := fig_2 hn2 X (p := b + 1) (h := 27) o r s (a := 0) (by decide) (by omega)
  rcases dig_or X (p := b + 1) (by omega) with ⟨v, hv⟩ | hnd
  · have hlt := hv.1
    have hv9 := hv.2.1
    by_cases hv2 : v ≤ 2
    · have a1 : f_X4_isAllowed T (nI b) (nI (b + 1)) = some 1 := al_p1 hT hL hv.1 e (Or.inr rfl) (by rw [f_isd hT hL hv (by omega) (by omega), if_pos ⟨by omega, hv2⟩])
      rcases dig_or X (p := b + 1 + 1) (by omega) with ⟨w, hw⟩ | hnd
      · have hlt2 := hw.1
        have hw9 := hw.2.1
        have f2 := gd v w hv (by omega) hw
        by_cases htt : 10 * v + w ≤ 27
        · rw [if_pos htt] at f2
          have a2 : f_X4_isAllowed T (nI b) (nI (b + 2)) = some 1 := al_p2 hT hL hw.1 e hv.2.2 hv9 (Or.inr rfl) (by
            rw [f_isd hT hL hw (by omega) (by split <;> omega), if_pos]
            refine ⟨by omega, ?_⟩
            split <;> omega)
          by_cases hq : b + 3 = L
          · refine err (b + 3) (by omega) ?_ (fun m => fe_e3 hT hL (by omega) (by omega) e (by decide) a1 a2 (Or.inl hq) m)
            unfold f_X6_readTile
            refine bd_eq f2 (in_eq (nI_ne_m1 (by omega)) (ip_eq ?_ rfl))
            show nI (b + 1 + 2) = M0.1 1
            rw [X.m1, ← hq]
          · have hlt3 : b + 3 < L := by omega
            have hne : ¬ (TX M0 o (nI (b + 1 + 2)) r s).1 3 = (TX M0 o (nI (b + 1 + 2)) r s).1 1 := fun z => by
              have z' : nI (b + 1 + 2) = M0.1 1 := z
              rw [X.m1] at z'
              have := nI_inj (by omega) (by omega) z'
              omega
            have hs3 := rc_sign X (b := b + 1 + 2) (by omega) o r s
            have hin3 := rc_in X (b := b + 1 + 2) (by omega) o r s
            have a3 := al_p3 hT hL hlt3 e
            by_cases hrl : T.2 (b + 3) = nI 114 ∨ T.2 (b + 3) = nI 108
            · rw [if_pos hrl] at a3
              have hb56 : ∀ z, f_X6_readTile_b56 n2 (TX M0 o (nI (b + 1 + 2)) r s) (nI (10 * v + w)) = z → f_X6_readTile n2 (TX M0 o (nI (b + 1)) r s) = z := fun z hz => by
                unfold f_X6_readTile
                refine bd_eq f2 (in_eq (nI_ne_m1 (by omega)) (in_eq hne (ck_eq hin3 ?_)))
                rcases hrl with h9 | h9
                · exact ip_eq (by rw [hs3]; exact h9) hz
                · exact in_eq (by rw [hs3, show b + 1 + 2 = b + 3 by omega, h9]; decide) (ck_eq hin3 (ip_eq (by rw [hs3]; exact h9) hz))
              have hlf : ∃ lf : Int32, (∀ z, f_X6_readTile_b75 n2 (TX M0 o (nI (b + 1 + 2)) r s) (nI (10 * v + w)) lf = z → f_X6_readTile_b56 n2 (TX M0 o (nI (b + 1 + 2)) r s) (nI (10 * v + w)) = z) ∧ (∀ (c0 : CS) z, c0.2.1 = T → f_X5_doCommandAt_b115 n1 (nI b) c0 lf (nI (10 * v + w)) = z → f_X5_doCommandAt n1 c0 (nI b) = z) := by
                have hcl : ∀ (c0 : CS) (z : Option (CS × Int32)), c0.2.1 = T → (if T.2 (b + 3) = (108 : Int32) then f_X5_doCommandAt_b115 n1 (nI b) c0 1 (nI (10 * v + w)) else f_X5_doCommandAt_b115 n1 (nI b) c0 0 (nI (10 * v + w))) = z → f_X5_doCommandAt n1 c0 (nI b) = z := fun c0 z q hz => by
                  unfold f_X5_doCommandAt
                  refine bd_eq (hsg c0 q) (in_eq (by decide) (ip_eq rfl (bd_eq (v := nI (10 * v + w)) ?_ (bd_eq (v := T.2 (b + 3)) ?_ hz))))
                  · rw [q, nI_1]
                    exact f_number hT hL hv hw
                  · rw [q, adL_3]
                    exact f_sign hT hL hlt3
                by_cases h9 : T.2 (b + 3) = nI 108
                · refine ⟨1, fun z hz => ?_, fun c0 z q hz => hcl c0 z q (ip_eq h9 hz)⟩
                  unfold f_X6_readTile_b56
                  exact ck_eq hin3 (ip_eq (by rw [hs3]; exact h9) hz)
                · refine ⟨0, fun z hz => ?_, fun c0 z q hz => hcl c0 z q (in_eq h9 hz)⟩
                  unfold f_X6_readTile_b56
                  exact ck_eq hin3 (in_eq (by rw [hs3]; exact h9) hz)
              obtain ⟨lf, hl1, hl2⟩ := hlf
              have hr1 : (TX M0 o (nI (b + 1 + 2 + 1)) r s).2 2 (1 : Int32).toNatClampNeg = G.1 3 := by
                rw [tnL_1]
                exact R.r1
              have hE : mS (TX M0 o (nI (b + 1 + 2)) r s) 3 ((TX M0 o (nI (b + 1 + 2)) r s).1 3 + 1) = TX M0 o (nI (b + 1 + 2 + 1)) r s := by
                rw [TX_a3, nI_1, TX_3]
              by_cases h0 : G.1 3 = 1 ∧ rs n2 s (10 * v + w) = 0
              · obtain ⟨H, s', k1, k2, k3, k4, k5⟩ := lay_both hn1 hn2 V R h0.1 (t := 10 * v + w) (by omega) h0.2 lf
                obtain ⟨z1, z2, z3, z4⟩ := reason_rs hn2 V R (t := 10 * v + w) (by omega)
                rw [h0.2] at z1
                refine Or.inr ⟨4, o, r, s', H, by omega, by omega, by omega, hmd _ (Or.inr rfl) (hb56 _ (hl1 _ ?_)), fun m => fe_ok hT hL (by omega) (by omega) e (by decide) a1 a2 a3 m, fun c0 q1 q2 m => ?_, k3.le (by omega), k4⟩
                · unfold f_X6_readTile_b75 f_X6_readTile_b116
                  rw [hE]
                  refine ck_eq (by decide) (ip_eq (by rw [hr1]; exact h0.1) (bd_eq z1 (ip_eq rfl (bd_eq (v := (s', 0)) ?_ (ip_eq rfl ?_)))))
                  · unfold f_X6_playOn
                    exact bd_eq z1 (ip_eq rfl (bd_eq k2 rfl))
                  · rw [TX_2]
                    exact bd_eq (m_done M0 o _ r s' 1) (ck_eq (Or.inr rfl) rfl)
                · have hT' : c0.2.1.1 = nI L := by rw [q1]; exact hT
                  refine (dc_ok (c := 112) (v := 1) (c1 := cG c0 0 H) hT' hL (by omega) (by omega) (by rw [q1]; exact e) (by decide) (hl2 c0 _ q1 ?_) o m).trans rfl
                  unfold f_X5_doCommandAt_b115
                  exact bd_eq (v := (H, 1)) (by rw [q2]; exact k1) (ck_eq (Or.inr rfl) rfl)
              · refine Or.inr ⟨4, o + 1, r, s, G, by omega, by omega, by omega, hmd _ (Or.inr rfl) (hb56 _ (hl1 _ ?_)), fun m => fe_ok hT hL (by omega) (by omega) e (by decide) a1 a2 a3 m, fun c0 q1 q2 m => ?_, V.le (by omega), R⟩
                · obtain ⟨z1, z2, z3, z4⟩ := reason_rs hn2 V R (t := 10 * v + w) (by omega)
                  have hd0 : f_X6_readTile_b115 n2 (TX M0 o (nI (b + 1 + 2 + 1)) r s) = some (TX M0 (o + 1) (nI (b + 1 + 2 + 1)) r s, 1) := by
                    unfold f_X6_readTile_b115 f_X6_readTile_b116
                    exact bd_eq (m_done M0 o _ r s 0) (ck_eq (Or.inr rfl) rfl)
                  unfold f_X6_readTile_b75
                  rw [hE]
                  refine ck_eq (by decide) ?_
                  by_cases hp : G.1 3 = 1
                  · exact ip_eq (by rw [hr1]; exact hp) (bd_eq z1 (in_eq (fun z => h0 ⟨hp, z⟩) hd0))
                  · exact in_eq (by rw [hr1]; exact hp) hd0
                · have hT' : c0.2.1.1 = nI L := by rw [q1]; exact hT
                  refine (dc_ok (c := 112) (v := 0) (c1 := cG c0 0 G) hT' hL (by omega) (by omega) (by rw [q1]; exact e) (by decide) (hl2 c0 _ q1 ?_) o m).trans rfl
                  unfold f_X5_doCommandAt_b115
                  exact bd_eq (v := (G, 0)) (by rw [q2]; exact lay_none hn2 V R (by omega) h0 lf) (ck_eq (Or.inl rfl) rfl)
            · rw [if_neg hrl] at a3
              refine err (b + 3) (by omega) ?_ (fun m => fe_e3 hT hL (by omega) (by omega) e (by decide) a1 a2 (Or.inr a3) m)
              unfold f_X6_readTile
              exact bd_eq f2 (in_eq (nI_ne_m1 (by omega)) (in_eq hne (ck_eq hin3 (in_eq (by rw [hs3]; exact fun z => hrl (Or.inl z)) (ck_eq hin3 (in_eq (by rw [hs3]; exact fun z => hrl (Or.inr z)) rfl))))))
        · rw [if_neg htt] at f2
          refine errF (b + 2) (by omega) f2 (fun m => fe_e2 hT hL hlt (by omega) e (by decide) a1 (Or.inr (al_p2 hT hL hw.1 e hv.2.2 hv9 (Or.inl rfl) ?_)) m)
          rw [f_isd hT hL hw (by omega) (by split <;> omega), if_neg]
          rintro ⟨_, z⟩
          split at z <;> omega
      · refine errF (b + 2) (by omega) (gc v hv (by omega) hnd) (fun m => fe_e2 hT hL hlt (by omega) e (by decide) a1 ?_ m)
        by_cases hq : b + 2 = L
        · exact Or.inl hq
        · exact Or.inr (al_p2 hT hL (by omega) e hv.2.2 hv9 (Or.inl rfl) (f_isd_n hT hL (by omega) hnd (by omega) (by split <;> omega)))
    · refine errF (b + 1) (by omega) (gb v hv (by omega)) (fun m => fe_e1 hT hL hb (by omega) e (by decide) (Or.inr (al_p1 hT hL hv.1 e (Or.inl rfl) ?_)) m)
      rw [f_isd hT hL hv (by omega) (by omega), if_neg (by omega)]
  · refine errF (b + 1) (by omega) (ga hnd) (fun m => fe_e1 hT hL hb (by omega) e (by decide) ?_ m)
    by_cases hq : b + 1 = L
    · exact Or.inl hq
    · exact Or.inr (al_p1 hT hL (by omega) e (Or.inl rfl) (f_isd_n hT hL (by omega) hnd (by omega) (by omega)))
theorem step_any {n1 n2 L b : Nat} (hn1 : 28 < n1) (hn2 : 28 < n2) {T : TS} {M0 : MS} {G : GS} {B : Nat} (V : VG G B) (hB : B < 2 ^ 20) {s : Nat → Int32} (R : RG G s) (o : Int32) (r : Nat → Int32) (X : tX L T.2 M0) (hT : T.1 = nI L) (hb : b < L) : stepT n1 n2 L b T M0 G B o r s := by
  obtain ⟨c, hc, e⟩ := X.ch b hb
  by_cases h1 : c = 98
  · subst h1; exact step_b hn1 hn2 V R o r X hT hb e
  by_cases h2 : c = 100
  · subst h2; exact step_d hn1 hn2 V hB R o r X hT hb e
  by_cases h3 : c = 112
  · subst h3; exact step_p hn1 hn2 V R o r X hT hb e
  by_cases h4 : c = 115
  · subst h4; exact step_s hn1 hn2 V R o r X hT hb e
  by_cases h5 : c = 119
  · subst h5; exact step_w hn2 V R o r X hT hb e
  refine step_no o r X hT hb hc e ?_
  unfold lenC
  rw [if_neg h1, if_neg h2, if_neg h3, if_neg h4, if_neg h5]
