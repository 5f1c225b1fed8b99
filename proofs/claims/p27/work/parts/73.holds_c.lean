/-! PURE LEVEL: the players, the sums -/
def sC (G : GS) : Nat → Nat
  | 0 => 0
  | p + 1 => sC G p + cntH (G.2.2 1) (nI p) 28
theorem sC_le (G : GS) : ∀ p, sC G p ≤ 28 * p := by
  intro p
  induction p with
  | zero => exact Nat.le_refl 0
  | succ p ih =>
    have := cntH_le (G.2.2 1) (nI p) 28
    simp only [sC]
    omega
def chV (G : GS) (p : Nat) (m : Nat) : Nat := if G.1 3 = 1 then cl m (hnd G (nI p)) (G.2.1 1) else 0
theorem chV_le (G : GS) (p m : Nat) : chV G p m ≤ m ∧ chV G p m ≤ cntH (G.2.2 1) (nI p) 28 := by
  unfold chV
  by_cases hp : G.1 3 = 1
  · rw [if_pos hp, cntH_cB]
    exact ⟨cl_le _ _ _, cl_hand _ _ _⟩
  · rw [if_neg hp]
    exact ⟨Nat.zero_le _, Nat.zero_le _⟩
theorem chV_min (G : GS) (p m : Nat) : chV G p m = min m (chV G p (m + 1)) := by
  unfold chV
  by_cases hp : G.1 3 = 1
  · rw [if_pos hp, if_pos hp]
    exact cl_min _ _ _
  · rw [if_neg hp, if_neg hp]
    simp
theorem chain_ch {n B p m : Nat} {c : CS} {z0 : Int32} (hn : 28 < n) (W : WI B c) (hp : p < 4) (hm : m < 6) : f_L_call n c (12 : Int32) (nI p) (nI (m + 1)) z0 = some (c, nI (chV (c.2.2 0) p (m + 1))) := by
  have := chain_v (n := n) (z0 := z0) hn W hp hm
  rw [this]
  unfold chV
  by_cases h : (c.2.2 0).1 3 = 1
  · rw [if_pos h, if_pos h]
  · rw [if_neg h, if_neg h]
    rfl
/-- who can lay a tile has a chain -/
theorem chain_pos {G : GS} {B p m t : Nat} (V : VG G B) (ht : t < 28) (h0 : rsn G t = 0) (h5 : G.1 5 = nI p) : 1 ≤ chV G p (m + 1) := by
  have h6 := tl ht
  have hr := (f_reason V ht).2
  rw [h0] at hr
  obtain ⟨hp, hh, hf, _⟩ := rsn_0 hr
  unfold chV
  rw [if_pos hp]
  refine cl_pos ht ?_ ?_
  · unfold hnd
    rw [hh, h5]
    exact decide_eq_true rfl
  · unfold fitB
    refine decide_eq_true ?_
    rcases V.en with ⟨g1, g2⟩ | ⟨g1, e, g2, g3⟩
    · exact Or.inl g2
    · rcases hf with q | q | q
      · omega
      · exact Or.inr (Or.inl q.symm)
      · exact Or.inr (Or.inr q.symm)
theorem set_0 {G : GS} : mskH (rsn G) 0 28 = 0 ↔ ∀ t, t < 28 → ¬ rsn G t = 0 := by
  constructor
  · intro h t ht h0
    have h1 := bt_msk (rsn G) 0 28 (by omega) t (by omega)
    rw [h, b_0] at h1
    have := decide_eq_false_iff_not.mp h1.symm
    exact this ⟨ht, h0⟩
  · intro h
    exact msk_none 28 h
theorem best_0 {G : GS} {r : Int32} (h : bestP G 28 r) : r = -1 ↔ mskH (rsn G) 0 28 = 0 := by
  rw [set_0]
  rcases h with ⟨e, h⟩ | ⟨b, hb, _, e, hb0, _⟩
  · exact ⟨fun _ => h, fun _ => e⟩
  · exact ⟨fun q => absurd (e.symm.trans q) (nI_ne_m1 (by omega)), fun q => absurd hb0 (q b hb)⟩
/-- turns at doubles -/
theorem trn_dbl {G : GS} {B : Nat} (V : VG G B) (X : XG G B) : ∀ k, k ≤ szG G → trn G 1 k + trn G 3 k = dB G k := by
  intro k
  induction k with
  | zero => intro _; rfl
  | succ k ih =>
    intro hk
    have h1 := ih (by omega)
    obtain ⟨d, hd4, hd, t1, t2⟩ := X.tu k (by omega)
    have e : trnAt G k = (nxW G k - nI d) &&& 3 := by
      unfold trnAt nxW
      rw [hd]
    obtain ⟨_, _, w3, w4, w5, w6, w7⟩ := dir_rem hd4
    simp only [trn, dB]
    rw [e]
    by_cases hl : lo (tlG G k) = hi (tlG G k)
    · rw [if_pos hl]
      rcases t2 hl with q | q
      · rw [q, ← w6, w3]
        simp
        omega
      · rw [q, ← w7, w4]
        simp
        omega
    · rw [if_neg hl, t1 hl, w5]
      simp
      omega
section HC
variable {n : Nat} {x1 x3 x4 x5 x6 x7 x8 x9 x10 x11 x13 x14 x15 x16 x17 x18 : Int32} {K : CS → Int32 → Int32 → Int32 → Option (CS × Int32)} {c : CS}
theorem hc_913 : f_L_holds_b913 n x1 x3 x4 x5 x6 x7 x8 x9 x10 x11 x13 x14 x15 x16 K c x17 x18 = K c 1 x17 (x18 + 1) := rfl
theorem hc_895 {B p cnt : Nat} (W : WI B c) (hp : p < 4) (hc : cnt = cntH ((c.2.2 0).2.2 1) (nI p) 28) : f_L_holds_b895 n x1 x3 x4 x5 x6 x7 x8 x9 x10 x11 x13 x14 x15 x16 K c x17 (nI p) (nI cnt) = K c 1 x17 (nI (p + 1)) := by
  obtain ⟨P, p1, p2, p3⟩ := W.x.hp
  have a2 := ab_2 (n := n) (z0 := 0) (z1 := 0) W
  rw [p2] at a2
  have e1 : nI p + 1 = nI (p + 1) := nI_1 p
  unfold f_L_holds_b895
  refine bd_eq a2 ?_
  by_cases hlt : p < P
  · refine ip_eq (nI_lt hlt (by omega)) ?_
    rw [hc_913, e1]
  · refine in_eq (nI_nlt (by omega) (by omega)) (ip_eq ?_ ?_)
    · rw [hc, cntH_no 28 (fun t ht q => ?_)]
      · rfl
      · rcases p3 t ht with e | ⟨p', q1, e⟩
        · rw [e] at q
          exact nI_ne_m1' (by omega) q
        · rw [e] at q
          have := nI_inj (by omega) (by omega) q
          omega
    · rw [hc_913, e1]
theorem hc_878 {B p m cnt : Nat} (W : WI B c) (hp : p < 4) (hm : m < 6) (hc : cnt = cntH ((c.2.2 0).2.2 1) (nI p) 28) : f_L_holds_b878 n x1 x3 x4 x5 (if (c.2.2 0).1 3 = 1 then (c.2.2 0).1 5 else -1) x7 x8 x9 (mskH (rsn (c.2.2 0)) 0 28) x11 x13 x14 x15 x16 K c x17 (nI p) (nI cnt) (nI (chV (c.2.2 0) p (m + 1))) = K c 1 x17 (nI (p + 1)) := by
  have h9 := fun (x6 x10 : Int32) => hc_895 (n := n) (x1 := x1) (x3 := x3) (x4 := x4) (x5 := x5) (x6 := x6) (x7 := x7) (x8 := x8) (x9 := x9) (x10 := x10) (x11 := x11) (x13 := x13) (x14 := x14) (x15 := x15) (x16 := x16) (K := K) (x17 := x17) W hp hc
  have hle := chV_le (c.2.2 0) p (m + 1)
  unfold f_L_holds_b878
  by_cases ht : nI p = if (c.2.2 0).1 3 = 1 then (c.2.2 0).1 5 else -1
  · refine ip_eq ht ?_
    by_cases hz : mskH (rsn (c.2.2 0)) 0 28 = 0
    · exact ip_eq hz (h9 _ _)
    · refine in_eq hz (in_eq ?_ (h9 _ _))
      obtain ⟨t, ht28, h0⟩ : ∃ t, t < 28 ∧ rsn (c.2.2 0) t = 0 := by
        by_cases h : ∃ t, t < 28 ∧ rsn (c.2.2 0) t = 0
        · exact h
        · exact absurd (set_0.mpr (fun t ht q => h ⟨t, ht, q⟩)) hz
      have hph := (rsn_0 (by
        have := (f_reason W.g ht28).2
        rwa [h0] at this)).1
      rw [if_pos hph] at ht
      have := chain_pos (m := m) W.g ht28 h0 ht.symm
      exact nI_nle (by omega) (by omega)
  · exact in_eq ht (h9 _ _)
theorem hold_player {B p m : Nat} (hn : 28 < n) (W : WI B c) (hp : p < 4) (hm : m < 6) : f_L_holds_h779 n x1 x3 x4 x5 (if (c.2.2 0).1 3 = 1 then (c.2.2 0).1 5 else -1) x7 x8 x9 (mskH (rsn (c.2.2 0)) 0 28) x11 x13 x14 x15 (nI (m + 1)) K c 1 (nI (sC (c.2.2 0) p)) (nI p) = K c 1 (nI (sC (c.2.2 0) (p + 1))) (nI (p + 1)) := by
  have hle : ¬ (4 : Int32) ≤ nI p := nI_ge (a := p) (b := 4) hp (by omega)
  obtain ⟨c1, c2⟩ := chV_le (c.2.2 0) p (m + 1)
  have hcn := cntH_le ((c.2.2 0).2.2 1) (nI p) 28
  have e17 : nI (sC (c.2.2 0) p) + nI (cntH ((c.2.2 0).2.2 1) (nI p) 28) = nI (sC (c.2.2 0) (p + 1)) := nI_add _ _
  have h878 := hc_878 (n := n) (x1 := x1) (x3 := x3) (x4 := x4) (x5 := x5) (x7 := x7) (x8 := x8) (x9 := x9) (x11 := x11) (x13 := x13) (x14 := x14) (x15 := x15) (x16 := nI (m + 1)) (K := K) (x17 := nI (sC (c.2.2 0) (p + 1))) (m := m) W hp hm rfl
  rw [← e17] at h878 ⊢
  unfold f_L_holds_h779
  refine in_eq hle (in_eq (by decide) (bd_eq (pl_0 hn hp) (bd_eq (chain_ch hn W hp hm) (in_eq (show ¬ nI (chV (c.2.2 0) p (m + 1)) < 0 from nI_pos (by omega)) (in_eq (nI_nlt c1 (by omega)) (in_eq (nI_nlt c2 (by omega)) ?_))))))
  by_cases h1 : m = 0
  · subst h1
    exact ip_eq rfl h878
  · refine in_eq (fun q => h1 ?_) ?_
    · have := nI_inj (a := m + 1) (b := 1) (by omega) (by omega) q
      omega
    · have em : nI (m + 1) - (1 : Int32) = nI m := by rw [suL_1 (by omega), Nat.add_sub_cancel]
      have hch := chain_ch (n := n) (z0 := 0) hn W hp (show m - 1 < 6 by omega)
      rw [show m - 1 + 1 = m by omega] at hch
      have hmin := chV_min (c.2.2 0) p m
      refine bd_eq (v := (c, nI (chV (c.2.2 0) p m))) (by rw [em]; exact hch) ?_
      by_cases hge : m + 1 ≤ chV (c.2.2 0) p (m + 1)
      · refine ip_eq (show nI (m + 1) ≤ nI (chV (c.2.2 0) p (m + 1)) from nI_le hge (by omega)) ?_
        unfold f_L_holds_b875
        refine ip_eq ?_ h878
        rw [em]
        show nI (chV (c.2.2 0) p m) = nI m
        congr 1
        omega
      · refine in_eq (show ¬ nI (m + 1) ≤ nI (chV (c.2.2 0) p (m + 1)) from nI_ge (by omega) (by omega)) ?_
        unfold f_L_holds_b875
        refine ip_eq ?_ h878
        show nI (chV (c.2.2 0) p m) = nI (chV (c.2.2 0) p (m + 1))
        congr 1
        omega
theorem hold_players {B m : Nat} (hn : 28 < n) (W : WI B c) (hm : m < 6) : ∀ d p k, p + d = 4 → d < k →
    lo4 (f_L_holds_h779 n x1 x3 x4 x5 (if (c.2.2 0).1 3 = 1 then (c.2.2 0).1 5 else -1) x7 x8 x9 (mskH (rsn (c.2.2 0)) 0 28) x11 x13 x14 x15 (nI (m + 1))) k c 1 (nI (sC (c.2.2 0) p)) (nI p) = f_L_holds_b926 n x1 c x3 x4 x5 x7 x8 x9 (mskH (rsn (c.2.2 0)) 0 28) x11 1 x13 x14 x15 (nI (sC (c.2.2 0) 4)) := by
  intro d
  induction d with
  | zero =>
    intro p k h1 h2
    obtain ⟨k', rfl⟩ : ∃ j, k = j + 1 := ⟨k - 1, by omega⟩
    have e : p = 4 := by omega
    subst e
    rw [lo4_s]
    exact ip_eq (by decide) rfl
  | succ d ih =>
    intro p k h1 h2
    obtain ⟨k', rfl⟩ : ∃ j, k = j + 1 := ⟨k - 1, by omega⟩
    rw [lo4_s, hold_player hn W (by omega) hm]
    exact ih (p + 1) k' (by omega) (by omega)
/-! the end -/
theorem hc_1096 {B : Nat} (W : WI B c) (hB : B < 2 ^ 20) {s0 s1 : Int32} (h : s1 = s0) : f_L_holds_b1096 n x1 c ((c.2.2 0).1 3) s0 s1 = some (c, 1) := by
  unfold f_L_holds_b1096 f_L_holds_b1142
  refine ip_eq h ?_
  by_cases h2 : (c.2.2 0).1 3 = 2
  · obtain ⟨w0, b0, e0⟩ := W.x.wi 0 (by omega)
    obtain ⟨w1, b1, e1⟩ := W.x.wi 1 (by omega)
    obtain ⟨w2, b2, e2⟩ := W.x.wi 2 (by omega)
    obtain ⟨w3, b3, e3⟩ := W.x.wi 3 (by omega)
    obtain ⟨p, hp, hne⟩ := W.x.wo h2
    have l0 := pl_3 (n := n) (c := c) (p := 0) (z0 := 0) (by omega)
    have l1 := pl_3 (n := n) (c := c) (p := 1) (z0 := 0) (by omega)
    have l2 := pl_3 (n := n) (c := c) (p := 2) (z0 := 0) (by omega)
    have l3 := pl_3 (n := n) (c := c) (p := 3) (z0 := 0) (by omega)
    rw [e0] at l0
    rw [e1] at l1
    rw [e2] at l2
    rw [e3] at l3
    refine ip_eq h2 (bd_eq l0 (bd_eq l1 (bd_eq l2 (bd_eq l3 (in_eq ?_ rfl)))))
    show ¬ ((nI w0 + nI w1) + nI w2) + nI w3 ≤ 0
    rw [nI_add, nI_add, nI_add]
    refine nI_nle ?_ (by omega)
    have hw : ∀ {w : Nat}, nI w ≠ 0 → 0 < w := fun {w} q => by
      rcases Nat.eq_zero_or_pos w with e | e
      · exact absurd (by rw [e]; rfl) q
      · exact e
    have hp' : p = 0 ∨ p = 1 ∨ p = 2 ∨ p = 3 := by omega
    rcases hp' with rfl | rfl | rfl | rfl
    · have := hw (w := w0) (by rw [← e0]; exact hne)
      omega
    · have := hw (w := w1) (by rw [← e1]; exact hne)
      omega
    · have := hw (w := w2) (by rw [← e2]; exact hne)
      omega
    · have := hw (w := w3) (by rw [← e3]; exact hne)
      omega
  · exact in_eq h2 rfl
theorem hc_1086 {B : Nat} (W : WI B c) (hB : B < 2 ^ 20) {s0 : Int32} (h : s0 = if szG (c.2.2 0) = 0 then 1 else 0) : f_L_holds_b1086 n x1 c ((c.2.2 0).1 3) (nI (szG (c.2.2 0))) s0 = some (c, 1) := by
  have h28 := W.g.sz28
  unfold f_L_holds_b1086
  by_cases hz : szG (c.2.2 0) = 0
  · rw [if_pos hz] at h
    exact ip_eq (by rw [hz]; rfl) (hc_1096 W hB h)
  · rw [if_neg hz] at h
    exact in_eq (nI_ne0 (by omega) (by omega)) (hc_1096 W hB h)
theorem hc_1065 {B : Nat} (hn : 28 < n) (W : WI B c) (hB : B < 2 ^ 20) {s0 s1 : Int32} (h : s1 = s0) : f_L_holds_b1065 n x1 c ((c.2.2 0).1 3) (nI (szG (c.2.2 0))) s0 s1 = some (c, 1) := by
  have r0 := re_0 (n := n) (z0 := 0) (z1 := 0) hn W
  unfold f_L_holds_b1065
  by_cases hz : szG (c.2.2 0) = 0
  · rw [if_pos hz] at r0
    exact ip_eq h (bd_eq r0 (ip_eq rfl (hc_1086 W hB (if_pos hz).symm)))
  · rw [if_neg hz] at r0
    have := mnN_lt (f := cX (c.2.2 0)) (g := dX' (c.2.2 0)) (cells_n W.g (k := 0) (by omega)).1.1 (szG (c.2.2 0))
    exact ip_eq h (bd_eq r0 (in_eq (nI_ne_m1 (by omega)) (hc_1086 W hB (if_neg hz).symm)))
theorem hc_1055 {B : Nat} (hn : 28 < n) (W : WI B c) (hB : B < 2 ^ 20) {s0 : Int32} (h : s0 = if mskH (rsn (c.2.2 0)) 0 28 = 0 then 1 else 0) : f_L_holds_b1055 n x1 c ((c.2.2 0).1 3) (nI (szG (c.2.2 0))) (mskH (rsn (c.2.2 0)) 0 28) s0 = some (c, 1) := by
  unfold f_L_holds_b1055
  by_cases hz : mskH (rsn (c.2.2 0)) 0 28 = 0
  · rw [if_pos hz] at h
    exact ip_eq hz (hc_1065 hn W hB h)
  · rw [if_neg hz] at h
    exact in_eq hz (hc_1065 hn W hB h)
end HC
theorem hold_end {n B : Nat} (hn : 28 < n) (hB : B < 2 ^ 20) {c : CS} (W : WI B c) {x1 x11 : Int32} (hb : bestP (c.2.2 0) 28 x11) :
    f_L_holds_b926 n x1 c ((c.2.2 0).1 3) (nI (szG (c.2.2 0))) (nI (28 - hbG (c.2.2 0))) (nI (cB (qH (c.2.2 0)) 28)) (nI (cB (qT (c.2.2 0)) 28)) (nI (cB (qW (c.2.2 0)) 28)) (mskH (rsn (c.2.2 0)) 0 28) x11 1 (nI (pipT (c.2.2 0) (szG (c.2.2 0)))) (eN (c.2.2 0) (szG (c.2.2 0))) (nI (dB (c.2.2 0) (szG (c.2.2 0)))) (nI (sC (c.2.2 0) 4)) = some (c, 1) := by
  have V := W.g
  have X := W.x
  have h28 := V.sz28
  have hb28 := V.hb28
  have eH : nI (cB (qH (c.2.2 0)) 28) = nI (sC (c.2.2 0) 4) := by
    have := sum_hands (h := (c.2.2 0).2.2 1) 28 (by omega) (fun t ht => V.ho t ht)
    have e2 : cB (qH (c.2.2 0)) 28 = cB (fun t => !decide ((c.2.2 0).2.2 1 t = -1)) 28 := rfl
    rw [e2, ← this]
    simp only [sC]
    congr 1
    omega
  have eT : cB (qT (c.2.2 0)) 28 = szG (c.2.2 0) := cB_img (f := tlG (c.2.2 0)) (szG (c.2.2 0)) (fun k hk => (V.ti k hk).1) (fun j k hj hk e => V.td j k hj hk e) _ (fun t _ => by
    unfold qT
    exact @decide_eq_true_iff _ (Classical.propDecidable _))
  have eW : cB (qW (c.2.2 0)) 28 = 28 - hbG (c.2.2 0) := by
    have row : ∀ i, hbG (c.2.2 0) ≤ i → i < 28 → (c.2.2 0).2.2 0 i = nI ((c.2.2 0).2.2 0 i).toNatClampNeg ∧ ((c.2.2 0).2.2 0 i).toNatClampNeg < 28 := fun i q1 q2 => by
      obtain ⟨t, ht, e, _⟩ := V.he i q1 q2
      rw [e, nI_clamp (by omega)]
      exact ⟨rfl, ht⟩
    refine cB_img (f := fun k => ((c.2.2 0).2.2 0 (hbG (c.2.2 0) + k)).toNatClampNeg) (28 - hbG (c.2.2 0)) (fun k hk => (row _ (by omega) (by omega)).2) (fun j k hj hk e => ?_) _ (fun t ht => ?_)
    · have e1 := (row (hbG (c.2.2 0) + j) (by omega) (by omega)).1
      have e2 := (row (hbG (c.2.2 0) + k) (by omega) (by omega)).1
      have e' : ((c.2.2 0).2.2 0 (hbG (c.2.2 0) + j)).toNatClampNeg = ((c.2.2 0).2.2 0 (hbG (c.2.2 0) + k)).toNatClampNeg := e
      rw [e'] at e1
      have := V.hd _ _ (by omega) (by omega) (by omega) (by omega) (e1.trans e2.symm)
      omega
    · unfold qW
      refine Iff.trans (@decide_eq_true_iff _ (Classical.propDecidable _)) ?_
      constructor
      · rintro ⟨i, q1, q2, q3⟩
        refine ⟨i - hbG (c.2.2 0), by omega, ?_⟩
        show ((c.2.2 0).2.2 0 (hbG (c.2.2 0) + (i - hbG (c.2.2 0)))).toNatClampNeg = t
        rw [show hbG (c.2.2 0) + (i - hbG (c.2.2 0)) = i by omega, q3, nI_clamp (by omega)]
      · rintro ⟨k, q1, q2⟩
        have e1 := (row (hbG (c.2.2 0) + k) (by omega) (by omega)).1
        have q2' : ((c.2.2 0).2.2 0 (hbG (c.2.2 0) + k)).toNatClampNeg = t := q2
        rw [q2'] at e1
        exact ⟨hbG (c.2.2 0) + k, by omega, by omega, e1⟩
  have eE : eN (c.2.2 0) (szG (c.2.2 0)) = (c.2.2 0).2.1 1 := by
    unfold eN
    by_cases hz : szG (c.2.2 0) = 0
    · rw [if_pos hz]
      rcases V.en with ⟨_, q⟩ | ⟨q, _⟩
      · exact q.symm
      · omega
    · rw [if_neg hz]
      unfold nxE
      rw [if_neg (by omega)]
  have eD : nI (dB (c.2.2 0) (szG (c.2.2 0))) = nI (trn (c.2.2 0) 1 (szG (c.2.2 0))) + nI (trn (c.2.2 0) 3 (szG (c.2.2 0))) := by
    rw [nI_add, trn_dbl V X _ (Nat.le_refl _)]
  have eF : nI (625 - 2 * szG (c.2.2 0)) = (625 : Int32) - (2 : Int32) * nI (szG (c.2.2 0)) := by
    rw [muL_2, show (625 : Int32) = nI 625 from rfl, nI_sub (by omega)]
  have hfin : (if x11 = (-1 : Int32) then f_L_holds_b1055 n x1 c ((c.2.2 0).1 3) (nI (szG (c.2.2 0))) (mskH (rsn (c.2.2 0)) 0 28) (1 : Int32) else f_L_holds_b1055 n x1 c ((c.2.2 0).1 3) (nI (szG (c.2.2 0))) (mskH (rsn (c.2.2 0)) 0 28) (0 : Int32)) = some (c, 1) := by
    have h0 := best_0 hb
    by_cases e : x11 = -1
    · exact ip_eq e (hc_1055 hn W hB (if_pos (h0.mp e)).symm)
    · exact in_eq e (hc_1055 hn W hB (if_neg (fun q => e (h0.mpr q))).symm)
  unfold f_L_holds_b926
  exact in_eq (by decide) (ip_eq eH (ip_eq (by rw [eT]) (ip_eq (by rw [eW]) (bd_eq (ab_9 hn W) (ip_eq rfl (bd_eq (ab_6 W) (ip_eq eE (bd_eq (re_4 hn W) (bd_eq (re_5 hn W) (ip_eq eD (bd_eq (free_0 hn W) (ip_eq eF (bd_eq (free_1 hn W) (ip_eq eF hfin))))))))))))))
theorem holds_ok {n B x : Nat} (hn : 28 < n) (hB : B < 2 ^ 20) {c : CS} (W : WI B c) (hx : x < 2 ^ 31) : f_L_holds n c (nI x) = some (c, 1) := by
  have h28 := W.g.sz28
  obtain ⟨b, hb1, hb2⟩ := best_v (n := n) hn W
  have r6 : (1 : Int32) + jrem (nI x) (6 : Int32) = nI (x % 6 + 1) := by
    rw [show jrem (nI x) (6 : Int32) = nI (x % 6) from jrem_n (d := 6) hx (by omega) (by omega), alL_1, Nat.add_comm]
  have m6 : x % 6 < 6 := Nat.mod_lt _ (by omega)
  have h128 : f_L_holds_b128 n (nI x) c ((c.2.2 0).1 0) ((c.2.2 0).1 3) (nI (szG (c.2.2 0))) (nI (28 - hbG (c.2.2 0))) (if (c.2.2 0).1 3 = 1 then (c.2.2 0).1 5 else -1) (0 : Int32) (0 : Int32) (0 : Int32) (mskH (rsn (c.2.2 0)) 0 28) b (1 : Int32) = some (c, 1) := by
    unfold f_L_holds_b128
    refine (hold_tiles hn W hb2 28 0 29 (by omega) (by omega)).trans ?_
    unfold f_L_holds_b479
    refine (hold_places hn W (szG (c.2.2 0)) 0 29 (by omega) (by omega)).trans ?_
    unfold f_L_holds_b765
    rw [r6]
    refine ck_eq (by decide) ?_
    refine (hold_players hn W m6 4 0 29 (by omega) (by omega)).trans ?_
    exact hold_end hn hB W hb2
  have h96 : ∀ s0 : Int32, s0 = (if (c.2.2 0).1 0 = 0 then 1 else 0) → f_L_holds_b87 n (nI x) c ((c.2.2 0).1 0) ((c.2.2 0).1 3) (nI (szG (c.2.2 0))) (nI (28 - hbG (c.2.2 0))) (if (c.2.2 0).1 3 = 1 then (c.2.2 0).1 5 else -1) (0 : Int32) (0 : Int32) (0 : Int32) (mskH (rsn (c.2.2 0)) 0 28) b s0 = some (c, 1) := fun s0 hs => by
    have h120 : f_L_holds_b96 n (nI x) c ((c.2.2 0).1 0) ((c.2.2 0).1 3) (nI (szG (c.2.2 0))) (nI (28 - hbG (c.2.2 0))) (if (c.2.2 0).1 3 = 1 then (c.2.2 0).1 5 else -1) (0 : Int32) (0 : Int32) (0 : Int32) (mskH (rsn (c.2.2 0)) 0 28) b s0 s0 = some (c, 1) := by
      unfold f_L_holds_b96 f_L_holds_b110 f_L_holds_b120
      refine ip_eq rfl ?_
      by_cases hp : (c.2.2 0).1 3 = 1
      · obtain ⟨P, tt, q, h1, h2, h3, h4, e1, e2, e3⟩ := W.g.pl hp
        refine in_eq ?_ (ip_eq hp (ip_eq rfl h128))
        rw [if_pos hp, e2]
        exact nI_ne_m1 (by omega)
      · exact ip_eq (if_neg hp) (in_eq hp (ip_eq rfl h128))
    unfold f_L_holds_b87
    by_cases h0 : (c.2.2 0).1 0 = 0
    · rw [if_pos h0] at hs
      subst hs
      exact ip_eq h0 h120
    · rw [if_neg h0] at hs
      subst hs
      exact in_eq h0 h120
  unfold f_L_holds
  refine bd_eq (ab_0 W) (bd_eq (ab_1 W) (bd_eq (ab_5 W) (bd_eq (ab_4 W) (bd_eq (ab_3 W) (bd_eq (legal_v hn W) (bd_eq hb1 ?_))))))
  have hneg : ¬ (c.2.2 0).1 3 < 0 := by
    rcases W.g.ph with q | q | q <;> rw [q] <;> decide
  have h3 : ¬ (3 : Int32) ≤ (c.2.2 0).1 3 := by
    rcases W.g.ph with q | q | q <;> rw [q] <;> decide
  refine in_eq hneg (in_eq h3 ?_)
  by_cases hp : (c.2.2 0).1 3 = 0
  · exact ip_eq hp (h96 1 (if_pos (W.x.rp.mp hp)).symm)
  · exact in_eq hp (h96 0 (if_neg (fun q => hp (W.x.rp.mpr q))).symm)
