/-! PURE LEVEL: the calls that are refused -/
theorem msk_none {h : Nat → Int32} {p : Int32} : ∀ N, (∀ t, t < N → ¬ h t = p) → mskH h p N = 0 := by
  intro N
  induction N with
  | zero => intro _; rfl
  | succ N ih =>
    intro h1
    simp only [mskH, if_neg (h1 N (by omega))]
    exact ih (fun t ht => h1 t (by omega))
theorem rsn_off {G : GS} {B : Nat} (V : VG G B) (hp : ¬ G.1 3 = 1) {t : Nat} (ht : t < 28) : rsn G t = -1 := (rsn_m1 (f_reason V ht).2).mpr hp
theorem neg_all : (List.range 100).all (fun j => decide ((-1 : Int32) - nI j < 0)) = true := by decide +kernel
theorem neg_n {j : Nat} (h : j < 100) : (-1 : Int32) - nI j < 0 := of_decide_eq_true (List.all_eq_true.mp neg_all j (List.mem_range.mpr h))
theorem jrem_k {a : Nat} (ha : a < 2 ^ 31) (k : Nat) (h0 : 0 < k) (hk : k < 2 ^ 31) : jrem (nI a) (nI k) = nI (a % k) := jrem_n ha h0 hk
section RF
variable {n B x : Nat} {c : CS}
theorem rf_596 (W : WI B c) (x1 : Int32) : f_L_refuses_b596 n x1 c ((c.2.2 0).1 3) (nI (28 - hbG (c.2.2 0))) = some (c, 1) := by
  have hb := W.g.hb28
  unfold f_L_refuses_b596 f_L_refuses_b638
  by_cases hp : (c.2.2 0).1 3 = 1
  · refine ip_eq hp ?_
    by_cases h28 : hbG (c.2.2 0) = 28
    · refine ip_eq (by rw [h28]; decide) (bd_eq (e_draw W (fun q => by omega)) (ip_eq rfl rfl))
    · refine in_eq (nI_nle (by omega) (by omega)) (bd_eq (e_pass W (fun q => h28 q.2)) (ip_eq rfl rfl))
  · exact in_eq hp rfl
theorem rf_526 (hn : 28 < n) (W : WI B c) (hx : x < 2 ^ 20) : f_L_refuses_b526 n (nI x) c ((c.2.2 0).1 3) (nI (28 - hbG (c.2.2 0))) (1 : Int32) = some (c, 1) := by
  unfold f_L_refuses_b526
  refine in_eq (by decide) ?_
  by_cases hp : (c.2.2 0).1 3 = 1
  · exact ip_eq hp (rf_596 W _)
  · have h28 : jrem (nI x) (28 : Int32) = nI (x % 28) := jrem_k (by omega) 28 (by omega) (by omega)
    have ht : x % 28 < 28 := Nat.mod_lt _ (by omega)
    obtain ⟨r, hb1, hb2⟩ := best_v (n := n) hn W
    have hr : r = -1 := by
      rcases hb2 with ⟨q, _⟩ | ⟨b, q1, _, _, q4, _⟩
      · exact q
      · rw [rsn_off W.g hp q1] at q4
        exact absurd q4 (by decide)
    subst hr
    refine in_eq hp (ck_eq (by decide) (bd_eq (v := (c, (-9999003 : Int32))) (by rw [h28]; exact e_plays_s ht hp) (ip_eq rfl (bd_eq (e_draw W (fun q => hp q.1)) (ip_eq rfl (bd_eq (e_pass W (fun q => hp q.1)) (ip_eq rfl (bd_eq (legal_v hn W) (ip_eq ?_ (bd_eq hb1 (ip_eq rfl (rf_596 W _))))))))))))
    exact msk_none 28 (fun t ht => by rw [rsn_off W.g hp ht]; decide)
theorem rf_408 (hn : 28 < n) (W : WI B c) (hx : x < 2 ^ 20) {s0 : Int32} (hs : s0 < nI 1 ∨ nI 6 < s0) : f_L_refuses_b408 n (nI x) c ((c.2.2 0).1 3) (nI (28 - hbG (c.2.2 0))) s0 (0 : Int32) (12 : Int32) = some (c, 1) := by
  have h9 : jrem (nI x) (9 : Int32) = nI (x % 9) := jrem_k (by omega) 9 (by omega) (by omega)
  have h50 : jrem (nI x) (50 : Int32) = nI (x % 50) := jrem_k (by omega) 50 (by omega) (by omega)
  have m9 : x % 9 < 9 := Nat.mod_lt _ (by omega)
  have m50 : x % 50 < 50 := Nat.mod_lt _ (by omega)
  unfold f_L_refuses_b408
  rw [h9, h50]
  refine bd_eq (e_chain_a (p := 0) (by omega) hs) (ip_eq rfl (ck_eq (by decide) (bd_eq (e_reach (Or.inr ?_)) (ip_eq rfl (ck_eq (by decide) (bd_eq (e_keep (Or.inr ?_)) (ip_eq rfl (ck_eq (by decide) (bd_eq (e_back (Or.inl (neg_n (by omega)))) (ip_eq rfl (bd_eq (e_script_0 (by decide)) (ip_eq rfl (bd_eq (e_script_1 hn hx) (ip_eq rfl (ck_eq (by decide) (bd_eq (e_sim ?_) (ip_eq rfl (rf_526 hn W hx))))))))))))))))))
  · rw [alL_6]
    exact nI_lt (by omega) (by omega)
  · rw [alL_2]
    exact nI_lt (by omega) (by omega)
  · show nI 200 < (201 : Int32) + nI (x % 9)
    rw [show (201 : Int32) + nI (x % 9) = nI (201 + x % 9) from nI_add 201 _]
    exact nI_lt (by omega) (by omega)
theorem rf_337 (hn : 28 < n) (W : WI B c) (hx : x < 2 ^ 20) {x2 x3 s0 : Int32} (h2 : x2 < 0 ∨ nI 27 < x2) (h3 : x3 < 0 ∨ nI 3 < x3) (hs : s0 < nI 2 ∨ nI 4 < s0) : f_L_refuses_b337 n (nI x) c x2 x3 ((c.2.2 0).1 3) (nI (28 - hbG (c.2.2 0))) s0 = some (c, 1) := by
  have h9 : jrem (nI x) (9 : Int32) = nI (x % 9) := jrem_k (by omega) 9 (by omega) (by omega)
  have m9 : x % 9 < 9 := Nat.mod_lt _ (by omega)
  unfold f_L_refuses_b337
  rw [h9]
  refine bd_eq (e_deals hs) (ip_eq rfl (bd_eq (e_plays_i h2) (ip_eq rfl (bd_eq (e_why h2) (ip_eq rfl (bd_eq (e_chain_i h3) (ip_eq rfl (ck_eq (by decide) ?_))))))))
  by_cases ev : jrem (nI x) (2 : Int32) = 0
  · exact ip_eq ev (rf_408 hn W hx (Or.inl (by decide)))
  · refine in_eq ev (ck_eq (by decide) (rf_408 hn W hx (Or.inr ?_)))
    rw [alL_7]
    exact nI_lt (by omega) (by omega)
theorem rf_239 (hn : 28 < n) (W : WI B c) (hx : x < 2 ^ 20) {x2 x3 x4 : Int32} (h2 : x2 < 0 ∨ nI 27 < x2) (h3 : x3 < 0 ∨ nI 3 < x3) (h4 : x4 < 0 ∨ nI 24 < x4) : f_L_refuses_b239 n (nI x) c x2 x3 x4 ((c.2.2 0).1 3) (nI (28 - hbG (c.2.2 0))) = some (c, 1) := by
  have h9 : jrem (nI x) (9 : Int32) = nI (x % 9) := jrem_k (by omega) 9 (by omega) (by omega)
  have m9 : x % 9 < 9 := Nat.mod_lt _ (by omega)
  unfold f_L_refuses_b239
  rw [h9]
  refine bd_eq (e_player_i h3) (ip_eq rfl (ck_eq (by decide) (bd_eq (e_player_a (p := 0) (by omega) (Or.inr ?_)) (ip_eq rfl (bd_eq (e_at (Or.inl h4)) (ip_eq rfl (bd_eq (e_at (Or.inr h4)) (ip_eq rfl (ck_eq (by decide) (bd_eq (e_free ?_ ?_) (ip_eq rfl (ck_eq (by decide) ?_))))))))))))
  · rw [alL_4]
    exact nI_lt (by omega) (by omega)
  · rw [alL_2]
    exact nI_ne0 (by omega) (by omega)
  · rw [alL_2]
    intro q
    have := nI_inj (a := 2 + x % 9) (b := 1) (by omega) (by omega) q
    omega
  · by_cases ev : jrem (nI x) (2 : Int32) = 0
    · exact ip_eq ev (rf_337 hn W hx h2 h3 (Or.inl (by decide)))
    · refine in_eq ev (ck_eq (by decide) (rf_337 hn W hx h2 h3 (Or.inr ?_)))
      rw [alL_5]
      exact nI_lt (by omega) (by omega)
theorem rf_204 (hn : 28 < n) (W : WI B c) (hx : x < 2 ^ 20) {x2 x3 x4 s0 : Int32} (h2 : x2 < 0 ∨ nI 27 < x2) (h3 : x3 < 0 ∨ nI 3 < x3) (h4 : x4 < 0 ∨ nI 24 < x4) (hs : s0 < 0 ∨ nI (szG (c.2.2 0)) ≤ s0) : f_L_refuses_b204 n (nI x) c x2 x3 x4 (nI (szG (c.2.2 0))) ((c.2.2 0).1 3) (nI (28 - hbG (c.2.2 0))) s0 (4 : Int32) = some (c, 1) := by
  have h9 : jrem (nI x) (9 : Int32) = nI (x % 9) := jrem_k (by omega) 9 (by omega) (by omega)
  have m9 : x % 9 < 9 := Nat.mod_lt _ (by omega)
  have h28 := W.g.sz28
  unfold f_L_refuses_b204
  rw [h9]
  refine bd_eq (e_laid_i W hs) (ip_eq rfl ?_)
  by_cases hz : szG (c.2.2 0) = 0
  · exact ip_eq (by rw [hz]; rfl) (rf_239 hn W hx h2 h3 h4)
  · refine in_eq (nI_ne0 (by omega) (by omega)) (ck_eq (by decide) (bd_eq (e_laid_a (t := 0) W (Nat.pos_of_ne_zero hz) (Or.inr ?_)) (ip_eq rfl (rf_239 hn W hx h2 h3 h4))))
    rw [alL_6]
    exact nI_lt (by omega) (by omega)
theorem rf_124 (hn : 28 < n) (W : WI B c) (hx : x < 2 ^ 20) {x2 x3 x4 s0 : Int32} (h2 : x2 < 0 ∨ nI 27 < x2) (h3 : x3 < 0 ∨ nI 3 < x3) (h4 : x4 < 0 ∨ nI 24 < x4) (hs : s0 < 0 ∨ nI 255 < s0) : f_L_refuses_b124 n (nI x) c x2 x3 x4 (nI (szG (c.2.2 0))) ((c.2.2 0).1 3) (nI (28 - hbG (c.2.2 0))) s0 (0 : Int32) = some (c, 1) := by
  have h9 : jrem (nI x) (9 : Int32) = nI (x % 9) := jrem_k (by omega) 9 (by omega) (by omega)
  have h50 : jrem (nI x) (50 : Int32) = nI (x % 50) := jrem_k (by omega) 50 (by omega) (by omega)
  have m9 : x % 9 < 9 := Nat.mod_lt _ (by omega)
  have m50 : x % 50 < 50 := Nat.mod_lt _ (by omega)
  have h28 := W.g.sz28
  unfold f_L_refuses_b124
  rw [h9, h50]
  refine bd_eq (e_append hs) (ip_eq rfl (ck_eq (by decide) (bd_eq (e_about (Or.inr ?_)) (ip_eq rfl (bd_eq (e_tile_i h2) (ip_eq rfl (ck_eq (by decide) (bd_eq (e_tile_a (t := 5) (by omega) (Or.inr ?_)) (ip_eq rfl (ck_eq (by decide) ?_))))))))))
  · rw [alL_12]
    exact nI_lt (by omega) (by omega)
  · rw [alL_5]
    exact nI_lt (by omega) (by omega)
  · by_cases ev : jrem (nI x) (2 : Int32) = 0
    · exact ip_eq ev (rf_204 hn W hx h2 h3 h4 (Or.inl (by decide)))
    · refine in_eq ev (ck_eq (by decide) (rf_204 hn W hx h2 h3 h4 (Or.inr ?_)))
      rw [nI_add]
      exact nI_le (by omega) (by omega)
theorem rf_67 (hn : 28 < n) (W : WI B c) (hx : x < 2 ^ 20) {x2 x3 x4 : Int32} (h2 : x2 < 0 ∨ nI 27 < x2) (h3 : x3 < 0 ∨ nI 3 < x3) (h4 : x4 < 0 ∨ nI 24 < x4) : f_L_refuses_b67 n (nI x) c x2 x3 x4 = some (c, 1) := by
  have h9 : jrem (nI x) (9 : Int32) = nI (x % 9) := jrem_k (by omega) 9 (by omega) (by omega)
  have m9 : x % 9 < 9 := Nat.mod_lt _ (by omega)
  unfold f_L_refuses_b67
  rw [h9]
  refine bd_eq (ab_5 W) (bd_eq (ab_1 W) (bd_eq (ab_4 W) (ck_eq (by decide) ?_)))
  by_cases ev : jrem (nI x) (2 : Int32) = 0
  · exact ip_eq ev (ck_eq (by decide) (rf_124 hn W hx h2 h3 h4 (Or.inl (neg_n (by omega)))))
  · refine in_eq ev (ck_eq (by decide) (rf_124 hn W hx h2 h3 h4 (Or.inr ?_)))
    rw [show (256 : Int32) + nI (x % 9) = nI (256 + x % 9) from nI_add 256 _]
    exact nI_lt (by omega) (by omega)
theorem refuses_ok (hn : 28 < n) (W : WI B c) (hx : x < 2 ^ 20) : f_L_refuses n c (nI x) = some (c, 1) := by
  have h99 : jrem (nI x) (99 : Int32) = nI (x % 99) := jrem_k (by omega) 99 (by omega) (by omega)
  have m99 : x % 99 < 99 := Nat.mod_lt _ (by omega)
  unfold f_L_refuses f_L_refuses_b22 f_L_refuses_b44
  rw [h99]
  refine ck_eq (by decide) ?_
  by_cases ev : jrem (nI x) (2 : Int32) = 0
  · exact ip_eq ev (ck_eq (by decide) (ck_eq (by decide) (ip_eq ev (ck_eq (by decide) (ck_eq (by decide) (ip_eq ev (ck_eq (by decide) (rf_67 hn W hx (Or.inl (neg_n (by omega))) (Or.inl (neg_n (by omega))) (Or.inl (neg_n (by omega)))))))))))
  · refine in_eq ev (ck_eq (by decide) (ck_eq (by decide) (in_eq ev (ck_eq (by decide) (ck_eq (by decide) (in_eq ev (ck_eq (by decide) (rf_67 hn W hx (Or.inr ?_) (Or.inr ?_) (Or.inr ?_)))))))))
    · rw [alL_28]
      exact nI_lt (by omega) (by omega)
    · rw [alL_4]
      exact nI_lt (by omega) (by omega)
    · rw [alL_25]
      exact nI_lt (by omega) (by omega)
end RF
