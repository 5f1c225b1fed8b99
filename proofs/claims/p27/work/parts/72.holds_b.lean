/-! PURE LEVEL: the tiles lie one behind the other -/
def eN (G : GS) (k : Nat) : Int32 := if k = 0 then -1 else nxE G (k - 1)
def dB (G : GS) : Nat → Nat
  | 0 => 0
  | k + 1 => dB G k + if lo (tlG G k) = hi (tlG G k) then 1 else 0
section HB
variable {n : Nat} {x1 x3 x4 x5 x6 x7 x8 x9 x10 x11 : Int32} {K : CS → Int32 → Int32 → Int32 → Int32 → Int32 → Option (CS × Int32)} {c : CS} {x13 x14 x15 x16 x17 x18 x19 x20 x21 x22 x23 s0 s1 w : Int32} {r : Option (CS × Int32)}
theorem hb_580 (h : f_L_holds_b606 n x1 x3 x4 x5 x6 x7 x8 x9 x10 x11 K c x13 x14 x15 x16 x17 x18 w x20 x21 (x20 + sX w) (sY w) x21 = r) : (if w = 0 then (f_L_holds_b580 n x1 x3 x4 x5 x6 x7 x8 x9 x10 x11 K c x13 x14 x15 x16 x17 x18 w x20 x21 (1 : Int32) x20) else (if w = (2 : Int32) then (f_L_holds_b580 n x1 x3 x4 x5 x6 x7 x8 x9 x10 x11 K c x13 x14 x15 x16 x17 x18 w x20 x21 (-1 : Int32) x20) else (f_L_holds_b580 n x1 x3 x4 x5 x6 x7 x8 x9 x10 x11 K c x13 x14 x15 x16 x17 x18 w x20 x21 (0 : Int32) x20))) = r := by
  have core : ∀ s : Int32, sX w = s → f_L_holds_b580 n x1 x3 x4 x5 x6 x7 x8 x9 x10 x11 K c x13 x14 x15 x16 x17 x18 w x20 x21 s x20 = r := fun s hs => by
    rw [hs] at h
    unfold f_L_holds_b580
    by_cases h1 : w = 1
    · refine ip_eq h1 ?_
      rw [show sY w = 1 by unfold sY; rw [if_pos h1]] at h
      exact h
    · refine in_eq h1 ?_
      by_cases h3 : w = 3
      · refine ip_eq h3 ?_
        rw [show sY w = -1 by unfold sY; rw [if_neg h1, if_pos h3]] at h
        exact h
      · refine in_eq h3 ?_
        rw [show sY w = 0 by unfold sY; rw [if_neg h1, if_neg h3]] at h
        exact h
  by_cases h0 : w = 0
  · exact ip_eq h0 (core 1 (by unfold sX; rw [if_pos h0]))
  · by_cases h2 : w = 2
    · exact in_eq h0 (ip_eq h2 (core (-1) (by unfold sX; rw [if_neg h0, if_pos h2])))
    · exact in_eq h0 (in_eq h2 (core 0 (by unfold sX; rw [if_neg h0, if_neg h2])))
theorem hb_731 {D : Nat} (hD : x15 = nI D) {o : Prop} [Decidable o] (ho : x17 = x18 ↔ o) : f_L_holds_b731 n x1 x3 x4 x5 x6 x7 x8 x9 x10 x11 K c x13 x15 x16 x17 x18 = K c 1 x13 x18 (nI (D + if o then 1 else 0)) (x16 + 1) := by
  unfold f_L_holds_b731 f_L_holds_b736 f_L_holds_b752
  by_cases h : x17 = x18
  · refine ip_eq h ?_
    rw [if_pos (ho.mp h), hD, nI_1]
  · refine in_eq h ?_
    rw [if_neg (fun q => h (ho.mpr q)), hD, Int32.add_zero]
    rfl
theorem hb_606 (h : (x14 = -1 ∧ x20 = 12 ∧ x21 = 12 ∧ x19 = 0 ∧ ¬ x18 < x17) ∨ (¬ x14 = -1 ∧ x17 = x14)) (hr : f_L_holds_b661 n x1 x3 x4 x5 x6 x7 x8 x9 x10 x11 K c (x13 + (x17 + x18)) x15 x16 x17 x18 x19 x20 x21 x22 (s1 + s0) = r) : f_L_holds_b606 n x1 x3 x4 x5 x6 x7 x8 x9 x10 x11 K c x13 x14 x15 x16 x17 x18 x19 x20 x21 x22 s0 s1 = r := by
  unfold f_L_holds_b606
  rcases h with ⟨h1, h2, h3, h4, h5⟩ | ⟨h1, h2⟩
  · exact ip_eq h1 (ip_eq h2 (ip_eq h3 (ip_eq h4 (in_eq h5 hr))))
  · exact in_eq h1 (ip_eq h2 hr)
end HB
/-- the two cells of a tile show its halves -/
theorem at_cells {n B k : Nat} (hn : 28 < n) {c : CS} (W : WI B c) (hk : k < szG (c.2.2 0)) : f_L_call n c (6 : Int32) ((c.2.2 0).2.2 5 k) ((c.2.2 0).2.2 6 k) (0 : Int32) = some (c, (c.2.2 0).2.2 8 k) ∧ f_L_call n c (6 : Int32) ((c.2.2 0).2.2 5 k + sX ((c.2.2 0).2.2 7 k)) ((c.2.2 0).2.2 6 k + sY ((c.2.2 0).2.2 7 k)) (0 : Int32) = some (c, nI (pp (tlG (c.2.2 0) k)) - (c.2.2 0).2.2 8 k) := by
  obtain ⟨⟨b1, b2, b3, b4⟩, e1, e2, e3, e4⟩ := cells_n W.g hk
  obtain ⟨d, hd4, hd⟩ := W.g.wa k hk
  have hne := step_ne (d := d) b1 b2 b3 b4 hd4 (by rw [← e1, ← hd]; exact e3) (by rw [← e2, ← hd]; exact e4)
  constructor
  · rw [e1, e2]
    refine at_v b1 b2 ?_
    obtain ⟨r, h1, h2⟩ := f_pipsAt (n := n) hn W.g (nI (cX (c.2.2 0) k)) (nI (cY (c.2.2 0) k))
    have hc : coversG (c.2.2 0) k (nI (cX (c.2.2 0) k)) (nI (cY (c.2.2 0) k)) := Or.inl ⟨e1, e2⟩
    rcases h2 with ⟨_, h2⟩ | ⟨k', q1, q2, _, q4⟩
    · exact absurd hc (h2 k hk)
    · have ek := W.x.ap k' k _ _ q1 hk q2 hc
      subst ek
      rcases q4 with ⟨_, q5⟩ | ⟨q5, _⟩
      · rw [h1, q5]
      · exact absurd ⟨e1, e2⟩ q5
  · rw [e3, e4]
    refine at_v b3 b4 ?_
    obtain ⟨r, h1, h2⟩ := f_pipsAt (n := n) hn W.g (nI (dX' (c.2.2 0) k)) (nI (dY' (c.2.2 0) k))
    have hc : coversG (c.2.2 0) k (nI (dX' (c.2.2 0) k)) (nI (dY' (c.2.2 0) k)) := Or.inr ⟨e3, e4⟩
    rcases h2 with ⟨_, h2⟩ | ⟨k', q1, q2, _, q4⟩
    · exact absurd hc (h2 k hk)
    · have ek := W.x.ap k' k _ _ q1 hk q2 hc
      subst ek
      rcases q4 with ⟨⟨q5, q6⟩, _⟩ | ⟨_, _, q5⟩
      · exfalso
        rw [e1] at q5
        rw [e2] at q6
        exact hne ⟨(nI_inj (by omega) (by omega) q5).symm, (nI_inj (by omega) (by omega) q6).symm⟩
      · rw [h1, q5]
theorem turn_all : (List.range 4).all (fun d => decide (jrem ((nI ((d + 1) % 4) - nI d) + (4 : Int32)) (2 : Int32) = 1 ∧ jrem ((nI ((d + 3) % 4) - nI d) + (4 : Int32)) (2 : Int32) = 1)) = true := by decide +kernel
theorem turn_n {d : Nat} (h : d < 4) : jrem ((nI ((d + 1) % 4) - nI d) + (4 : Int32)) (2 : Int32) = 1 ∧ jrem ((nI ((d + 3) % 4) - nI d) + (4 : Int32)) (2 : Int32) = 1 := of_decide_eq_true (List.all_eq_true.mp turn_all d (List.mem_range.mpr h))
/-- the next tile goes on -/
theorem next_ok {n B k : Nat} {c : CS} (W : WI B c) (hk : k + 1 < szG (c.2.2 0)) {s : Int32} (hs : (s = 0 ∧ ¬ lo (tlG (c.2.2 0) k) = hi (tlG (c.2.2 0) k)) ∨ (s = 1 ∧ lo (tlG (c.2.2 0) k) = hi (tlG (c.2.2 0) k))) :
    f_L_next n c (nI (k + 1)) ((c.2.2 0).2.2 5 k + sX ((c.2.2 0).2.2 7 k)) ((c.2.2 0).2.2 6 k + sY ((c.2.2 0).2.2 7 k)) ((c.2.2 0).2.2 7 k) s = some (c, 1) := by
  obtain ⟨_, q1, q2, q3, _, _⟩ := f_laid W.g hk
  have l1 := laid_v (n := n) (w := 1) (z0 := 0) W hk (by omega) q1
  have l2 := laid_v (n := n) (w := 2) (z0 := 0) W hk (by omega) q2
  have l3 := laid_v (n := n) (w := 3) (z0 := 0) W hk (by omega) q3
  obtain ⟨p1, p2⟩ := W.x.po k hk
  obtain ⟨d, hd4, hd, t1, t2⟩ := W.x.tu k (by omega)
  have eW : nxW (c.2.2 0) k = (c.2.2 0).2.2 7 (k + 1) := if_pos hk
  rw [eW] at t1 t2
  generalize hw : (c.2.2 0).2.2 7 (k + 1) = w at *
  have h87 : f_L_next_b87 n (nI (k + 1)) ((c.2.2 0).2.2 5 k + sX ((c.2.2 0).2.2 7 k)) ((c.2.2 0).2.2 6 k + sY ((c.2.2 0).2.2 7 k)) ((c.2.2 0).2.2 7 k) s c (((c.2.2 0).2.2 5 k + sX ((c.2.2 0).2.2 7 k)) + sX w) (((c.2.2 0).2.2 6 k + sY ((c.2.2 0).2.2 7 k)) + sY w) = some (c, 1) := by
    unfold f_L_next_b87
    exact bd_eq l1 (ip_eq p1 (bd_eq l2 (ip_eq p2 rfl)))
  have h56 : ∀ v : Int32, sY w = v → f_L_next_b56 n (nI (k + 1)) ((c.2.2 0).2.2 5 k + sX ((c.2.2 0).2.2 7 k)) ((c.2.2 0).2.2 6 k + sY ((c.2.2 0).2.2 7 k)) ((c.2.2 0).2.2 7 k) s c w (((c.2.2 0).2.2 5 k + sX ((c.2.2 0).2.2 7 k)) + sX w) v ((c.2.2 0).2.2 6 k + sY ((c.2.2 0).2.2 7 k)) = some (c, 1) := fun v hv => by
    rw [hv] at h87
    unfold f_L_next_b56
    rcases hs with ⟨rfl, hs⟩ | ⟨rfl, hs⟩
    · refine ip_eq rfl (ip_eq ?_ h87)
      rw [t1 hs, hd]
    · refine in_eq (by decide) (ck_eq (by decide) (ip_eq ?_ h87))
      rw [hd]
      rcases t2 hs with e | e
      · rw [e]
        exact (turn_n hd4).1
      · rw [e]
        exact (turn_n hd4).2
  have h31 : ∀ u : Int32, sX w = u → f_L_next_b31 n (nI (k + 1)) ((c.2.2 0).2.2 5 k + sX ((c.2.2 0).2.2 7 k)) ((c.2.2 0).2.2 6 k + sY ((c.2.2 0).2.2 7 k)) ((c.2.2 0).2.2 7 k) s c w u ((c.2.2 0).2.2 5 k + sX ((c.2.2 0).2.2 7 k)) = some (c, 1) := fun u hu => by
    rw [hu] at h56
    unfold f_L_next_b31
    by_cases h1 : w = 1
    · exact ip_eq h1 (h56 1 (by unfold sY; rw [if_pos h1]))
    · by_cases h3 : w = 3
      · exact in_eq h1 (ip_eq h3 (h56 (-1) (by unfold sY; rw [if_neg h1, if_pos h3])))
      · exact in_eq h1 (in_eq h3 (h56 0 (by unfold sY; rw [if_neg h1, if_neg h3])))
  unfold f_L_next
  refine bd_eq l3 ?_
  by_cases h0 : w = 0
  · exact ip_eq h0 (h31 1 (by unfold sX; rw [if_pos h0]))
  · by_cases h2 : w = 2
    · exact in_eq h0 (ip_eq h2 (h31 (-1) (by unfold sX; rw [if_neg h0, if_pos h2])))
    · exact in_eq h0 (in_eq h2 (h31 0 (by unfold sX; rw [if_neg h0, if_neg h2])))
theorem hold_place {n B k : Nat} (hn : 28 < n) {c : CS} (W : WI B c) (hk : k < szG (c.2.2 0)) {x1 x3 x5 x6 x7 x8 x9 x10 x11 : Int32} (K : CS → Int32 → Int32 → Int32 → Int32 → Int32 → Option (CS × Int32)) :
    f_L_holds_h491 n x1 x3 (nI (szG (c.2.2 0))) x5 x6 x7 x8 x9 x10 x11 K c 1 (nI (pipT (c.2.2 0) k)) (eN (c.2.2 0) k) (nI (dB (c.2.2 0) k)) (nI k) = K c 1 (nI (pipT (c.2.2 0) (k + 1))) (eN (c.2.2 0) (k + 1)) (nI (dB (c.2.2 0) (k + 1))) (nI (k + 1)) := by
  have h28 := W.g.sz28
  have hle : ¬ nI (szG (c.2.2 0)) ≤ nI k := nI_ge hk (by omega)
  obtain ⟨q0, q1, q2, q3, q4, q5⟩ := f_laid W.g hk
  have l1 := laid_v (n := n) (w := 1) (z0 := 0) W hk (by omega) q1
  have l2 := laid_v (n := n) (w := 2) (z0 := 0) W hk (by omega) q2
  have l3 := laid_v (n := n) (w := 3) (z0 := 0) W hk (by omega) q3
  have l4 := laid_v (n := n) (w := 4) (z0 := 0) W hk (by omega) q4
  have l5 := laid_v (n := n) (w := 5) (z0 := 0) W hk (by omega) q5
  obtain ⟨f, o, ef, hfo, eo⟩ := W.x.fo k hk
  have ht := (W.g.ti k hk).1
  have h6 := tl ht
  have hpp : pp (tlG (c.2.2 0) k) = lo (tlG (c.2.2 0) k) + hi (tlG (c.2.2 0) k) := rfl
  have e18 : nI (pp (tlG (c.2.2 0) k)) - (c.2.2 0).2.2 8 k = nI o := by
    rw [ef, nI_sub (by rcases hfo with ⟨q, _⟩ | ⟨q, _⟩ <;> omega)]
    congr 1
    rcases hfo with ⟨q, q'⟩ | ⟨q, q'⟩ <;> omega
  have hsum : (c.2.2 0).2.2 8 k + (nI (pp (tlG (c.2.2 0) k)) - (c.2.2 0).2.2 8 k) = nI (pp (tlG (c.2.2 0) k)) := by
    rw [e18, ef, nI_add]
    congr 1
    rcases hfo with ⟨q, q'⟩ | ⟨q, q'⟩ <;> omega
  have hdo : ((c.2.2 0).2.2 8 k = nI (pp (tlG (c.2.2 0) k)) - (c.2.2 0).2.2 8 k) ↔ lo (tlG (c.2.2 0) k) = hi (tlG (c.2.2 0) k) := by
    rw [e18, ef]
    constructor
    · intro q
      have := nI_inj (by rcases hfo with ⟨q, _⟩ | ⟨q, _⟩ <;> omega) (by rcases hfo with ⟨_, q⟩ | ⟨_, q⟩ <;> omega) q
      rcases hfo with ⟨q, q'⟩ | ⟨q, q'⟩ <;> omega
    · intro q
      congr 1
      rcases hfo with ⟨q, q'⟩ | ⟨q, q'⟩ <;> omega
  obtain ⟨at1, at2⟩ := at_cells (n := n) hn W hk
  have h731 : f_L_holds_b731 n x1 x3 (nI (szG (c.2.2 0))) x5 x6 x7 x8 x9 x10 x11 K c (nI (pipT (c.2.2 0) k) + ((c.2.2 0).2.2 8 k + (nI (pp (tlG (c.2.2 0) k)) - (c.2.2 0).2.2 8 k))) (nI (dB (c.2.2 0) k)) (nI k) ((c.2.2 0).2.2 8 k) (nI (pp (tlG (c.2.2 0) k)) - (c.2.2 0).2.2 8 k) = K c 1 (nI (pipT (c.2.2 0) (k + 1))) (eN (c.2.2 0) (k + 1)) (nI (dB (c.2.2 0) (k + 1))) (nI (k + 1)) := by
    rw [hb_731 rfl hdo, hsum, nI_add, nI_1, e18]
    have e9 : eN (c.2.2 0) (k + 1) = nI o := by
      unfold eN
      rw [if_neg (by omega), Nat.add_sub_cancel]
      exact eo
    rw [e9]
    rfl
  have h661 : f_L_holds_b661 n x1 x3 (nI (szG (c.2.2 0))) x5 x6 x7 x8 x9 x10 x11 K c (nI (pipT (c.2.2 0) k) + ((c.2.2 0).2.2 8 k + (nI (pp (tlG (c.2.2 0) k)) - (c.2.2 0).2.2 8 k))) (nI (dB (c.2.2 0) k)) (nI k) ((c.2.2 0).2.2 8 k) (nI (pp (tlG (c.2.2 0) k)) - (c.2.2 0).2.2 8 k) ((c.2.2 0).2.2 7 k) ((c.2.2 0).2.2 5 k) ((c.2.2 0).2.2 6 k) ((c.2.2 0).2.2 5 k + sX ((c.2.2 0).2.2 7 k)) ((c.2.2 0).2.2 6 k + sY ((c.2.2 0).2.2 7 k)) = K c 1 (nI (pipT (c.2.2 0) (k + 1))) (eN (c.2.2 0) (k + 1)) (nI (dB (c.2.2 0) (k + 1))) (nI (k + 1)) := by
    unfold f_L_holds_b661
    refine bd_eq at1 (ip_eq rfl (bd_eq at2 (ip_eq rfl ?_)))
    have e1 : nI k + (1 : Int32) = nI (k + 1) := nI_1 k
    by_cases hl : k + 1 = szG (c.2.2 0)
    · exact ip_eq (by rw [e1, hl]) h731
    · refine in_eq (fun q => hl ?_) ?_
      · rw [e1] at q
        exact nI_inj (by omega) (by omega) q
      · rw [e1]
        by_cases hd : (c.2.2 0).2.2 8 k = nI (pp (tlG (c.2.2 0) k)) - (c.2.2 0).2.2 8 k
        · refine ip_eq hd ?_
          unfold f_L_holds_b725
          exact bd_eq (next_ok W (by omega) (Or.inr ⟨rfl, hdo.mp hd⟩)) (in_eq (show ¬ (1 : Int32) = 0 by decide) h731)
        · refine in_eq hd ?_
          unfold f_L_holds_b725
          exact bd_eq (next_ok W (by omega) (Or.inl ⟨rfl, fun q => hd (hdo.mpr q)⟩)) (in_eq (show ¬ (1 : Int32) = 0 by decide) h731)
  unfold f_L_holds_h491
  refine in_eq hle (in_eq (by decide) (bd_eq l4 (bd_eq l5 (bd_eq l3 (bd_eq l1 (bd_eq l2 (hb_580 (hb_606 ?_ h661))))))))
  unfold eN
  by_cases hk0 : k = 0
  · subst hk0
    obtain ⟨g1, g2, g3, g4⟩ := W.x.f0 hk
    refine Or.inl ⟨if_pos rfl, g2, g3, g4, ?_⟩
    rw [e18, ef]
    rw [ef] at g1
    have e1 := nI_inj (by rcases hfo with ⟨q, _⟩ | ⟨q, _⟩ <;> omega) (by omega) g1
    exact nI_nlt (by rcases hfo with ⟨q, q'⟩ | ⟨q, q'⟩ <;> omega) (by rcases hfo with ⟨q, q'⟩ | ⟨q, q'⟩ <;> omega)
  · right
    rw [if_neg hk0]
    have e9 : nxE (c.2.2 0) (k - 1) = (c.2.2 0).2.2 8 k := by
      unfold nxE
      rw [if_pos (by omega), show k - 1 + 1 = k by omega]
    rw [e9, ef]
    exact ⟨nI_ne_m1 (by rcases hfo with ⟨q, _⟩ | ⟨q, _⟩ <;> omega), rfl⟩
theorem hold_places {n B : Nat} (hn : 28 < n) {c : CS} (W : WI B c) {x1 x3 x5 x6 x7 x8 x9 x10 x11 : Int32} : ∀ d k m, k + d = szG (c.2.2 0) → d < m →
    lo6 (f_L_holds_h491 n x1 x3 (nI (szG (c.2.2 0))) x5 x6 x7 x8 x9 x10 x11) m c 1 (nI (pipT (c.2.2 0) k)) (eN (c.2.2 0) k) (nI (dB (c.2.2 0) k)) (nI k) = f_L_holds_b765 n x1 c x3 (nI (szG (c.2.2 0))) x5 x6 x7 x8 x9 x10 x11 1 (nI (pipT (c.2.2 0) (szG (c.2.2 0)))) (eN (c.2.2 0) (szG (c.2.2 0))) (nI (dB (c.2.2 0) (szG (c.2.2 0)))) := by
  have h28 := W.g.sz28
  intro d
  induction d with
  | zero =>
    intro k m h1 h2
    obtain ⟨m', rfl⟩ : ∃ j, m = j + 1 := ⟨m - 1, by omega⟩
    have e : k = szG (c.2.2 0) := by omega
    rw [lo6_s, e]
    exact ip_eq (nI_le (Nat.le_refl _) (by omega)) rfl
  | succ d ih =>
    intro k m h1 h2
    obtain ⟨m', rfl⟩ : ∃ j, m = j + 1 := ⟨m - 1, by omega⟩
    rw [lo6_s, hold_place hn W (by omega)]
    exact ih (k + 1) m' (by omega) (by omega)
