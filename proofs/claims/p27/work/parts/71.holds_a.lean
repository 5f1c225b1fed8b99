/-! PURE LEVEL: what holds of each tile -/
/-! pasted from kit/laws: one row -/
theorem b_sshr (n : Nat) (hn : n < 32) (x : Int32) {i : Nat} (hi : i < 32) : bt (x >>> (nI n &&& 31)) i = if n + i < 32 then bt x (n + i) else bt x 31 := by
  unfold bt
  rw [Int32.toBitVec_shiftRight]
  show (x.toBitVec.sshiftRight ((nI n &&& 31).toBitVec.smod 32).toNat).getLsbD i = _
  rw [s_l n hn, BitVec.getLsbD_sshiftRight, BitVec.msb_eq_getLsbD_last]
  simp [hi]
theorem jsr_bit (v : Int32) {k : Nat} (hk : k < 32) : jsshr v (nI k) &&& (1 : Int32) = if bt v k = true then 1 else 0 := by
  have h1 : ∀ i, i < 32 → bt (jsshr v (nI k) &&& 1) i = (decide (i = 0) && bt v k) := fun i hi => by
    rw [b_and, b_one i hi]
    by_cases e : i = 0
    · subst e
      unfold jsshr
      rw [b_sshr k hk v (by omega), if_pos (show k + 0 < 32 by omega), Nat.add_zero]
      simp
    · simp [e]
  apply b_ext
  intro i hi
  rw [h1 i hi]
  by_cases hb : bt v k = true
  · rw [if_pos hb, hb, Bool.and_true, b_one i hi]
  · rw [if_neg hb, show bt v k = false by simpa using hb, Bool.and_false, b_0]
def neI (v : Int32) : Int32 := if v = -1 then 0 else 1
def qH (G : GS) (t : Nat) : Bool := !decide (G.2.2 1 t = -1)
noncomputable def qT (G : GS) (t : Nat) : Bool := @decide (∃ k, k < szG G ∧ tlG G k = t) (Classical.propDecidable _)
noncomputable def qW (G : GS) (t : Nat) : Bool := @decide (∃ i, hbG G ≤ i ∧ i < 28 ∧ G.2.2 0 i = nI t) (Classical.propDecidable _)
theorem cnt_step {q : Nat → Bool} {v : Int32} {j : Nat} (h : v = -1 ↔ q j = false) : nI (cB q j) + neI v = nI (cB q (j + 1)) := by
  unfold neI
  simp only [cB]
  by_cases e : v = -1
  · rw [if_pos e, h.mp e, Int32.add_zero]
    rfl
  · have : q j = true := by
      cases hq : q j with
      | true => rfl
      | false => exact absurd (h.mpr hq) e
    rw [if_neg e, this, if_pos rfl, nI_1]
section HA
variable {n : Nat} {x1 x2 x3 x4 x5 x6 x10 x11 : Int32} {K : CS → Int32 → Int32 → Int32 → Int32 → Int32 → Option (CS × Int32)} {c : CS} {x7 x8 x9 x13 x14 x15 x16 x17 x18 s0 s1 : Int32} {r : Option (CS × Int32)}
theorem hs_224 (h : f_L_holds_b303 n x1 x2 x3 x4 x5 x6 x10 x11 K c (s1 + s0) (x8 + neI x15) (x9 + neI x16) x13 x14 x15 x17 x18 (if x2 = 0 then 0 else 1) ((neI x14 + neI x15) + neI x16) = r) : f_L_holds_b224 n x1 x2 x3 x4 x5 x6 x10 x11 K c x8 x9 x13 x14 x15 x16 x17 x18 s0 s1 = r := by
  rw [← h]
  unfold f_L_holds_b224 f_L_holds_b240 f_L_holds_b256 f_L_holds_b270 f_L_holds_b281 f_L_holds_b293 neI
  by_cases a : x15 = -1 <;> by_cases b : x16 = -1 <;> by_cases d : x14 = -1 <;> by_cases e : x2 = 0 <;> (first | simp only [if_pos a] | simp only [if_neg a]) <;> (first | simp only [if_pos b] | simp only [if_neg b]) <;> (first | simp only [if_pos d] | simp only [if_neg d]) <;> (first | simp only [if_pos e] | simp only [if_neg e])
theorem hs_323 (h1 : x17 = -1 ↔ ¬ x3 = 1) (h2 : x3 = 1 → (x17 = 1 ↔ ¬ x14 = x6)) (hb : s1 = s0) (h : f_L_holds_b381 n x1 x2 x3 x4 x5 x6 x10 x11 K c x7 x8 x9 x13 x15 x18 = r) : f_L_holds_b323 n x1 x2 x3 x4 x5 x6 x10 x11 K c x7 x8 x9 x13 x14 x15 x17 x18 s0 s1 = r := by
  unfold f_L_holds_b323 f_L_holds_b337 f_L_holds_b347 f_L_holds_b366 f_L_holds_b378
  refine ip_eq hb ?_
  by_cases hp : x3 = 1
  · refine in_eq (fun q => h1.mp q hp) (ip_eq hp (ip_eq rfl (ip_eq hp ?_)))
    by_cases h7 : x17 = 1
    · exact ip_eq h7 (in_eq ((h2 hp).mp h7) (ip_eq rfl h))
    · exact in_eq h7 (ip_eq (Decidable.not_not.mp (fun q => h7 ((h2 hp).mpr q))) (ip_eq rfl h))
  · exact ip_eq (h1.mpr hp) (in_eq hp (ip_eq rfl (in_eq hp h)))
theorem hs_303 (hs : s1 = s0) (h1 : x17 = -1 ↔ ¬ x3 = 1) (h2 : x3 = 1 → (x17 = 1 ↔ ¬ x14 = x6)) (hb : jsshr x10 x13 &&& (1 : Int32) = if x17 = 0 then 1 else 0) (h : f_L_holds_b381 n x1 x2 x3 x4 x5 x6 x10 x11 K c x7 x8 x9 x13 x15 x18 = r) : f_L_holds_b303 n x1 x2 x3 x4 x5 x6 x10 x11 K c x7 x8 x9 x13 x14 x15 x17 x18 s0 s1 = r := by
  unfold f_L_holds_b303
  refine ip_eq hs ?_
  by_cases h0 : x17 = 0
  · rw [if_pos h0] at hb
    exact ip_eq h0 (hs_323 h1 h2 hb h)
  · rw [if_neg h0] at hb
    exact in_eq h0 (hs_323 h1 h2 hb h)
theorem hs_466 : f_L_holds_b466 n x1 x2 x3 x4 x5 x6 x10 x11 K c x7 x8 x9 x13 = K c x7 x8 x9 1 (x13 + 1) := rfl
end HA
theorem hs_381 {n B j : Nat} {x1 x2 x3 x4 x5 x6 x10 x11 : Int32} {K : CS → Int32 → Int32 → Int32 → Int32 → Int32 → Option (CS × Int32)} {c : CS} {x7 x8 x9 x15 x18 : Int32} {r : Option (CS × Int32)} (W : WI B c)
    (h15 : x15 = -1 ∨ ∃ k, k < szG (c.2.2 0) ∧ x15 = nI k ∧ tlG (c.2.2 0) k = j) (h : f_L_holds_b401 n x1 x2 x3 x4 x5 x6 x10 x11 K c x7 x8 x9 (nI j) x18 = r) : f_L_holds_b381 n x1 x2 x3 x4 x5 x6 x10 x11 K c x7 x8 x9 (nI j) x15 x18 = r := by
  have h28 := W.g.sz28
  unfold f_L_holds_b381
  rcases h15 with e | ⟨k, hk, rfl, et⟩
  · exact ip_eq e h
  · obtain ⟨q0, _⟩ := f_laid W.g hk
    exact in_eq (nI_ne_m1 (by omega)) (bd_eq (laid_v (w := 0) W hk (by omega) q0) (ip_eq (by rw [et]) h))
theorem hs_401 {n B j : Nat} {x1 x2 x3 x4 x5 x6 x11 : Int32} {K : CS → Int32 → Int32 → Int32 → Int32 → Int32 → Option (CS × Int32)} {c : CS} {x7 x8 x9 : Int32} (hn : 28 < n) (W : WI B c) (hj : j < 28) (hb : bestP (c.2.2 0) 28 x11) :
    f_L_holds_b401 n x1 x2 x3 x4 x5 x6 (mskH (rsn (c.2.2 0)) 0 28) x11 K c x7 x8 x9 (nI j) (nI (pp j)) = K c x7 x8 x9 1 (nI (j + 1)) := by
  have e1 : nI j + 1 = nI (j + 1) := nI_1 j
  have hbit : jsshr (mskH (rsn (c.2.2 0)) 0 28) (nI j) &&& (1 : Int32) = if rsn (c.2.2 0) j = 0 then 1 else 0 := by
    rw [jsr_bit _ (by omega), bt_msk _ _ 28 (by omega) j (by omega)]
    by_cases h0 : rsn (c.2.2 0) j = 0
    · rw [if_pos h0, if_pos (decide_eq_true ⟨hj, h0⟩)]
    · rw [if_neg h0, if_neg (by simp [h0])]
  have fin : f_L_holds_b466 n x1 x2 x3 x4 x5 x6 (mskH (rsn (c.2.2 0)) 0 28) x11 K c x7 x8 x9 (nI j) = K c x7 x8 x9 1 (nI (j + 1)) := by
    rw [hs_466, e1]
  unfold f_L_holds_b401
  by_cases h0 : rsn (c.2.2 0) j = 0
  · rw [if_pos h0] at hbit
    rcases hb with ⟨_, hb⟩ | ⟨b, hb28, _, rfl, hb0, hb⟩
    · exact absurd h0 (hb j hj)
    · have hj6 := tl hj
      have hb6 := tl hb28
      have hpj : pp j = lo j + hi j := rfl
      have hpb : pp b = lo b + hi b := rfl
      obtain ⟨u0, u1, _⟩ := f_tile (n := n) hn W.g hb28
      have t0 := tile_v (n := n) (c := c) (w := 0) (z0 := 0) hb28 (by omega) u0
      have t1 := tile_v (n := n) (c := c) (w := 1) (z0 := 0) hb28 (by omega) u1
      refine in_eq (by rw [hbit]; decide) (bd_eq t0 (bd_eq t1 ?_))
      rcases hb j hj h0 with hlt | ⟨heq, hle⟩
      · refine ip_eq ?_ fin
        show nI (pp j) < nI (lo b) + nI (hi b)
        rw [nI_add]
        exact nI_lt (by omega) (by omega)
      · refine in_eq ?_ (bd_eq t0 (bd_eq t1 (ip_eq ?_ (in_eq (nI_nlt hle (by omega)) fin))))
        · show ¬ nI (pp j) < nI (lo b) + nI (hi b)
          rw [nI_add]
          exact nI_nlt (by omega) (by omega)
        · show nI (pp j) = nI (lo b) + nI (hi b)
          rw [nI_add, heq]
          rfl
  · rw [if_neg h0] at hbit
    exact ip_eq hbit fin
/-- one place for each tile, none before the first round -/
theorem one_place {G : GS} {B j : Nat} (V : VG G B) (X : XG G B) (hj : j < 28) {r3 r4 : Int32} (h3 : (r3 = -1 ∧ ∀ k, k < szG G → ¬ tlG G k = j) ∨ ∃ k, k < szG G ∧ r3 = nI k ∧ tlG G k = j) (h4 : (r4 = -1 ∧ ∀ i, hbG G ≤ i → i < 28 → ¬ G.2.2 0 i = nI j) ∨ ∃ i, hbG G ≤ i ∧ i < 28 ∧ G.2.2 0 i = nI j ∧ r4 = nI (i - hbG G)) :
    (neI (G.2.2 1 j) + neI r3) + neI r4 = (if G.1 0 = 0 then 0 else 1) ∧ (r3 = -1 ↔ qT G j = false) ∧ (r4 = -1 ↔ qW G j = false) := by
  have h28 := V.sz28
  have c3 : r3 = -1 ↔ qT G j = false := by
    unfold qT
    rw [decide_eq_false_iff_not]
    rcases h3 with ⟨e, h3⟩ | ⟨k, hk, e, h3⟩
    · exact ⟨fun _ ⟨k, q1, q2⟩ => h3 k q1 q2, fun _ => e⟩
    · exact ⟨fun q => absurd (e.symm.trans q) (nI_ne_m1 (by omega)), fun q => absurd ⟨k, hk, h3⟩ q⟩
  have c4 : r4 = -1 ↔ qW G j = false := by
    unfold qW
    rw [decide_eq_false_iff_not]
    rcases h4 with ⟨e, h4⟩ | ⟨i, q1, q2, q3, e⟩
    · exact ⟨fun _ ⟨i, q1, q2, q3⟩ => h4 i q1 q2 q3, fun _ => e⟩
    · exact ⟨fun q => absurd (e.symm.trans q) (nI_ne_m1 (by omega)), fun q => absurd ⟨i, q1, q2, q3⟩ q⟩
  refine ⟨?_, c3, c4⟩
  have noT : ¬ G.2.2 1 j = -1 → r3 = -1 := fun h => by
    rcases h3 with ⟨e, _⟩ | ⟨k, hk, _, et⟩
    · exact e
    · exfalso
      apply h
      rw [← et]
      exact (V.ti k hk).2.2
  have heap : ∀ i, hbG G ≤ i → i < 28 → G.2.2 0 i = nI j → G.2.2 1 j = -1 ∧ r3 = -1 := fun i q1 q2 q3 => by
    obtain ⟨t, ht, e1, e2, e3⟩ := V.he i q1 q2
    have et : t = j := by
      rw [e1] at q3
      exact nI_inj (by omega) (by omega) q3
    subst et
    refine ⟨e2, ?_⟩
    rcases h3 with ⟨e, _⟩ | ⟨k, hk, _, et⟩
    · exact e
    · exact absurd et (e3 k hk)
  unfold neI
  by_cases hr : G.1 0 = 0
  · obtain ⟨r1, r2, r5⟩ := X.r0 hr
    have e3 : r3 = -1 := by
      rcases h3 with ⟨e, _⟩ | ⟨k, hk, _⟩
      · exact e
      · omega
    have e4 : r4 = -1 := by
      rcases h4 with ⟨e, _⟩ | ⟨i, q1, q2, _⟩
      · exact e
      · omega
    rw [if_pos (r5 j hj), if_pos e3, if_pos e4, if_pos hr]
    decide
  · rw [if_neg hr]
    by_cases hh : G.2.2 1 j = -1
    · rcases X.ex hr j hj with q | ⟨k, q1, q2⟩ | ⟨i, q1, q2, q3⟩
      · exact absurd hh q
      · have e3 : ¬ r3 = -1 := by
          rcases h3 with ⟨_, h⟩ | ⟨k', hk', e, _⟩
          · exact absurd q2 (h k q1)
          · rw [e]
            exact nI_ne_m1 (by omega)
        have e4 : r4 = -1 := by
          rcases h4 with ⟨e, _⟩ | ⟨i, p1, p2, p3, _⟩
          · exact e
          · exact absurd (heap i p1 p2 p3).2 e3
        rw [if_pos hh, if_neg e3, if_pos e4]
        decide
      · have e3 := (heap i q1 q2 q3).2
        have e4 : ¬ r4 = -1 := by
          rcases h4 with ⟨_, h⟩ | ⟨i', p1, p2, p3, e⟩
          · exact absurd q3 (h i q1 q2)
          · rw [e]
            exact nI_ne_m1 (by omega)
        rw [if_pos hh, if_pos e3, if_neg e4]
        decide
    · have e3 := noT hh
      have e4 : r4 = -1 := by
        rcases h4 with ⟨e, _⟩ | ⟨i, p1, p2, p3, _⟩
        · exact e
        · exact absurd (heap i p1 p2 p3).1 hh
      rw [if_neg hh, if_pos e3, if_pos e4]
      decide
theorem hold_tile {n B j : Nat} (hn : 28 < n) {c : CS} (W : WI B c) (hj : j < 28) {x1 x4 x5 x11 : Int32} (hb : bestP (c.2.2 0) 28 x11) (K : CS → Int32 → Int32 → Int32 → Int32 → Int32 → Option (CS × Int32)) :
    f_L_holds_h133 n x1 ((c.2.2 0).1 0) ((c.2.2 0).1 3) x4 x5 (if (c.2.2 0).1 3 = 1 then (c.2.2 0).1 5 else -1) (mskH (rsn (c.2.2 0)) 0 28) x11 K c (nI (cB (qH (c.2.2 0)) j)) (nI (cB (qT (c.2.2 0)) j)) (nI (cB (qW (c.2.2 0)) j)) 1 (nI j) = K c (nI (cB (qH (c.2.2 0)) (j + 1))) (nI (cB (qT (c.2.2 0)) (j + 1))) (nI (cB (qW (c.2.2 0)) (j + 1))) 1 (nI (j + 1)) := by
  have h28 := W.g.sz28
  obtain ⟨u0, u1, u2, ⟨r3, u3, h3⟩, ⟨r4, u4, h4⟩⟩ := f_tile (n := n) hn W.g hj
  obtain ⟨o1, o3, o4⟩ := one_place W.g W.x hj h3 h4
  have t0 := tile_v (n := n) (c := c) (w := 0) (z0 := 0) hj (by omega) u0
  have t1 := tile_v (n := n) (c := c) (w := 1) (z0 := 0) hj (by omega) u1
  have t2 := tile_v (n := n) (c := c) (w := 2) (z0 := 0) hj (by omega) u2
  have t3 := tile_v (n := n) (c := c) (w := 3) (z0 := 0) hj (by omega) u3
  have t4 := tile_v (n := n) (c := c) (w := 4) (z0 := 0) hj (by omega) u4
  have hle : ¬ (28 : Int32) ≤ nI j := nI_ge (a := j) (b := 28) hj (by omega)
  have oH : (c.2.2 0).2.2 1 j = -1 ↔ qH (c.2.2 0) j = false := by
    unfold qH
    by_cases e : (c.2.2 0).2.2 1 j = -1
    · simp [e]
    · simp [e]
  obtain ⟨f1, f2⟩ := f_reason W.g hj
  have hbit : jsshr (mskH (rsn (c.2.2 0)) 0 28) (nI j) &&& (1 : Int32) = if rsn (c.2.2 0) j = 0 then 1 else 0 := by
    rw [jsr_bit _ (by omega), bt_msk _ _ 28 (by omega) j (by omega)]
    by_cases h0 : rsn (c.2.2 0) j = 0
    · rw [if_pos h0, if_pos (decide_eq_true ⟨hj, h0⟩)]
    · rw [if_neg h0, if_neg (by simp [h0])]
  have core : ∀ s0 s1 : Int32, s1 + s0 = nI (cB (qH (c.2.2 0)) (j + 1)) → f_L_holds_b224 n x1 ((c.2.2 0).1 0) ((c.2.2 0).1 3) x4 x5 (if (c.2.2 0).1 3 = 1 then (c.2.2 0).1 5 else -1) (mskH (rsn (c.2.2 0)) 0 28) x11 K c (nI (cB (qT (c.2.2 0)) j)) (nI (cB (qW (c.2.2 0)) j)) (nI j) ((c.2.2 0).2.2 1 j) r3 r4 (rsn (c.2.2 0) j) (nI (lo j) + nI (hi j)) s0 s1 = K c (nI (cB (qH (c.2.2 0)) (j + 1))) (nI (cB (qT (c.2.2 0)) (j + 1))) (nI (cB (qW (c.2.2 0)) (j + 1))) 1 (nI (j + 1)) := fun s0 s1 hs => by
    refine hs_224 (hs_303 o1 (rsn_m1 f2) (fun hp => ?_) hbit (hs_381 W ?_ ?_))
    · rw [if_pos hp]
      exact rsn_1 f2 hp
    · rcases h3 with ⟨e, _⟩ | h3
      · exact Or.inl e
      · exact Or.inr h3
    · rw [nI_add, hs, cnt_step o3, cnt_step o4]
      exact hs_401 hn W hj hb
  have hcs := cnt_step (q := qH (c.2.2 0)) (j := j) oH
  unfold f_L_holds_h133
  refine in_eq hle (in_eq (by decide) (bd_eq t2 (bd_eq t3 (bd_eq t4 (bd_eq (why_v W hj) (bd_eq t0 (bd_eq t1 ?_)))))))
  by_cases e : (c.2.2 0).2.2 1 j = -1
  · refine ip_eq e (core 0 _ ?_)
    rw [← hcs]
    unfold neI
    rw [if_pos e]
  · refine in_eq e (core 1 _ ?_)
    rw [← hcs]
    unfold neI
    rw [if_neg e]
theorem hold_tiles {n B : Nat} (hn : 28 < n) {c : CS} (W : WI B c) {x1 x4 x5 x11 : Int32} (hb : bestP (c.2.2 0) 28 x11) : ∀ d j m, j + d = 28 → d < m →
    lo6 (f_L_holds_h133 n x1 ((c.2.2 0).1 0) ((c.2.2 0).1 3) x4 x5 (if (c.2.2 0).1 3 = 1 then (c.2.2 0).1 5 else -1) (mskH (rsn (c.2.2 0)) 0 28) x11) m c (nI (cB (qH (c.2.2 0)) j)) (nI (cB (qT (c.2.2 0)) j)) (nI (cB (qW (c.2.2 0)) j)) 1 (nI j) = f_L_holds_b479 n x1 c ((c.2.2 0).1 3) x4 x5 (if (c.2.2 0).1 3 = 1 then (c.2.2 0).1 5 else -1) (nI (cB (qH (c.2.2 0)) 28)) (nI (cB (qT (c.2.2 0)) 28)) (nI (cB (qW (c.2.2 0)) 28)) (mskH (rsn (c.2.2 0)) 0 28) x11 1 := by
  intro d
  induction d with
  | zero =>
    intro j m h1 h2
    obtain ⟨m', rfl⟩ : ∃ k, m = k + 1 := ⟨m - 1, by omega⟩
    have e : j = 28 := by omega
    subst e
    rw [lo6_s]
    exact ip_eq (by decide) rfl
  | succ d ih =>
    intro j m h1 h2
    obtain ⟨m', rfl⟩ : ∃ k, m = k + 1 := ⟨m - 1, by omega⟩
    rw [lo6_s, hold_tile hn W (by omega) hb]
    exact ih (j + 1) m' (by omega) (by omega)
