/-! PURE LEVEL: a tile is laid; the game's side -/
theorem php : ∀ (n : Nat) (f : Nat → Nat), (∀ k, k < n + 1 → f k < n) → ∃ j k, j < k ∧ k < n + 1 ∧ f j = f k := by
  intro n
  induction n with
  | zero =>
    intro f h
    have := h 0 (by omega)
    omega
  | succ n ih =>
    intro f h
    by_cases e : ∃ j, j < n + 1 ∧ f j = f (n + 1)
    · obtain ⟨j, h1, h2⟩ := e
      exact ⟨j, n + 1, h1, by omega, h2⟩
    · have h9 := h (n + 1) (by omega)
      have hne : ∀ k, k < n + 1 → f k ≠ f (n + 1) := fun k hk q => e ⟨k, hk, q⟩
      obtain ⟨j, k, h1, h2, h3⟩ := ih (fun k => if f (n + 1) < f k then f k - 1 else f k) (fun k hk => by
        have h4 := h k (by omega)
        have h5 := hne k hk
        show (if f (n + 1) < f k then f k - 1 else f k) < n
        split <;> omega)
      have h4 := hne j (by omega)
      have h5 := hne k (by omega)
      refine ⟨j, k, h1, by omega, ?_⟩
      split at h3 <;> split at h3 <;> omega
theorem size_lt {G : GS} {B : Nat} (V : VG G B) {t : Nat} (ht : t < 28) (hh : G.2.2 1 t ≠ -1) : szG G < 28 := by
  have h28 := V.sz28
  rcases Nat.lt_or_ge (szG G) 28 with h | h
  · exact h
  · have hz : szG G = 28 := by omega
    obtain ⟨j, k, h1, h2, h3⟩ := php 28 (fun k => if k < 28 then tlG G k else t) (fun k hk => by
      show (if k < 28 then tlG G k else t) < 28
      split
      · exact (V.ti k (by omega)).1
      · exact ht)
    exfalso
    rw [if_pos (by omega)] at h3
    by_cases hk : k < 28
    · rw [if_pos hk] at h3
      have := V.td j k (by omega) (by omega) h3
      omega
    · rw [if_neg hk] at h3
      apply hh
      rw [← h3]
      exact (V.ti j (by omega)).2.2
def covr (c : Nat → Int32) (a b : Nat) : Nat → Int32 := upd c b (c b ||| jshl 1 (nI a))
theorem covr_bit (c : Nat → Int32) {a b x y : Nat} (ha : a < 25) (hx : x < 25) : (¬ (jushr (covr c a b y) (nI x) &&& 1) = 0) ↔ ((¬ (jushr (c y) (nI x) &&& 1) = 0) ∨ (x = a ∧ y = b)) := by
  unfold covr
  by_cases e : y = b
  · subst e
    rw [upd_eq rfl, bit_bt _ (by omega), bit_bt _ (by omega), bt_set _ (by omega) (by omega)]
    cases bt (c y) x <;> simp
  · rw [upd_ne e]
    exact ⟨fun q => Or.inl q, fun q => q.elim id (fun z => absurd z.2 e)⟩
theorem f_cover_e {G : GS} {x y : Int32} {a b : Nat} (hx : x = nI a) (hy : y = nI b) (ha : a < 25) (hb : b < 25) : f_X2_cover G x y = some (gA G 9 (covr (G.2.2 9) a b)) := by
  subst hx hy
  unfold f_X2_cover f_X5_isCell covr
  simp (disch := omega) only [nI_leI, nI_ltI, nI_eq, nI_clamp, nI_add, nI_mul, nI_sub, nI_ne_m1, nI_ne_m1', chk_n, if_pos, if_neg, if_true, if_false, reduceCtorEq, Nat.add_zero, Nat.zero_add, not_true_eq_false, not_false_eq_true, Nat.not_lt_zero, Nat.zero_le, Option.bind_some, eq_self, e10, e01, em0, em1, e21, ckL_0, ckL_1, ckL_2, ckL_3, ckL_4, ckL_5, ckL_6, ckL_7, ckL_8, ckL_9, ckL_10, ckL_11, ckL_12, leL_0, geL_0, ltL_0, gtL_0, eqL_0, adL_0, muL_0, suL_0, slL_0, alL_0, tnL_0, leL_1, geL_1, ltL_1, gtL_1, eqL_1, adL_1, muL_1, suL_1, slL_1, alL_1, tnL_1, leL_2, geL_2, ltL_2, gtL_2, eqL_2, adL_2, muL_2, suL_2, slL_2, alL_2, tnL_2, leL_3, geL_3, ltL_3, gtL_3, eqL_3, adL_3, muL_3, suL_3, slL_3, alL_3, tnL_3, leL_4, geL_4, ltL_4, gtL_4, eqL_4, adL_4, muL_4, suL_4, slL_4, alL_4, tnL_4, leL_5, geL_5, ltL_5, gtL_5, eqL_5, adL_5, muL_5, suL_5, slL_5, alL_5, tnL_5, leL_6, geL_6, ltL_6, gtL_6, eqL_6, adL_6, muL_6, suL_6, slL_6, alL_6, tnL_6, leL_7, geL_7, ltL_7, gtL_7, eqL_7, adL_7, muL_7, suL_7, slL_7, alL_7, tnL_7, leL_8, geL_8, ltL_8, gtL_8, eqL_8, adL_8, muL_8, suL_8, slL_8, alL_8, tnL_8, leL_9, geL_9, ltL_9, gtL_9, eqL_9, adL_9, muL_9, suL_9, slL_9, alL_9, tnL_9, leL_10, geL_10, ltL_10, gtL_10, eqL_10, adL_10, muL_10, suL_10, slL_10, alL_10, tnL_10, leL_11, geL_11, ltL_11, gtL_11, eqL_11, adL_11, muL_11, suL_11, slL_11, alL_11, tnL_11, leL_12, geL_12, ltL_12, gtL_12, eqL_12, adL_12, muL_12, suL_12, slL_12, alL_12, tnL_12, leL_13, geL_13, ltL_13, gtL_13, eqL_13, adL_13, muL_13, suL_13, slL_13, alL_13, tnL_13, leL_14, geL_14, ltL_14, gtL_14, eqL_14, adL_14, muL_14, suL_14, slL_14, alL_14, tnL_14, leL_15, geL_15, ltL_15, gtL_15, eqL_15, adL_15, muL_15, suL_15, slL_15, alL_15, tnL_15, leL_16, geL_16, ltL_16, gtL_16, eqL_16, adL_16, muL_16, suL_16, slL_16, alL_16, tnL_16, leL_17, geL_17, ltL_17, gtL_17, eqL_17, adL_17, muL_17, suL_17, slL_17, alL_17, tnL_17, leL_21, geL_21, ltL_21, gtL_21, eqL_21, adL_21, muL_21, suL_21, slL_21, alL_21, tnL_21, leL_24, geL_24, ltL_24, gtL_24, eqL_24, adL_24, muL_24, suL_24, slL_24, alL_24, tnL_24, leL_25, geL_25, ltL_25, gtL_25, eqL_25, adL_25, muL_25, suL_25, slL_25, alL_25, tnL_25, leL_26, geL_26, ltL_26, gtL_26, eqL_26, adL_26, muL_26, suL_26, slL_26, alL_26, tnL_26, leL_27, geL_27, ltL_27, gtL_27, eqL_27, adL_27, muL_27, suL_27, slL_27, alL_27, tnL_27, leL_28, geL_28, ltL_28, gtL_28, eqL_28, adL_28, muL_28, suL_28, slL_28, alL_28, tnL_28, leL_48, geL_48, ltL_48, gtL_48, eqL_48, adL_48, muL_48, suL_48, slL_48, alL_48, tnL_48, leL_49, geL_49, ltL_49, gtL_49, eqL_49, adL_49, muL_49, suL_49, slL_49, alL_49, tnL_49, leL_63, geL_63, ltL_63, gtL_63, eqL_63, adL_63, muL_63, suL_63, slL_63, alL_63, tnL_63, leL_77, geL_77, ltL_77, gtL_77, eqL_77, adL_77, muL_77, suL_77, slL_77, alL_77, tnL_77, leL_99, geL_99, ltL_99, gtL_99, eqL_99, adL_99, muL_99, suL_99, slL_99, alL_99, tnL_99, leL_100, geL_100, ltL_100, gtL_100, eqL_100, adL_100, muL_100, suL_100, slL_100, alL_100, tnL_100, leL_119, geL_119, ltL_119, gtL_119, eqL_119, adL_119, muL_119, suL_119, slL_119, alL_119, tnL_119, leL_120, geL_120, ltL_120, gtL_120, eqL_120, adL_120, muL_120, suL_120, slL_120, alL_120, tnL_120, leL_200, geL_200, ltL_200, gtL_200, eqL_200, adL_200, muL_200, suL_200, slL_200, alL_200, tnL_200, leL_217, geL_217, ltL_217, gtL_217, eqL_217, adL_217, muL_217, suL_217, slL_217, alL_217, tnL_217, leL_255, geL_255, ltL_255, gtL_255, eqL_255, adL_255, muL_255, suL_255, slL_255, alL_255, tnL_255, ckT, jdiv_2, jrem_2, ckz_2, ckz_3, ckz_4, ckz_5, ckz_10, ckz_14, ckz_16, ckz_100, ckz_1000, ckz_L, stt]
def add6 (G : GS) (t : Nat) (F : Int32) (a b a' b' : Nat) : GS :=
  gL (gA (gA (gL (gA (gA (gA (gA (gA G 4 (upd (G.2.2 4) (szG G) (nI t))) 5 (upd (G.2.2 5) (szG G) (G.2.1 3))) 6 (upd (G.2.2 6) (szG G) (G.2.1 4))) 7 (upd (G.2.2 7) (szG G) (G.2.1 2))) 8 (upd (G.2.2 8) (szG G) F)) 0 (G.2.1 0 + 1)) 9 (covr (G.2.2 9) a b)) 9 (covr (covr (G.2.2 9) a b) a' b')) 1 (nI (lo t + hi t) - F)
def add1 (G : GS) (t : Nat) (F : Int32) (a b a' b' : Nat) : GS := gL (gL (add6 G t F a b a' b') 3 (G.2.1 3 + sX (G.2.1 2) + sX (G.2.1 2))) 4 (G.2.1 4 + sY (G.2.1 2) + sY (G.2.1 2))
def add2 (G : GS) (t : Nat) (F W : Int32) (a b a' b' : Nat) : GS := gL (gL (gL (add6 G t F a b a' b') 2 W) 3 (G.2.1 3 + sX (G.2.1 2) + sX W)) 4 (G.2.1 4 + sY (G.2.1 2) + sY W)
theorem f_add_b35 {G : GS} {t : Nat} (ht : t < 28) (lf F : Int32) (hz : inB (G.2.1 0) 28) {a b a' b' : Nat} (hX : G.2.1 3 = nI a) (hY : G.2.1 4 = nI b) (hX2 : G.2.1 3 + sX (G.2.1 2) = nI a') (hY2 : G.2.1 4 + sY (G.2.1 2) = nI b') (ha : a < 25) (hb : b < 25) (ha' : a' < 25) (hb' : b' < 25) :
    f_X2_add_b35 (nI t) lf G F = some (if lo t = hi t then (if lf = 0 then add2 G t F ((G.2.1 2 + 1) &&& 3) a b a' b' else add2 G t F ((G.2.1 2 + 3) &&& 3) a b a' b') else add1 G t F a b a' b') := by
  have h6 := tl ht
  unfold f_X2_add_b35
  refine bd_eq (f_stepX _) ?_
  refine bd_eq (f_stepY _) ?_
  refine ck_eq hz ?_
  refine ck_eq hz ?_
  unfold stt
  refine ck_eq hz ?_
  refine ck_eq hz ?_
  refine ck_eq hz ?_
  refine bd_eq (f_cover_e (show G.2.1 3 = nI a from hX) hY ha hb) ?_
  refine bd_eq (f_cover_e (show G.2.1 3 + sX (G.2.1 2) = nI a' from hX2) hY2 ha' hb') ?_
  refine bd_eq (f_pipsOn_n ht) ?_
  refine bd_eq (f_lowOf_n ht) ?_
  refine bd_eq (f_highOf_n ht) ?_
  by_cases hd : lo t = hi t
  · refine ip_eq (by rw [hd]) ?_
    refine Eq.trans ?_ (congrArg some (if_pos hd).symm)
    by_cases hl : lf = 0
    · refine ip_eq hl ?_
      unfold f_X2_add_b188 f_X2_add_b194
      refine bd_eq (f_stepX _) ?_
      refine bd_eq (f_stepY _) ?_
      exact congrArg some (if_pos hl).symm
    · refine in_eq hl ?_
      unfold f_X2_add_b188 f_X2_add_b194
      refine bd_eq (f_stepX _) ?_
      refine bd_eq (f_stepY _) ?_
      exact congrArg some (if_neg hl).symm
  · refine in_eq (fun q => hd (nI_inj (by omega) (by omega) q)) ?_
    refine Eq.trans ?_ (congrArg some (if_neg hd).symm)
    unfold f_X2_add_b194
    refine bd_eq (f_stepX _) ?_
    refine bd_eq (f_stepY _) ?_
    rfl
