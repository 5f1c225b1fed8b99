/-! PURE LEVEL: tiles, ways -/
def fstT (a : Nat) : Nat := 7 * a - a * (a - 1) / 2
theorem fstT_all : (List.range 28).all (fun t => (List.range 7).all (fun a => decide ((a < lo t → 7 - a ≤ t - fstT a ∧ t - fstT a - (7 - a) = t - fstT (a + 1) ∧ fstT a ≤ t) ∧ (a = lo t → t - fstT a < 7 - a ∧ fstT a ≤ t)))) = true := by decide +kernel
theorem fstT_ok {t a : Nat} (h : t < 28) (ha : a < 7) : (a < lo t → 7 - a ≤ t - fstT a ∧ t - fstT a - (7 - a) = t - fstT (a + 1) ∧ fstT a ≤ t) ∧ (a = lo t → t - fstT a < 7 - a ∧ fstT a ≤ t) := of_decide_eq_true (List.all_eq_true.mp (List.all_eq_true.mp fstT_all t (List.mem_range.mpr h)) a (List.mem_range.mpr ha))
theorem lesser_run {m : Nat} {x0 : Int32} {t : Nat} (h : t < 28) : ∀ d a n, d + a = lo t → d < n → lo2 (f_X6_lesser_h4 m x0) n (nI a) (nI (t - fstT a)) = some (nI (lo t)) := by
  have h6 := tl h
  intro d
  induction d with
  | zero =>
    intro a n h1 h2
    cases n with
    | zero => omega
    | succ n =>
      obtain ⟨h3, h4⟩ := (fstT_ok h (a := a) (by omega)).2 (by omega)
      rw [lo2_s]
      unfold f_X6_lesser_h4
      simp (disch := omega) only [nI_leI, nI_ltI, nI_eq, nI_clamp, nI_add, nI_mul, nI_sub, nI_ne_m1, nI_ne_m1', chk_n, if_pos, if_neg, if_true, if_false, reduceCtorEq, Nat.add_zero, Nat.zero_add, not_true_eq_false, not_false_eq_true, Nat.not_lt_zero, Nat.zero_le, Option.bind_some, eq_self, e10, e01, em0, em1, e21, ckL_0, ckL_1, ckL_2, ckL_3, ckL_4, ckL_5, ckL_6, ckL_7, ckL_8, ckL_9, ckL_10, ckL_11, ckL_12, leL_0, geL_0, ltL_0, gtL_0, eqL_0, adL_0, muL_0, suL_0, slL_0, alL_0, tnL_0, leL_1, geL_1, ltL_1, gtL_1, eqL_1, adL_1, muL_1, suL_1, slL_1, alL_1, tnL_1, leL_2, geL_2, ltL_2, gtL_2, eqL_2, adL_2, muL_2, suL_2, slL_2, alL_2, tnL_2, leL_3, geL_3, ltL_3, gtL_3, eqL_3, adL_3, muL_3, suL_3, slL_3, alL_3, tnL_3, leL_4, geL_4, ltL_4, gtL_4, eqL_4, adL_4, muL_4, suL_4, slL_4, alL_4, tnL_4, leL_5, geL_5, ltL_5, gtL_5, eqL_5, adL_5, muL_5, suL_5, slL_5, alL_5, tnL_5, leL_6, geL_6, ltL_6, gtL_6, eqL_6, adL_6, muL_6, suL_6, slL_6, alL_6, tnL_6, leL_7, geL_7, ltL_7, gtL_7, eqL_7, adL_7, muL_7, suL_7, slL_7, alL_7, tnL_7, leL_8, geL_8, ltL_8, gtL_8, eqL_8, adL_8, muL_8, suL_8, slL_8, alL_8, tnL_8, leL_9, geL_9, ltL_9, gtL_9, eqL_9, adL_9, muL_9, suL_9, slL_9, alL_9, tnL_9, leL_10, geL_10, ltL_10, gtL_10, eqL_10, adL_10, muL_10, suL_10, slL_10, alL_10, tnL_10, leL_11, geL_11, ltL_11, gtL_11, eqL_11, adL_11, muL_11, suL_11, slL_11, alL_11, tnL_11, leL_12, geL_12, ltL_12, gtL_12, eqL_12, adL_12, muL_12, suL_12, slL_12, alL_12, tnL_12, leL_13, geL_13, ltL_13, gtL_13, eqL_13, adL_13, muL_13, suL_13, slL_13, alL_13, tnL_13, leL_14, geL_14, ltL_14, gtL_14, eqL_14, adL_14, muL_14, suL_14, slL_14, alL_14, tnL_14, leL_15, geL_15, ltL_15, gtL_15, eqL_15, adL_15, muL_15, suL_15, slL_15, alL_15, tnL_15, leL_16, geL_16, ltL_16, gtL_16, eqL_16, adL_16, muL_16, suL_16, slL_16, alL_16, tnL_16, leL_17, geL_17, ltL_17, gtL_17, eqL_17, adL_17, muL_17, suL_17, slL_17, alL_17, tnL_17, leL_21, geL_21, ltL_21, gtL_21, eqL_21, adL_21, muL_21, suL_21, slL_21, alL_21, tnL_21, leL_24, geL_24, ltL_24, gtL_24, eqL_24, adL_24, muL_24, suL_24, slL_24, alL_24, tnL_24, leL_25, geL_25, ltL_25, gtL_25, eqL_25, adL_25, muL_25, suL_25, slL_25, alL_25, tnL_25, leL_26, geL_26, ltL_26, gtL_26, eqL_26, adL_26, muL_26, suL_26, slL_26, alL_26, tnL_26, leL_27, geL_27, ltL_27, gtL_27, eqL_27, adL_27, muL_27, suL_27, slL_27, alL_27, tnL_27, leL_28, geL_28, ltL_28, gtL_28, eqL_28, adL_28, muL_28, suL_28, slL_28, alL_28, tnL_28, leL_48, geL_48, ltL_48, gtL_48, eqL_48, adL_48, muL_48, suL_48, slL_48, alL_48, tnL_48, leL_49, geL_49, ltL_49, gtL_49, eqL_49, adL_49, muL_49, suL_49, slL_49, alL_49, tnL_49, leL_63, geL_63, ltL_63, gtL_63, eqL_63, adL_63, muL_63, suL_63, slL_63, alL_63, tnL_63, leL_77, geL_77, ltL_77, gtL_77, eqL_77, adL_77, muL_77, suL_77, slL_77, alL_77, tnL_77, leL_99, geL_99, ltL_99, gtL_99, eqL_99, adL_99, muL_99, suL_99, slL_99, alL_99, tnL_99, leL_100, geL_100, ltL_100, gtL_100, eqL_100, adL_100, muL_100, suL_100, slL_100, alL_100, tnL_100, leL_119, geL_119, ltL_119, gtL_119, eqL_119, adL_119, muL_119, suL_119, slL_119, alL_119, tnL_119, leL_120, geL_120, ltL_120, gtL_120, eqL_120, adL_120, muL_120, suL_120, slL_120, alL_120, tnL_120, leL_200, geL_200, ltL_200, gtL_200, eqL_200, adL_200, muL_200, suL_200, slL_200, alL_200, tnL_200, leL_217, geL_217, ltL_217, gtL_217, eqL_217, adL_217, muL_217, suL_217, slL_217, alL_217, tnL_217, leL_255, geL_255, ltL_255, gtL_255, eqL_255, adL_255, muL_255, suL_255, slL_255, alL_255, tnL_255]
      rw [show a = lo t by omega]
  | succ d ih =>
    intro a n h1 h2
    cases n with
    | zero => omega
    | succ n =>
      obtain ⟨h3, h4, h5⟩ := (fstT_ok h (a := a) (by omega)).1 (by omega)
      rw [lo2_s]
      unfold f_X6_lesser_h4
      simp (disch := omega) only [nI_leI, nI_ltI, nI_eq, nI_clamp, nI_add, nI_mul, nI_sub, nI_ne_m1, nI_ne_m1', chk_n, if_pos, if_neg, if_true, if_false, reduceCtorEq, Nat.add_zero, Nat.zero_add, not_true_eq_false, not_false_eq_true, Nat.not_lt_zero, Nat.zero_le, Option.bind_some, eq_self, e10, e01, em0, em1, e21, ckL_0, ckL_1, ckL_2, ckL_3, ckL_4, ckL_5, ckL_6, ckL_7, ckL_8, ckL_9, ckL_10, ckL_11, ckL_12, leL_0, geL_0, ltL_0, gtL_0, eqL_0, adL_0, muL_0, suL_0, slL_0, alL_0, tnL_0, leL_1, geL_1, ltL_1, gtL_1, eqL_1, adL_1, muL_1, suL_1, slL_1, alL_1, tnL_1, leL_2, geL_2, ltL_2, gtL_2, eqL_2, adL_2, muL_2, suL_2, slL_2, alL_2, tnL_2, leL_3, geL_3, ltL_3, gtL_3, eqL_3, adL_3, muL_3, suL_3, slL_3, alL_3, tnL_3, leL_4, geL_4, ltL_4, gtL_4, eqL_4, adL_4, muL_4, suL_4, slL_4, alL_4, tnL_4, leL_5, geL_5, ltL_5, gtL_5, eqL_5, adL_5, muL_5, suL_5, slL_5, alL_5, tnL_5, leL_6, geL_6, ltL_6, gtL_6, eqL_6, adL_6, muL_6, suL_6, slL_6, alL_6, tnL_6, leL_7, geL_7, ltL_7, gtL_7, eqL_7, adL_7, muL_7, suL_7, slL_7, alL_7, tnL_7, leL_8, geL_8, ltL_8, gtL_8, eqL_8, adL_8, muL_8, suL_8, slL_8, alL_8, tnL_8, leL_9, geL_9, ltL_9, gtL_9, eqL_9, adL_9, muL_9, suL_9, slL_9, alL_9, tnL_9, leL_10, geL_10, ltL_10, gtL_10, eqL_10, adL_10, muL_10, suL_10, slL_10, alL_10, tnL_10, leL_11, geL_11, ltL_11, gtL_11, eqL_11, adL_11, muL_11, suL_11, slL_11, alL_11, tnL_11, leL_12, geL_12, ltL_12, gtL_12, eqL_12, adL_12, muL_12, suL_12, slL_12, alL_12, tnL_12, leL_13, geL_13, ltL_13, gtL_13, eqL_13, adL_13, muL_13, suL_13, slL_13, alL_13, tnL_13, leL_14, geL_14, ltL_14, gtL_14, eqL_14, adL_14, muL_14, suL_14, slL_14, alL_14, tnL_14, leL_15, geL_15, ltL_15, gtL_15, eqL_15, adL_15, muL_15, suL_15, slL_15, alL_15, tnL_15, leL_16, geL_16, ltL_16, gtL_16, eqL_16, adL_16, muL_16, suL_16, slL_16, alL_16, tnL_16, leL_17, geL_17, ltL_17, gtL_17, eqL_17, adL_17, muL_17, suL_17, slL_17, alL_17, tnL_17, leL_21, geL_21, ltL_21, gtL_21, eqL_21, adL_21, muL_21, suL_21, slL_21, alL_21, tnL_21, leL_24, geL_24, ltL_24, gtL_24, eqL_24, adL_24, muL_24, suL_24, slL_24, alL_24, tnL_24, leL_25, geL_25, ltL_25, gtL_25, eqL_25, adL_25, muL_25, suL_25, slL_25, alL_25, tnL_25, leL_26, geL_26, ltL_26, gtL_26, eqL_26, adL_26, muL_26, suL_26, slL_26, alL_26, tnL_26, leL_27, geL_27, ltL_27, gtL_27, eqL_27, adL_27, muL_27, suL_27, slL_27, alL_27, tnL_27, leL_28, geL_28, ltL_28, gtL_28, eqL_28, adL_28, muL_28, suL_28, slL_28, alL_28, tnL_28, leL_48, geL_48, ltL_48, gtL_48, eqL_48, adL_48, muL_48, suL_48, slL_48, alL_48, tnL_48, leL_49, geL_49, ltL_49, gtL_49, eqL_49, adL_49, muL_49, suL_49, slL_49, alL_49, tnL_49, leL_63, geL_63, ltL_63, gtL_63, eqL_63, adL_63, muL_63, suL_63, slL_63, alL_63, tnL_63, leL_77, geL_77, ltL_77, gtL_77, eqL_77, adL_77, muL_77, suL_77, slL_77, alL_77, tnL_77, leL_99, geL_99, ltL_99, gtL_99, eqL_99, adL_99, muL_99, suL_99, slL_99, alL_99, tnL_99, leL_100, geL_100, ltL_100, gtL_100, eqL_100, adL_100, muL_100, suL_100, slL_100, alL_100, tnL_100, leL_119, geL_119, ltL_119, gtL_119, eqL_119, adL_119, muL_119, suL_119, slL_119, alL_119, tnL_119, leL_120, geL_120, ltL_120, gtL_120, eqL_120, adL_120, muL_120, suL_120, slL_120, alL_120, tnL_120, leL_200, geL_200, ltL_200, gtL_200, eqL_200, adL_200, muL_200, suL_200, slL_200, alL_200, tnL_200, leL_217, geL_217, ltL_217, gtL_217, eqL_217, adL_217, muL_217, suL_217, slL_217, alL_217, tnL_217, leL_255, geL_255, ltL_255, gtL_255, eqL_255, adL_255, muL_255, suL_255, slL_255, alL_255, tnL_255]
      rw [h4]
      exact ih (a + 1) n (by omega) (by omega)
theorem m_lesser {n t : Nat} (hn : 7 < n) (h : t < 28) : f_X6_lesser n (nI t) = some (nI (lo t)) := by
  have h6 := tl h
  have h1 := lesser_run (m := n) (x0 := nI t) h (lo t) 0 n (by omega) (by omega)
  rwa [show t - fstT 0 = t by simp [fstT]] at h1
theorem grT_all : (List.range 28).all (fun t => decide ((nI (lo t) + nI t) - (((7 : Int32) * nI (lo t)) - ((nI (lo t) * (nI (lo t) - (1 : Int32))) / (2 : Int32))) = nI (hi t))) = true := by decide +kernel
theorem m_greater {n t : Nat} (hn : 7 < n) (h : t < 28) : f_X6_greater n (nI t) = some (nI (hi t)) := by
  unfold f_X6_greater
  rw [m_lesser hn h]
  show (chk _ _) = _
  rw [chk_t (by decide)]
  show some _ = _
  rw [of_decide_eq_true (List.all_eq_true.mp grT_all t (List.mem_range.mpr h))]
theorem m_pips {n t : Nat} (hn : 7 < n) (h : t < 28) : f_X6_pips n (nI t) = some (nI (lo t + hi t)) := by
  unfold f_X6_pips
  rw [m_lesser hn h]
  show (f_X6_greater n (nI t)).bind _ = _
  rw [m_greater hn h]
  show some _ = _
  rw [nI_add]
def sX (w : Int32) : Int32 := if w = 0 then 1 else if w = 2 then -1 else 0
def sY (w : Int32) : Int32 := if w = 1 then 1 else if w = 3 then -1 else 0
theorem f_stepX (w : Int32) : f_X5_stepX w = some (sX w) := by
  unfold f_X5_stepX sX
  repeat' split
  all_goals rfl
theorem f_stepY (w : Int32) : f_X5_stepY w = some (sY w) := by
  unfold f_X5_stepY sY
  repeat' split
  all_goals rfl
theorem m_dx (w : Int32) : f_X6_dx w = some (sX w) := by
  unfold f_X6_dx sX
  repeat' split
  all_goals rfl
theorem m_dy (w : Int32) : f_X6_dy w = some (sY w) := by
  unfold f_X6_dy sY
  repeat' split
  all_goals rfl
/-! the model's test of a range -/
theorem zcmp_lt {x y : Int64} : (lg_cmp x y < 0) ↔ x < y := by
  unfold lg_cmp
  rw [Int64.lt_iff_toInt_lt (x := x) (y := y)]
  split
  · rename_i h
    have h1 := Int64.lt_iff_toInt_lt.mp h
    exact ⟨fun q => absurd q (by decide), fun q => by omega⟩
  · rename_i h
    have h1 : ¬ y.toInt < x.toInt := fun q => h (Int64.lt_iff_toInt_lt.mpr q)
    split
    · rename_i e
      subst e
      exact ⟨fun q => absurd q (by decide), fun q => by omega⟩
    · rename_i e
      have h2 : ¬ x.toInt = y.toInt := fun q => e (Int64.toInt_inj.mp q)
      exact ⟨fun _ => by omega, fun _ => by decide⟩
theorem zcmp_gt {x y : Int64} : (0 < lg_cmp x y) ↔ y < x := by
  unfold lg_cmp
  split
  · rename_i h
    exact ⟨fun _ => h, fun _ => by decide⟩
  · rename_i h
    split
    · exact ⟨fun q => absurd q (by decide), fun q => absurd q h⟩
    · exact ⟨fun q => absurd q (by decide), fun q => absurd q h⟩
theorem m_in (x y z : Int64) : f_X6_in x y z = some (if x < y ∨ z < x then 0 else 1) := by
  unfold f_X6_in
  by_cases h1 : x < y
  · rw [if_pos (zcmp_lt.mpr h1), if_pos (Or.inl h1)]
  · rw [if_neg (fun q => h1 (zcmp_lt.mp q))]
    by_cases h2 : z < x
    · rw [if_pos (zcmp_gt.mpr h2), if_pos (Or.inr h2)]
    · rw [if_neg (fun q => h2 (zcmp_gt.mp q)), if_neg (fun q => q.elim h1 h2)]
theorem i2l_lt {x y : Int32} : x.toInt64 < y.toInt64 ↔ x < y := by
  rw [Int64.lt_iff_toInt_lt, Int32.toInt_toInt64, Int32.toInt_toInt64, ← Int32.lt_iff_toInt_lt]
theorem m_inL (x a b : Int32) (y z : Int64) (hy : a.toInt64 = y) (hz : b.toInt64 = z) : f_X6_in x.toInt64 y z = some (if x < a ∨ b < x then 0 else 1) := by
  rw [m_in, ← hy, ← hz]
  congr 1
  simp only [i2l_lt]
