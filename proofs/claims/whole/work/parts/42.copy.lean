/-! PURE LEVEL: two games that no call can tell from each other; copies -/
theorem upd_eq {f : Nat → Int32} {k j : Nat} {x : Int32} (h : j = k) : upd f k x j = x := if_pos h
theorem upd_ne {f : Nat → Int32} {k j : Nat} {x : Int32} (h : j ≠ k) : upd f k x j = f j := if_neg h
def lmA (j : Nat) : Nat := if j = 2 then 4 else if j = 3 then 4 else if j = 9 then 25 else 28
theorem lmA_28 {j : Nat} (h2 : j ≠ 2) (h3 : j ≠ 3) (h9 : j ≠ 9) : lmA j = 28 := by
  unfold lmA
  rw [if_neg h2, if_neg h3, if_neg h9]
def eqG (G : GS) (H : GS) : Prop :=
  (∀ k, k < 8 → H.1 k = G.1 k) ∧
  (∀ k, k < 5 → H.2.1 k = G.2.1 k) ∧
  (∀ j k, j < 10 → k < lmA j → H.2.2 j k = G.2.2 j k)
theorem eqG.a {G : GS} {H : GS} (h : eqG G H) : ∀ k, k < 8 → H.1 k = G.1 k := h.1
theorem eqG.b {G : GS} {H : GS} (h : eqG G H) : ∀ k, k < 5 → H.2.1 k = G.2.1 k := h.2.1
theorem eqG.c {G : GS} {H : GS} (h : eqG G H) : ∀ j k, j < 10 → k < lmA j → H.2.2 j k = G.2.2 j k := h.2.2
theorem eqG.mk {G : GS} {H : GS} (a : ∀ k, k < 8 → H.1 k = G.1 k) (b : ∀ k, k < 5 → H.2.1 k = G.2.1 k) (c : ∀ j k, j < 10 → k < lmA j → H.2.2 j k = G.2.2 j k) : eqG G H := ⟨a, b, c⟩
theorem eqG.rfl' (G : GS) : eqG G G := eqG.mk (fun _ _ => rfl) (fun _ _ => rfl) (fun _ _ _ _ => rfl)
theorem frY_congr {G H : GS} (h : ∀ y, y < 25 → H.2.2 9 y = G.2.2 9 y) : frY H 25 = frY G 25 := by
  have hx : ∀ y, y < 25 → ∀ n, frX H y n = frX G y n := by
    intro y hy n
    induction n with
    | zero => rfl
    | succ n ih =>
      simp only [frX, ih, bitG, h y hy]
  have : ∀ n, n ≤ 25 → frY H n = frY G n := by
    intro n
    induction n with
    | zero => intro _; rfl
    | succ n ih =>
      intro hn
      simp only [frY]
      rw [ih (by omega), hx n (by omega)]
  exact this 25 (by omega)
theorem VG.re {G H : GS} {B B' : Nat} (V : VG G B) (h7 : H.1 7 = G.1 7) (hl : ∀ k, k < 5 → H.2.1 k = G.2.1 k) (ha : ∀ j k, j = 0 ∨ j = 1 ∨ (4 ≤ j ∧ j < 10) → k < lmA j → H.2.2 j k = G.2.2 j k)
    (rd : ∃ r, H.1 0 = nI r ∧ r ≤ B') (ph : H.1 3 = 0 ∨ H.1 3 = 1 ∨ H.1 3 = 2) (pl : H.1 3 = 1 → ∃ p t q, 2 ≤ p ∧ p ≤ 4 ∧ t < p ∧ q < p ∧ H.1 4 = nI p ∧ H.1 5 = nI t ∧ H.1 6 = nI q) : VG H B' := by
  have hsz : szG H = szG G := by unfold szG; rw [hl 0 (by omega)]
  have hhb : hbG H = hbG G := by unfold hbG; rw [h7]
  have e : ∀ j k, j = 0 ∨ j = 1 ∨ (4 ≤ j ∧ j < 9) → k < 28 → H.2.2 j k = G.2.2 j k := fun j k hj hk => ha j k (by omega) (by rw [lmA_28 (by omega) (by omega) (by omega)]; exact hk)
  have e9 : ∀ y, y < 25 → H.2.2 9 y = G.2.2 9 y := fun y hy => ha 9 y (by omega) hy
  have h28 := V.sz28
  have htl : ∀ k, k < szG G → tlG H k = tlG G k := fun k hk => by unfold tlG; rw [e 4 k (by omega) (by omega)]
  have hcv : ∀ k, k < szG G → ∀ x y, coversG H k x y ↔ coversG G k x y := fun k hk x y => by
    unfold coversG
    rw [e 5 k (by omega) (by omega), e 6 k (by omega) (by omega), e 7 k (by omega) (by omega)]
  refine VG.mk ?_ ?_ ?_ ?_ rd ph pl ?_ ?_ ?_ ?_ ?_ ?_ ?_ ?_ ?_ ?_ ?_ ?_ ?_ ?_
  · rw [hsz, hl 0 (by omega)]; exact V.sz
  · rw [hsz]; exact h28
  · rw [hhb, h7]; exact V.hb
  · rw [hhb]; exact V.hb28
  · intro t ht
    rw [e 1 t (by omega) ht]
    exact V.ho t ht
  · intro k hk
    rw [hsz] at hk
    have h1 := V.ti k hk
    rw [htl k hk, e 4 k (by omega) (by omega), e 1 _ (by omega) h1.1]
    exact h1
  · intro j k hj hk
    rw [hsz] at hj hk
    rw [htl j hj, htl k hk]
    exact V.td j k hj hk
  · intro i hi h2
    rw [hhb] at hi
    obtain ⟨t, h3, h4, h5, h6⟩ := V.he i hi h2
    refine ⟨t, h3, by rw [e 0 i (by omega) h2]; exact h4, by rw [e 1 t (by omega) h3]; exact h5, fun k hk => ?_⟩
    rw [hsz] at hk
    rw [htl k hk]
    exact h6 k hk
  · intro i j h1 h2 h3 h4
    rw [hhb] at h1 h3
    rw [e 0 i (by omega) h2, e 0 j (by omega) h4]
    exact V.hd i j h1 h2 h3 h4
  · rw [hl 2 (by omega)]; exact V.di
  · intro k hk
    rw [hsz] at hk
    rw [e 7 k (by omega) (by omega)]
    exact V.wa k hk
  · intro k hk
    rw [hsz] at hk
    rw [e 8 k (by omega) (by omega), htl k hk]
    exact V.fi k hk
  · rw [hsz, hl 1 (by omega)]; exact V.en
  · rw [hsz, hl 3 (by omega), hl 4 (by omega)]; exact V.nx0
  · intro k hk
    rw [hsz] at hk
    rw [hl 2 (by omega), hl 3 (by omega), hl 4 (by omega), e 5 k (by omega) (by omega), e 6 k (by omega) (by omega), e 7 k (by omega) (by omega)]
    exact V.nx1 k hk
  · intro k hk
    rw [hsz] at hk
    rw [e 5 k (by omega) (by omega), e 6 k (by omega) (by omega), e 7 k (by omega) (by omega)]
    exact V.ge k hk
  · intro x y hx hy
    rw [hsz]
    have h1 := V.cv x y hx hy
    unfold bitG at h1 ⊢
    rw [e9 y hy, h1]
    exact ⟨fun ⟨k, h2, h3⟩ => ⟨k, h2, (hcv k h2 _ _).mpr h3⟩, fun ⟨k, h2, h3⟩ => ⟨k, h2, (hcv k h2 _ _).mp h3⟩⟩
  · rw [hsz, frY_congr e9]; exact V.co
theorem VG.le {G : GS} {B B' : Nat} (V : VG G B) (h : B ≤ B') : VG G B' := by
  obtain ⟨r, h1, h2⟩ := V.rd
  exact V.re rfl (fun _ _ => rfl) (fun _ _ _ _ => rfl) ⟨r, h1, by omega⟩ V.ph V.pl
theorem VG.eq {G H : GS} {B : Nat} (V : VG G B) (E : eqG G H) : VG H B := by
  refine V.re (E.a 7 (by omega)) E.b (fun j k hj hk => E.c j k (by omega) hk) ?_ ?_ ?_
  · rw [E.a 0 (by omega)]; exact V.rd
  · rw [E.a 3 (by omega)]; exact V.ph
  · rw [E.a 3 (by omega), E.a 4 (by omega), E.a 5 (by omega), E.a 6 (by omega)]; exact V.pl
theorem trn_congr {G H : GS} {side : Int32} (hs : szG H = szG G) (h2 : H.2.1 2 = G.2.1 2) : ∀ N, N ≤ szG G → (∀ k, k < szG G → H.2.2 7 k = G.2.2 7 k) → trn H side N = trn G side N := by
  intro N
  induction N with
  | zero => intro _ _; rfl
  | succ N ih =>
    intro hN h
    simp only [trn]
    rw [ih (by omega) h]
    have e : trnAt H N = trnAt G N := by
      unfold trnAt
      rw [hs, h2, h N (by omega)]
      by_cases q : N + 1 < szG G
      · rw [if_pos q, if_pos q, h (N + 1) q]
      · rw [if_neg q, if_neg q]
    rw [e]
theorem RG.eq {G H : GS} {B : Nat} {s s' : Nat → Int32} (V : VG G B) (R : RG G s) (E : eqG G H) (hs : ∀ i, i < 217 → s' i = s i) : RG H s' := by
  have hsz : szG H = szG G := by unfold szG; rw [E.b 0 (by omega)]
  have hhb : hbG H = hbG G := by unfold hbG; rw [E.a 7 (by omega)]
  have e : ∀ j k, j = 0 ∨ j = 1 ∨ (4 ≤ j ∧ j < 9) → k < 28 → H.2.2 j k = G.2.2 j k := fun j k hj hk => E.c j k (by omega) (by rw [lmA_28 (by omega) (by omega) (by omega)]; exact hk)
  have h28 := V.sz28
  have ht : ∀ side, trn H side (szG G) = trn G side (szG G) := fun side => trn_congr hsz (E.b 2 (by omega)) (szG G) (Nat.le_refl _) (fun k hk => e 7 k (by omega) (by omega))
  refine RG.mk ?_ ?_ ?_ ?_ ?_ ?_ ?_ ?_ ?_ ?_ ?_ ?_ ?_ ?_ ?_ ?_ ?_ ?_ ?_ ?_ ?_ ?_
  · rw [hs 0 (by omega), E.a 0 (by omega)]; exact R.r0
  · rw [hs 1 (by omega), E.a 3 (by omega)]; exact R.r1
  · rw [hs 2 (by omega), E.a 4 (by omega)]; exact R.r2
  · rw [hs 3 (by omega), E.a 5 (by omega)]; exact R.r3
  · rw [hs 4 (by omega), hhb]; exact R.r4
  · rw [hs 5 (by omega), hsz]; exact R.r5
  · rw [hs 6 (by omega), E.b 1 (by omega)]; exact R.r6
  · rw [hs 7 (by omega), E.b 2 (by omega)]; exact R.r7
  · rw [hs 8 (by omega), E.a 6 (by omega)]; exact R.r8
  · rw [hs 9 (by omega), E.a 1 (by omega)]; exact R.r9
  · rw [hs 10 (by omega), E.a 2 (by omega)]; exact R.r10
  · rw [hs 11 (by omega), hsz, ht]; exact R.r11
  · rw [hs 12 (by omega), hsz, ht]; exact R.r12
  · intro p hp
    rw [hs _ (by omega), E.c 2 p (by omega) hp]; exact R.sc p hp
  · intro p hp
    rw [hs _ (by omega), E.c 3 p (by omega) hp]; exact R.wo p hp
  · intro t ht
    rw [hs _ (by omega), e 1 t (by omega) ht]; exact R.ho t ht
  · intro k hk
    rw [hhb] at hk ⊢
    rw [hs _ (by omega), e 0 _ (by omega) hk]; exact R.he k hk
  · intro k hk
    rw [hsz] at hk
    rw [hs _ (by omega), e 4 k (by omega) (by omega)]; exact R.t0 k hk
  · intro k hk
    rw [hsz] at hk
    rw [hs _ (by omega), e 5 k (by omega) (by omega)]; exact R.t1 k hk
  · intro k hk
    rw [hsz] at hk
    rw [hs _ (by omega), e 6 k (by omega) (by omega)]; exact R.t2 k hk
  · intro k hk
    rw [hsz] at hk
    rw [hs _ (by omega), e 7 k (by omega) (by omega)]; exact R.t3 k hk
  · intro k hk
    rw [hsz] at hk
    rw [hs _ (by omega), e 8 k (by omega) (by omega)]; exact R.t4 k hk
theorem RG.s {G : GS} {B : Nat} {s s' : Nat → Int32} (V : VG G B) (R : RG G s) (hs : ∀ i, i < 217 → s' i = s i) : RG G s' := R.eq V (eqG.rfl' G) hs
theorem eqG.sym {G H : GS} (E : eqG G H) : eqG H G := eqG.mk (fun k hk => (E.a k hk).symm) (fun k hk => (E.b k hk).symm) (fun j k hj hk => (E.c j k hj hk).symm)
theorem cpy_lt {f g : Nat → Int32} {n k : Nat} {z m : Int32} (hz : z.toNatClampNeg = 0) (hm : m.toNatClampNeg = n) (h : k < n) : va_cpy f g z.toNatClampNeg z.toNatClampNeg m.toNatClampNeg k = f k := by
  unfold va_cpy
  rw [hz, hm, if_pos ⟨Nat.zero_le k, by omega⟩]
  simp
theorem becomeLike_eq (G2 G : GS) : ∃ H, f_X0_becomeLike G2 G = some H ∧ eqG G2 H := by
  unfold f_X0_becomeLike f_X2_becomeLike stt
  refine ⟨_, rfl, eqG.mk (fun k hk => ?_) (fun k hk => ?_) (fun j k hj hk => ?_)⟩
  · match k, hk with
    | 0, _ => rfl
    | 1, _ => rfl
    | 2, _ => rfl
    | 3, _ => rfl
    | 4, _ => rfl
    | 5, _ => rfl
    | 6, _ => rfl
    | 7, _ => rfl
  · match k, hk with
    | 0, _ => rfl
    | 1, _ => rfl
    | 2, _ => rfl
    | 3, _ => rfl
    | 4, _ => rfl
  · match j, hj with
    | 0, _ => exact cpy_lt (n := 28) (by decide) (by decide) hk
    | 1, _ => exact cpy_lt (n := 28) (by decide) (by decide) hk
    | 2, _ => exact cpy_lt (n := 4) (by decide) (by decide) hk
    | 3, _ => exact cpy_lt (n := 4) (by decide) (by decide) hk
    | 4, _ => exact cpy_lt (n := 28) (by decide) (by decide) hk
    | 5, _ => exact cpy_lt (n := 28) (by decide) (by decide) hk
    | 6, _ => exact cpy_lt (n := 28) (by decide) (by decide) hk
    | 7, _ => exact cpy_lt (n := 28) (by decide) (by decide) hk
    | 8, _ => exact cpy_lt (n := 28) (by decide) (by decide) hk
    | 9, _ => exact cpy_lt (n := 25) (by decide) (by decide) hk
/-- 217 numbers from one place to another -/
def cpS (f g : Nat → Int32) (a b n : Nat) : Nat → Int32 := fun i => if b ≤ i ∧ i < b + n then f (a + (i - b)) else g i
theorem cpS_upd (f g : Nat → Int32) (a b n : Nat) : upd (cpS f g a b n) (b + n) (f (a + n)) = cpS f g a b (n + 1) := by
  funext i
  unfold upd cpS
  by_cases e : i = b + n
  · subst e
    rw [if_pos rfl, if_pos ⟨by omega, by omega⟩, Nat.add_sub_cancel_left]
  · rw [if_neg e]
    by_cases h : b ≤ i ∧ i < b + n
    · rw [if_pos h, if_pos ⟨h.1, by omega⟩]
    · rw [if_neg h, if_neg (fun q => h ⟨q.1, by omega⟩)]
theorem m_copy {n N1 N2 a b : Nat} (hn : 217 < n) (ha : a + 217 ≤ N1) (hb : b + 217 ≤ N2) (h1 : N1 < 2 ^ 31) (h2 : N2 < 2 ^ 31) (f g : Nat → Int32) : f_X6_copyState n N1 N2 f g (nI a) (nI b) = some (cpS f g a b 217) := by
  unfold f_X6_copyState
  refine ex_eq (for2 217 (fun j r => r = cpS f g a b j) _ ?_ ?_ n 0 g (by omega) (by omega) ?_)
  · rintro K r rfl
    unfold f_X6_copyState_h3
    simp (disch := omega) only [nI_leI, nI_ltI, nI_eq, nI_clamp, nI_add, nI_mul, nI_sub, nI_ne_m1, nI_ne_m1', chk_n, if_pos, if_neg, if_true, if_false, reduceCtorEq, Nat.add_zero, Nat.zero_add, not_true_eq_false, not_false_eq_true, Nat.not_lt_zero, Nat.zero_le, Option.bind_some, eq_self, e10, e01, em0, em1, e21, ckL_0, ckL_1, ckL_2, ckL_3, ckL_4, ckL_5, ckL_6, ckL_7, ckL_8, ckL_9, ckL_10, ckL_11, ckL_12, leL_0, geL_0, ltL_0, gtL_0, eqL_0, adL_0, muL_0, suL_0, slL_0, alL_0, tnL_0, leL_1, geL_1, ltL_1, gtL_1, eqL_1, adL_1, muL_1, suL_1, slL_1, alL_1, tnL_1, leL_2, geL_2, ltL_2, gtL_2, eqL_2, adL_2, muL_2, suL_2, slL_2, alL_2, tnL_2, leL_3, geL_3, ltL_3, gtL_3, eqL_3, adL_3, muL_3, suL_3, slL_3, alL_3, tnL_3, leL_4, geL_4, ltL_4, gtL_4, eqL_4, adL_4, muL_4, suL_4, slL_4, alL_4, tnL_4, leL_5, geL_5, ltL_5, gtL_5, eqL_5, adL_5, muL_5, suL_5, slL_5, alL_5, tnL_5, leL_6, geL_6, ltL_6, gtL_6, eqL_6, adL_6, muL_6, suL_6, slL_6, alL_6, tnL_6, leL_7, geL_7, ltL_7, gtL_7, eqL_7, adL_7, muL_7, suL_7, slL_7, alL_7, tnL_7, leL_8, geL_8, ltL_8, gtL_8, eqL_8, adL_8, muL_8, suL_8, slL_8, alL_8, tnL_8, leL_9, geL_9, ltL_9, gtL_9, eqL_9, adL_9, muL_9, suL_9, slL_9, alL_9, tnL_9, leL_10, geL_10, ltL_10, gtL_10, eqL_10, adL_10, muL_10, suL_10, slL_10, alL_10, tnL_10, leL_11, geL_11, ltL_11, gtL_11, eqL_11, adL_11, muL_11, suL_11, slL_11, alL_11, tnL_11, leL_12, geL_12, ltL_12, gtL_12, eqL_12, adL_12, muL_12, suL_12, slL_12, alL_12, tnL_12, leL_13, geL_13, ltL_13, gtL_13, eqL_13, adL_13, muL_13, suL_13, slL_13, alL_13, tnL_13, leL_14, geL_14, ltL_14, gtL_14, eqL_14, adL_14, muL_14, suL_14, slL_14, alL_14, tnL_14, leL_15, geL_15, ltL_15, gtL_15, eqL_15, adL_15, muL_15, suL_15, slL_15, alL_15, tnL_15, leL_16, geL_16, ltL_16, gtL_16, eqL_16, adL_16, muL_16, suL_16, slL_16, alL_16, tnL_16, leL_17, geL_17, ltL_17, gtL_17, eqL_17, adL_17, muL_17, suL_17, slL_17, alL_17, tnL_17, leL_21, geL_21, ltL_21, gtL_21, eqL_21, adL_21, muL_21, suL_21, slL_21, alL_21, tnL_21, leL_24, geL_24, ltL_24, gtL_24, eqL_24, adL_24, muL_24, suL_24, slL_24, alL_24, tnL_24, leL_25, geL_25, ltL_25, gtL_25, eqL_25, adL_25, muL_25, suL_25, slL_25, alL_25, tnL_25, leL_26, geL_26, ltL_26, gtL_26, eqL_26, adL_26, muL_26, suL_26, slL_26, alL_26, tnL_26, leL_27, geL_27, ltL_27, gtL_27, eqL_27, adL_27, muL_27, suL_27, slL_27, alL_27, tnL_27, leL_28, geL_28, ltL_28, gtL_28, eqL_28, adL_28, muL_28, suL_28, slL_28, alL_28, tnL_28, leL_48, geL_48, ltL_48, gtL_48, eqL_48, adL_48, muL_48, suL_48, slL_48, alL_48, tnL_48, leL_49, geL_49, ltL_49, gtL_49, eqL_49, adL_49, muL_49, suL_49, slL_49, alL_49, tnL_49, leL_63, geL_63, ltL_63, gtL_63, eqL_63, adL_63, muL_63, suL_63, slL_63, alL_63, tnL_63, leL_77, geL_77, ltL_77, gtL_77, eqL_77, adL_77, muL_77, suL_77, slL_77, alL_77, tnL_77, leL_99, geL_99, ltL_99, gtL_99, eqL_99, adL_99, muL_99, suL_99, slL_99, alL_99, tnL_99, leL_100, geL_100, ltL_100, gtL_100, eqL_100, adL_100, muL_100, suL_100, slL_100, alL_100, tnL_100, leL_119, geL_119, ltL_119, gtL_119, eqL_119, adL_119, muL_119, suL_119, slL_119, alL_119, tnL_119, leL_120, geL_120, ltL_120, gtL_120, eqL_120, adL_120, muL_120, suL_120, slL_120, alL_120, tnL_120, leL_200, geL_200, ltL_200, gtL_200, eqL_200, adL_200, muL_200, suL_200, slL_200, alL_200, tnL_200, leL_217, geL_217, ltL_217, gtL_217, eqL_217, adL_217, muL_217, suL_217, slL_217, alL_217, tnL_217, leL_255, geL_255, ltL_255, gtL_255, eqL_255, adL_255, muL_255, suL_255, slL_255, alL_255, tnL_255, ckT, jdiv_2, jrem_2, ckz_2, ckz_3, ckz_4, ckz_5, ckz_10, ckz_14, ckz_16, ckz_100, ckz_1000, ckz_L]
    exact ⟨_, rfl, rfl⟩
  · rintro K r j hj rfl
    left
    unfold f_X6_copyState_h3
    simp (disch := omega) only [nI_leI, nI_ltI, nI_eq, nI_clamp, nI_add, nI_mul, nI_sub, nI_ne_m1, nI_ne_m1', chk_n, if_pos, if_neg, if_true, if_false, reduceCtorEq, Nat.add_zero, Nat.zero_add, not_true_eq_false, not_false_eq_true, Nat.not_lt_zero, Nat.zero_le, Option.bind_some, eq_self, e10, e01, em0, em1, e21, ckL_0, ckL_1, ckL_2, ckL_3, ckL_4, ckL_5, ckL_6, ckL_7, ckL_8, ckL_9, ckL_10, ckL_11, ckL_12, leL_0, geL_0, ltL_0, gtL_0, eqL_0, adL_0, muL_0, suL_0, slL_0, alL_0, tnL_0, leL_1, geL_1, ltL_1, gtL_1, eqL_1, adL_1, muL_1, suL_1, slL_1, alL_1, tnL_1, leL_2, geL_2, ltL_2, gtL_2, eqL_2, adL_2, muL_2, suL_2, slL_2, alL_2, tnL_2, leL_3, geL_3, ltL_3, gtL_3, eqL_3, adL_3, muL_3, suL_3, slL_3, alL_3, tnL_3, leL_4, geL_4, ltL_4, gtL_4, eqL_4, adL_4, muL_4, suL_4, slL_4, alL_4, tnL_4, leL_5, geL_5, ltL_5, gtL_5, eqL_5, adL_5, muL_5, suL_5, slL_5, alL_5, tnL_5, leL_6, geL_6, ltL_6, gtL_6, eqL_6, adL_6, muL_6, suL_6, slL_6, alL_6, tnL_6, leL_7, geL_7, ltL_7, gtL_7, eqL_7, adL_7, muL_7, suL_7, slL_7, alL_7, tnL_7, leL_8, geL_8, ltL_8, gtL_8, eqL_8, adL_8, muL_8, suL_8, slL_8, alL_8, tnL_8, leL_9, geL_9, ltL_9, gtL_9, eqL_9, adL_9, muL_9, suL_9, slL_9, alL_9, tnL_9, leL_10, geL_10, ltL_10, gtL_10, eqL_10, adL_10, muL_10, suL_10, slL_10, alL_10, tnL_10, leL_11, geL_11, ltL_11, gtL_11, eqL_11, adL_11, muL_11, suL_11, slL_11, alL_11, tnL_11, leL_12, geL_12, ltL_12, gtL_12, eqL_12, adL_12, muL_12, suL_12, slL_12, alL_12, tnL_12, leL_13, geL_13, ltL_13, gtL_13, eqL_13, adL_13, muL_13, suL_13, slL_13, alL_13, tnL_13, leL_14, geL_14, ltL_14, gtL_14, eqL_14, adL_14, muL_14, suL_14, slL_14, alL_14, tnL_14, leL_15, geL_15, ltL_15, gtL_15, eqL_15, adL_15, muL_15, suL_15, slL_15, alL_15, tnL_15, leL_16, geL_16, ltL_16, gtL_16, eqL_16, adL_16, muL_16, suL_16, slL_16, alL_16, tnL_16, leL_17, geL_17, ltL_17, gtL_17, eqL_17, adL_17, muL_17, suL_17, slL_17, alL_17, tnL_17, leL_21, geL_21, ltL_21, gtL_21, eqL_21, adL_21, muL_21, suL_21, slL_21, alL_21, tnL_21, leL_24, geL_24, ltL_24, gtL_24, eqL_24, adL_24, muL_24, suL_24, slL_24, alL_24, tnL_24, leL_25, geL_25, ltL_25, gtL_25, eqL_25, adL_25, muL_25, suL_25, slL_25, alL_25, tnL_25, leL_26, geL_26, ltL_26, gtL_26, eqL_26, adL_26, muL_26, suL_26, slL_26, alL_26, tnL_26, leL_27, geL_27, ltL_27, gtL_27, eqL_27, adL_27, muL_27, suL_27, slL_27, alL_27, tnL_27, leL_28, geL_28, ltL_28, gtL_28, eqL_28, adL_28, muL_28, suL_28, slL_28, alL_28, tnL_28, leL_48, geL_48, ltL_48, gtL_48, eqL_48, adL_48, muL_48, suL_48, slL_48, alL_48, tnL_48, leL_49, geL_49, ltL_49, gtL_49, eqL_49, adL_49, muL_49, suL_49, slL_49, alL_49, tnL_49, leL_63, geL_63, ltL_63, gtL_63, eqL_63, adL_63, muL_63, suL_63, slL_63, alL_63, tnL_63, leL_77, geL_77, ltL_77, gtL_77, eqL_77, adL_77, muL_77, suL_77, slL_77, alL_77, tnL_77, leL_99, geL_99, ltL_99, gtL_99, eqL_99, adL_99, muL_99, suL_99, slL_99, alL_99, tnL_99, leL_100, geL_100, ltL_100, gtL_100, eqL_100, adL_100, muL_100, suL_100, slL_100, alL_100, tnL_100, leL_119, geL_119, ltL_119, gtL_119, eqL_119, adL_119, muL_119, suL_119, slL_119, alL_119, tnL_119, leL_120, geL_120, ltL_120, gtL_120, eqL_120, adL_120, muL_120, suL_120, slL_120, alL_120, tnL_120, leL_200, geL_200, ltL_200, gtL_200, eqL_200, adL_200, muL_200, suL_200, slL_200, alL_200, tnL_200, leL_217, geL_217, ltL_217, gtL_217, eqL_217, adL_217, muL_217, suL_217, slL_217, alL_217, tnL_217, leL_255, geL_255, ltL_255, gtL_255, eqL_255, adL_255, muL_255, suL_255, slL_255, alL_255, tnL_255, ckT, jdiv_2, jrem_2, ckz_2, ckz_3, ckz_4, ckz_5, ckz_10, ckz_14, ckz_16, ckz_100, ckz_1000, ckz_L, cpS_upd]
    exact ⟨_, rfl, rfl⟩
  · funext i
    unfold cpS
    rw [if_neg (by omega)]
theorem cpS_in {f g : Nat → Int32} {a b n i : Nat} (h : i < n) : cpS f g a b n (b + i) = f (a + i) := by
  unfold cpS
  rw [if_pos ⟨by omega, by omega⟩, Nat.add_sub_cancel_left]
theorem cpS_0 {f g : Nat → Int32} {a n i : Nat} (h : i < n) : cpS f g a 0 n i = f (a + i) := by
  unfold cpS
  rw [if_pos ⟨by omega, by omega⟩, Nat.sub_zero]
theorem cpS_out {f g : Nat → Int32} {a b n i : Nat} (h : i < b ∨ b + n ≤ i) : cpS f g a b n i = g i := by
  unfold cpS
  rw [if_neg (by omega)]
