/-! PURE LEVEL: a valid game; the model's state that stands for it -/
def szG (G : GS) : Nat := (G.2.1 0).toNatClampNeg
def hbG (G : GS) : Nat := (G.1 7).toNatClampNeg
/-- the tile at a place -/
def tlG (G : GS) (k : Nat) : Nat := (G.2.2 4 k).toNatClampNeg
def trnAt (G : GS) (k : Nat) : Int32 := ((if k + 1 < szG G then G.2.2 7 (k + 1) else G.2.1 2) - G.2.2 7 k) &&& 3
def trn (G : GS) (side : Int32) : Nat → Nat
  | 0 => 0
  | k + 1 => trn G side k + if trnAt G k = side then 1 else 0
def coversG (G : GS) (k : Nat) (x y : Int32) : Prop := (G.2.2 5 k = x ∧ G.2.2 6 k = y) ∨ (G.2.2 5 k + sX (G.2.2 7 k) = x ∧ G.2.2 6 k + sY (G.2.2 7 k) = y)
abbrev bitG (G : GS) (x y : Nat) : Prop := ¬ (jushr (G.2.2 9 y) (nI x) &&& 1) = 0
/-- how many free cells the first x columns of row y have -/
def frX (G : GS) (y : Nat) : Nat → Nat
  | 0 => 0
  | x + 1 => frX G y x + if bitG G x y then 0 else 1
def frY (G : GS) : Nat → Nat
  | 0 => 0
  | y + 1 => frY G y + frX G y 25
def VG (G : GS) (B : Nat) : Prop :=
  (G.2.1 0 = nI (szG G)) ∧
  (szG G ≤ 28) ∧
  (G.1 7 = nI (hbG G)) ∧
  (hbG G ≤ 28) ∧
  (∃ r, G.1 0 = nI r ∧ r ≤ B) ∧
  (G.1 3 = 0 ∨ G.1 3 = 1 ∨ G.1 3 = 2) ∧
  (G.1 3 = 1 → ∃ p t q, 2 ≤ p ∧ p ≤ 4 ∧ t < p ∧ q < p ∧ G.1 4 = nI p ∧ G.1 5 = nI t ∧ G.1 6 = nI q) ∧
  (∀ t, t < 28 → G.2.2 1 t = -1 ∨ ∃ p, p < 4 ∧ G.2.2 1 t = nI p) ∧
  (∀ k, k < szG G → tlG G k < 28 ∧ G.2.2 4 k = nI (tlG G k) ∧ G.2.2 1 (tlG G k) = -1) ∧
  (∀ j k, j < szG G → k < szG G → tlG G j = tlG G k → j = k) ∧
  (∀ i, hbG G ≤ i → i < 28 → ∃ t, t < 28 ∧ G.2.2 0 i = nI t ∧ G.2.2 1 t = -1 ∧ ∀ k, k < szG G → tlG G k ≠ t) ∧
  (∀ i j, hbG G ≤ i → i < 28 → hbG G ≤ j → j < 28 → G.2.2 0 i = G.2.2 0 j → i = j) ∧
  (∃ d, d < 4 ∧ G.2.1 2 = nI d) ∧
  (∀ k, k < szG G → ∃ d, d < 4 ∧ G.2.2 7 k = nI d) ∧
  (∀ k, k < szG G → ∃ f, f ≤ lo (tlG G k) + hi (tlG G k) ∧ f ≤ 6 ∧ G.2.2 8 k = nI f) ∧
  ((szG G = 0 ∧ G.2.1 1 = -1) ∨ (0 < szG G ∧ ∃ e, e ≤ 6 ∧ G.2.1 1 = nI e)) ∧
  (szG G = 0 → G.2.1 3 = 12 ∧ G.2.1 4 = 12) ∧
  (∀ k, szG G = k + 1 → G.2.1 3 = G.2.2 5 k + sX (G.2.2 7 k) + sX (G.2.1 2) ∧ G.2.1 4 = G.2.2 6 k + sY (G.2.2 7 k) + sY (G.2.1 2)) ∧
  (∀ k, k < szG G → ∃ x y x' y', x < 25 ∧ y < 25 ∧ x' < 25 ∧ y' < 25 ∧ G.2.2 5 k = nI x ∧ G.2.2 6 k = nI y ∧ G.2.2 5 k + sX (G.2.2 7 k) = nI x' ∧ G.2.2 6 k + sY (G.2.2 7 k) = nI y') ∧
  (∀ x y, x < 25 → y < 25 → (bitG G x y ↔ ∃ k, k < szG G ∧ coversG G k (nI x) (nI y))) ∧
  (frY G 25 + 2 * szG G = 625)
theorem VG.sz {G : GS} {B : Nat} (h : VG G B) : G.2.1 0 = nI (szG G) := h.1
theorem VG.sz28 {G : GS} {B : Nat} (h : VG G B) : szG G ≤ 28 := h.2.1
theorem VG.hb {G : GS} {B : Nat} (h : VG G B) : G.1 7 = nI (hbG G) := h.2.2.1
theorem VG.hb28 {G : GS} {B : Nat} (h : VG G B) : hbG G ≤ 28 := h.2.2.2.1
theorem VG.rd {G : GS} {B : Nat} (h : VG G B) : ∃ r, G.1 0 = nI r ∧ r ≤ B := h.2.2.2.2.1
theorem VG.ph {G : GS} {B : Nat} (h : VG G B) : G.1 3 = 0 ∨ G.1 3 = 1 ∨ G.1 3 = 2 := h.2.2.2.2.2.1
theorem VG.pl {G : GS} {B : Nat} (h : VG G B) : G.1 3 = 1 → ∃ p t q, 2 ≤ p ∧ p ≤ 4 ∧ t < p ∧ q < p ∧ G.1 4 = nI p ∧ G.1 5 = nI t ∧ G.1 6 = nI q := h.2.2.2.2.2.2.1
theorem VG.ho {G : GS} {B : Nat} (h : VG G B) : ∀ t, t < 28 → G.2.2 1 t = -1 ∨ ∃ p, p < 4 ∧ G.2.2 1 t = nI p := h.2.2.2.2.2.2.2.1
theorem VG.ti {G : GS} {B : Nat} (h : VG G B) : ∀ k, k < szG G → tlG G k < 28 ∧ G.2.2 4 k = nI (tlG G k) ∧ G.2.2 1 (tlG G k) = -1 := h.2.2.2.2.2.2.2.2.1
theorem VG.td {G : GS} {B : Nat} (h : VG G B) : ∀ j k, j < szG G → k < szG G → tlG G j = tlG G k → j = k := h.2.2.2.2.2.2.2.2.2.1
theorem VG.he {G : GS} {B : Nat} (h : VG G B) : ∀ i, hbG G ≤ i → i < 28 → ∃ t, t < 28 ∧ G.2.2 0 i = nI t ∧ G.2.2 1 t = -1 ∧ ∀ k, k < szG G → tlG G k ≠ t := h.2.2.2.2.2.2.2.2.2.2.1
theorem VG.hd {G : GS} {B : Nat} (h : VG G B) : ∀ i j, hbG G ≤ i → i < 28 → hbG G ≤ j → j < 28 → G.2.2 0 i = G.2.2 0 j → i = j := h.2.2.2.2.2.2.2.2.2.2.2.1
theorem VG.di {G : GS} {B : Nat} (h : VG G B) : ∃ d, d < 4 ∧ G.2.1 2 = nI d := h.2.2.2.2.2.2.2.2.2.2.2.2.1
theorem VG.wa {G : GS} {B : Nat} (h : VG G B) : ∀ k, k < szG G → ∃ d, d < 4 ∧ G.2.2 7 k = nI d := h.2.2.2.2.2.2.2.2.2.2.2.2.2.1
theorem VG.fi {G : GS} {B : Nat} (h : VG G B) : ∀ k, k < szG G → ∃ f, f ≤ lo (tlG G k) + hi (tlG G k) ∧ f ≤ 6 ∧ G.2.2 8 k = nI f := h.2.2.2.2.2.2.2.2.2.2.2.2.2.2.1
theorem VG.en {G : GS} {B : Nat} (h : VG G B) : (szG G = 0 ∧ G.2.1 1 = -1) ∨ (0 < szG G ∧ ∃ e, e ≤ 6 ∧ G.2.1 1 = nI e) := h.2.2.2.2.2.2.2.2.2.2.2.2.2.2.2.1
theorem VG.nx0 {G : GS} {B : Nat} (h : VG G B) : szG G = 0 → G.2.1 3 = 12 ∧ G.2.1 4 = 12 := h.2.2.2.2.2.2.2.2.2.2.2.2.2.2.2.2.1
theorem VG.nx1 {G : GS} {B : Nat} (h : VG G B) : ∀ k, szG G = k + 1 → G.2.1 3 = G.2.2 5 k + sX (G.2.2 7 k) + sX (G.2.1 2) ∧ G.2.1 4 = G.2.2 6 k + sY (G.2.2 7 k) + sY (G.2.1 2) := h.2.2.2.2.2.2.2.2.2.2.2.2.2.2.2.2.2.1
theorem VG.ge {G : GS} {B : Nat} (h : VG G B) : ∀ k, k < szG G → ∃ x y x' y', x < 25 ∧ y < 25 ∧ x' < 25 ∧ y' < 25 ∧ G.2.2 5 k = nI x ∧ G.2.2 6 k = nI y ∧ G.2.2 5 k + sX (G.2.2 7 k) = nI x' ∧ G.2.2 6 k + sY (G.2.2 7 k) = nI y' := h.2.2.2.2.2.2.2.2.2.2.2.2.2.2.2.2.2.2.1
theorem VG.cv {G : GS} {B : Nat} (h : VG G B) : ∀ x y, x < 25 → y < 25 → (bitG G x y ↔ ∃ k, k < szG G ∧ coversG G k (nI x) (nI y)) := h.2.2.2.2.2.2.2.2.2.2.2.2.2.2.2.2.2.2.2.1
theorem VG.co {G : GS} {B : Nat} (h : VG G B) : frY G 25 + 2 * szG G = 625 := h.2.2.2.2.2.2.2.2.2.2.2.2.2.2.2.2.2.2.2.2
theorem VG.mk {G : GS} {B : Nat} (sz : G.2.1 0 = nI (szG G)) (sz28 : szG G ≤ 28) (hb : G.1 7 = nI (hbG G)) (hb28 : hbG G ≤ 28) (rd : ∃ r, G.1 0 = nI r ∧ r ≤ B) (ph : G.1 3 = 0 ∨ G.1 3 = 1 ∨ G.1 3 = 2) (pl : G.1 3 = 1 → ∃ p t q, 2 ≤ p ∧ p ≤ 4 ∧ t < p ∧ q < p ∧ G.1 4 = nI p ∧ G.1 5 = nI t ∧ G.1 6 = nI q) (ho : ∀ t, t < 28 → G.2.2 1 t = -1 ∨ ∃ p, p < 4 ∧ G.2.2 1 t = nI p) (ti : ∀ k, k < szG G → tlG G k < 28 ∧ G.2.2 4 k = nI (tlG G k) ∧ G.2.2 1 (tlG G k) = -1) (td : ∀ j k, j < szG G → k < szG G → tlG G j = tlG G k → j = k) (he : ∀ i, hbG G ≤ i → i < 28 → ∃ t, t < 28 ∧ G.2.2 0 i = nI t ∧ G.2.2 1 t = -1 ∧ ∀ k, k < szG G → tlG G k ≠ t) (hd : ∀ i j, hbG G ≤ i → i < 28 → hbG G ≤ j → j < 28 → G.2.2 0 i = G.2.2 0 j → i = j) (di : ∃ d, d < 4 ∧ G.2.1 2 = nI d) (wa : ∀ k, k < szG G → ∃ d, d < 4 ∧ G.2.2 7 k = nI d) (fi : ∀ k, k < szG G → ∃ f, f ≤ lo (tlG G k) + hi (tlG G k) ∧ f ≤ 6 ∧ G.2.2 8 k = nI f) (en : (szG G = 0 ∧ G.2.1 1 = -1) ∨ (0 < szG G ∧ ∃ e, e ≤ 6 ∧ G.2.1 1 = nI e)) (nx0 : szG G = 0 → G.2.1 3 = 12 ∧ G.2.1 4 = 12) (nx1 : ∀ k, szG G = k + 1 → G.2.1 3 = G.2.2 5 k + sX (G.2.2 7 k) + sX (G.2.1 2) ∧ G.2.1 4 = G.2.2 6 k + sY (G.2.2 7 k) + sY (G.2.1 2)) (ge : ∀ k, k < szG G → ∃ x y x' y', x < 25 ∧ y < 25 ∧ x' < 25 ∧ y' < 25 ∧ G.2.2 5 k = nI x ∧ G.2.2 6 k = nI y ∧ G.2.2 5 k + sX (G.2.2 7 k) = nI x' ∧ G.2.2 6 k + sY (G.2.2 7 k) = nI y') (cv : ∀ x y, x < 25 → y < 25 → (bitG G x y ↔ ∃ k, k < szG G ∧ coversG G k (nI x) (nI y))) (co : frY G 25 + 2 * szG G = 625) : VG G B := ⟨sz, sz28, hb, hb28, rd, ph, pl, ho, ti, td, he, hd, di, wa, fi, en, nx0, nx1, ge, cv, co⟩
/-! how many tiles a player holds, and their pips -/
def cntH (h : Nat → Int32) (p : Int32) : Nat → Nat
  | 0 => 0
  | j + 1 => cntH h p j + if h j = p then 1 else 0
def pipH (h : Nat → Int32) (p : Int32) : Nat → Nat
  | 0 => 0
  | j + 1 => pipH h p j + if h j = p then lo j + hi j else 0
def mskH (h : Nat → Int32) (p : Int32) : Nat → Int32
  | 0 => 0
  | j + 1 => if h j = p then mskH h p j ||| jshl 1 (nI j) else mskH h p j
theorem f_handOf {n : Nat} (hn : 28 < n) (G : GS) (p : Int32) : f_X0_handOf n G p = some (mskH (G.2.2 1) p 28) := by
  unfold f_X0_handOf
  refine ex_eq (for2 28 (fun j a => a = mskH (G.2.2 1) p j) _ ?_ ?_ n 0 0 (by omega) (by omega) rfl)
  · rintro K a rfl
    unfold f_X0_handOf_h4
    simp (disch := omega) only [nI_leI, nI_ltI, nI_eq, nI_clamp, nI_add, nI_mul, nI_sub, nI_ne_m1, nI_ne_m1', chk_n, if_pos, if_neg, if_true, if_false, reduceCtorEq, Nat.add_zero, Nat.zero_add, not_true_eq_false, not_false_eq_true, Nat.not_lt_zero, Nat.zero_le, Option.bind_some, eq_self, e10, e01, em0, em1, e21, ckL_0, ckL_1, ckL_2, ckL_3, ckL_4, ckL_5, ckL_6, ckL_7, ckL_8, ckL_9, ckL_10, ckL_11, ckL_12, leL_0, geL_0, ltL_0, gtL_0, eqL_0, adL_0, muL_0, suL_0, slL_0, alL_0, tnL_0, leL_1, geL_1, ltL_1, gtL_1, eqL_1, adL_1, muL_1, suL_1, slL_1, alL_1, tnL_1, leL_2, geL_2, ltL_2, gtL_2, eqL_2, adL_2, muL_2, suL_2, slL_2, alL_2, tnL_2, leL_3, geL_3, ltL_3, gtL_3, eqL_3, adL_3, muL_3, suL_3, slL_3, alL_3, tnL_3, leL_4, geL_4, ltL_4, gtL_4, eqL_4, adL_4, muL_4, suL_4, slL_4, alL_4, tnL_4, leL_5, geL_5, ltL_5, gtL_5, eqL_5, adL_5, muL_5, suL_5, slL_5, alL_5, tnL_5, leL_6, geL_6, ltL_6, gtL_6, eqL_6, adL_6, muL_6, suL_6, slL_6, alL_6, tnL_6, leL_7, geL_7, ltL_7, gtL_7, eqL_7, adL_7, muL_7, suL_7, slL_7, alL_7, tnL_7, leL_8, geL_8, ltL_8, gtL_8, eqL_8, adL_8, muL_8, suL_8, slL_8, alL_8, tnL_8, leL_9, geL_9, ltL_9, gtL_9, eqL_9, adL_9, muL_9, suL_9, slL_9, alL_9, tnL_9, leL_10, geL_10, ltL_10, gtL_10, eqL_10, adL_10, muL_10, suL_10, slL_10, alL_10, tnL_10, leL_11, geL_11, ltL_11, gtL_11, eqL_11, adL_11, muL_11, suL_11, slL_11, alL_11, tnL_11, leL_12, geL_12, ltL_12, gtL_12, eqL_12, adL_12, muL_12, suL_12, slL_12, alL_12, tnL_12, leL_13, geL_13, ltL_13, gtL_13, eqL_13, adL_13, muL_13, suL_13, slL_13, alL_13, tnL_13, leL_14, geL_14, ltL_14, gtL_14, eqL_14, adL_14, muL_14, suL_14, slL_14, alL_14, tnL_14, leL_15, geL_15, ltL_15, gtL_15, eqL_15, adL_15, muL_15, suL_15, slL_15, alL_15, tnL_15, leL_16, geL_16, ltL_16, gtL_16, eqL_16, adL_16, muL_16, suL_16, slL_16, alL_16, tnL_16, leL_17, geL_17, ltL_17, gtL_17, eqL_17, adL_17, muL_17, suL_17, slL_17, alL_17, tnL_17, leL_21, geL_21, ltL_21, gtL_21, eqL_21, adL_21, muL_21, suL_21, slL_21, alL_21, tnL_21, leL_24, geL_24, ltL_24, gtL_24, eqL_24, adL_24, muL_24, suL_24, slL_24, alL_24, tnL_24, leL_25, geL_25, ltL_25, gtL_25, eqL_25, adL_25, muL_25, suL_25, slL_25, alL_25, tnL_25, leL_26, geL_26, ltL_26, gtL_26, eqL_26, adL_26, muL_26, suL_26, slL_26, alL_26, tnL_26, leL_27, geL_27, ltL_27, gtL_27, eqL_27, adL_27, muL_27, suL_27, slL_27, alL_27, tnL_27, leL_28, geL_28, ltL_28, gtL_28, eqL_28, adL_28, muL_28, suL_28, slL_28, alL_28, tnL_28, leL_48, geL_48, ltL_48, gtL_48, eqL_48, adL_48, muL_48, suL_48, slL_48, alL_48, tnL_48, leL_49, geL_49, ltL_49, gtL_49, eqL_49, adL_49, muL_49, suL_49, slL_49, alL_49, tnL_49, leL_63, geL_63, ltL_63, gtL_63, eqL_63, adL_63, muL_63, suL_63, slL_63, alL_63, tnL_63, leL_77, geL_77, ltL_77, gtL_77, eqL_77, adL_77, muL_77, suL_77, slL_77, alL_77, tnL_77, leL_99, geL_99, ltL_99, gtL_99, eqL_99, adL_99, muL_99, suL_99, slL_99, alL_99, tnL_99, leL_100, geL_100, ltL_100, gtL_100, eqL_100, adL_100, muL_100, suL_100, slL_100, alL_100, tnL_100, leL_119, geL_119, ltL_119, gtL_119, eqL_119, adL_119, muL_119, suL_119, slL_119, alL_119, tnL_119, leL_120, geL_120, ltL_120, gtL_120, eqL_120, adL_120, muL_120, suL_120, slL_120, alL_120, tnL_120, leL_200, geL_200, ltL_200, gtL_200, eqL_200, adL_200, muL_200, suL_200, slL_200, alL_200, tnL_200, leL_217, geL_217, ltL_217, gtL_217, eqL_217, adL_217, muL_217, suL_217, slL_217, alL_217, tnL_217, leL_255, geL_255, ltL_255, gtL_255, eqL_255, adL_255, muL_255, suL_255, slL_255, alL_255, tnL_255]
    exact ⟨_, rfl, rfl⟩
  · rintro K a j hj rfl
    left
    unfold f_X0_handOf_h4 f_X0_handOf_b26
    simp (disch := omega) only [nI_leI, nI_ltI, nI_eq, nI_clamp, nI_add, nI_mul, nI_sub, nI_ne_m1, nI_ne_m1', chk_n, if_pos, if_neg, if_true, if_false, reduceCtorEq, Nat.add_zero, Nat.zero_add, not_true_eq_false, not_false_eq_true, Nat.not_lt_zero, Nat.zero_le, Option.bind_some, eq_self, e10, e01, em0, em1, e21, ckL_0, ckL_1, ckL_2, ckL_3, ckL_4, ckL_5, ckL_6, ckL_7, ckL_8, ckL_9, ckL_10, ckL_11, ckL_12, leL_0, geL_0, ltL_0, gtL_0, eqL_0, adL_0, muL_0, suL_0, slL_0, alL_0, tnL_0, leL_1, geL_1, ltL_1, gtL_1, eqL_1, adL_1, muL_1, suL_1, slL_1, alL_1, tnL_1, leL_2, geL_2, ltL_2, gtL_2, eqL_2, adL_2, muL_2, suL_2, slL_2, alL_2, tnL_2, leL_3, geL_3, ltL_3, gtL_3, eqL_3, adL_3, muL_3, suL_3, slL_3, alL_3, tnL_3, leL_4, geL_4, ltL_4, gtL_4, eqL_4, adL_4, muL_4, suL_4, slL_4, alL_4, tnL_4, leL_5, geL_5, ltL_5, gtL_5, eqL_5, adL_5, muL_5, suL_5, slL_5, alL_5, tnL_5, leL_6, geL_6, ltL_6, gtL_6, eqL_6, adL_6, muL_6, suL_6, slL_6, alL_6, tnL_6, leL_7, geL_7, ltL_7, gtL_7, eqL_7, adL_7, muL_7, suL_7, slL_7, alL_7, tnL_7, leL_8, geL_8, ltL_8, gtL_8, eqL_8, adL_8, muL_8, suL_8, slL_8, alL_8, tnL_8, leL_9, geL_9, ltL_9, gtL_9, eqL_9, adL_9, muL_9, suL_9, slL_9, alL_9, tnL_9, leL_10, geL_10, ltL_10, gtL_10, eqL_10, adL_10, muL_10, suL_10, slL_10, alL_10, tnL_10, leL_11, geL_11, ltL_11, gtL_11, eqL_11, adL_11, muL_11, suL_11, slL_11, alL_11, tnL_11, leL_12, geL_12, ltL_12, gtL_12, eqL_12, adL_12, muL_12, suL_12, slL_12, alL_12, tnL_12, leL_13, geL_13, ltL_13, gtL_13, eqL_13, adL_13, muL_13, suL_13, slL_13, alL_13, tnL_13, leL_14, geL_14, ltL_14, gtL_14, eqL_14, adL_14, muL_14, suL_14, slL_14, alL_14, tnL_14, leL_15, geL_15, ltL_15, gtL_15, eqL_15, adL_15, muL_15, suL_15, slL_15, alL_15, tnL_15, leL_16, geL_16, ltL_16, gtL_16, eqL_16, adL_16, muL_16, suL_16, slL_16, alL_16, tnL_16, leL_17, geL_17, ltL_17, gtL_17, eqL_17, adL_17, muL_17, suL_17, slL_17, alL_17, tnL_17, leL_21, geL_21, ltL_21, gtL_21, eqL_21, adL_21, muL_21, suL_21, slL_21, alL_21, tnL_21, leL_24, geL_24, ltL_24, gtL_24, eqL_24, adL_24, muL_24, suL_24, slL_24, alL_24, tnL_24, leL_25, geL_25, ltL_25, gtL_25, eqL_25, adL_25, muL_25, suL_25, slL_25, alL_25, tnL_25, leL_26, geL_26, ltL_26, gtL_26, eqL_26, adL_26, muL_26, suL_26, slL_26, alL_26, tnL_26, leL_27, geL_27, ltL_27, gtL_27, eqL_27, adL_27, muL_27, suL_27, slL_27, alL_27, tnL_27, leL_28, geL_28, ltL_28, gtL_28, eqL_28, adL_28, muL_28, suL_28, slL_28, alL_28, tnL_28, leL_48, geL_48, ltL_48, gtL_48, eqL_48, adL_48, muL_48, suL_48, slL_48, alL_48, tnL_48, leL_49, geL_49, ltL_49, gtL_49, eqL_49, adL_49, muL_49, suL_49, slL_49, alL_49, tnL_49, leL_63, geL_63, ltL_63, gtL_63, eqL_63, adL_63, muL_63, suL_63, slL_63, alL_63, tnL_63, leL_77, geL_77, ltL_77, gtL_77, eqL_77, adL_77, muL_77, suL_77, slL_77, alL_77, tnL_77, leL_99, geL_99, ltL_99, gtL_99, eqL_99, adL_99, muL_99, suL_99, slL_99, alL_99, tnL_99, leL_100, geL_100, ltL_100, gtL_100, eqL_100, adL_100, muL_100, suL_100, slL_100, alL_100, tnL_100, leL_119, geL_119, ltL_119, gtL_119, eqL_119, adL_119, muL_119, suL_119, slL_119, alL_119, tnL_119, leL_120, geL_120, ltL_120, gtL_120, eqL_120, adL_120, muL_120, suL_120, slL_120, alL_120, tnL_120, leL_200, geL_200, ltL_200, gtL_200, eqL_200, adL_200, muL_200, suL_200, slL_200, alL_200, tnL_200, leL_217, geL_217, ltL_217, gtL_217, eqL_217, adL_217, muL_217, suL_217, slL_217, alL_217, tnL_217, leL_255, geL_255, ltL_255, gtL_255, eqL_255, adL_255, muL_255, suL_255, slL_255, alL_255, tnL_255]
    by_cases h : G.2.2 1 j = p
    · rw [if_pos h]
      exact ⟨_, rfl, (if_pos h).symm⟩
    · rw [if_neg h]
      exact ⟨_, rfl, (if_neg h).symm⟩
theorem f_pipsOf {n : Nat} (hn : 28 < n) (G : GS) (p : Int32) : f_X0_pipsOf n G p = some (nI (pipH (G.2.2 1) p 28)) := by
  unfold f_X0_pipsOf
  refine ex_eq (for2 28 (fun j a => a = nI (pipH (G.2.2 1) p j)) _ ?_ ?_ n 0 0 (by omega) (by omega) rfl)
  · rintro K a rfl
    unfold f_X0_pipsOf_h4
    simp (disch := omega) only [nI_leI, nI_ltI, nI_eq, nI_clamp, nI_add, nI_mul, nI_sub, nI_ne_m1, nI_ne_m1', chk_n, if_pos, if_neg, if_true, if_false, reduceCtorEq, Nat.add_zero, Nat.zero_add, not_true_eq_false, not_false_eq_true, Nat.not_lt_zero, Nat.zero_le, Option.bind_some, eq_self, e10, e01, em0, em1, e21, ckL_0, ckL_1, ckL_2, ckL_3, ckL_4, ckL_5, ckL_6, ckL_7, ckL_8, ckL_9, ckL_10, ckL_11, ckL_12, leL_0, geL_0, ltL_0, gtL_0, eqL_0, adL_0, muL_0, suL_0, slL_0, alL_0, tnL_0, leL_1, geL_1, ltL_1, gtL_1, eqL_1, adL_1, muL_1, suL_1, slL_1, alL_1, tnL_1, leL_2, geL_2, ltL_2, gtL_2, eqL_2, adL_2, muL_2, suL_2, slL_2, alL_2, tnL_2, leL_3, geL_3, ltL_3, gtL_3, eqL_3, adL_3, muL_3, suL_3, slL_3, alL_3, tnL_3, leL_4, geL_4, ltL_4, gtL_4, eqL_4, adL_4, muL_4, suL_4, slL_4, alL_4, tnL_4, leL_5, geL_5, ltL_5, gtL_5, eqL_5, adL_5, muL_5, suL_5, slL_5, alL_5, tnL_5, leL_6, geL_6, ltL_6, gtL_6, eqL_6, adL_6, muL_6, suL_6, slL_6, alL_6, tnL_6, leL_7, geL_7, ltL_7, gtL_7, eqL_7, adL_7, muL_7, suL_7, slL_7, alL_7, tnL_7, leL_8, geL_8, ltL_8, gtL_8, eqL_8, adL_8, muL_8, suL_8, slL_8, alL_8, tnL_8, leL_9, geL_9, ltL_9, gtL_9, eqL_9, adL_9, muL_9, suL_9, slL_9, alL_9, tnL_9, leL_10, geL_10, ltL_10, gtL_10, eqL_10, adL_10, muL_10, suL_10, slL_10, alL_10, tnL_10, leL_11, geL_11, ltL_11, gtL_11, eqL_11, adL_11, muL_11, suL_11, slL_11, alL_11, tnL_11, leL_12, geL_12, ltL_12, gtL_12, eqL_12, adL_12, muL_12, suL_12, slL_12, alL_12, tnL_12, leL_13, geL_13, ltL_13, gtL_13, eqL_13, adL_13, muL_13, suL_13, slL_13, alL_13, tnL_13, leL_14, geL_14, ltL_14, gtL_14, eqL_14, adL_14, muL_14, suL_14, slL_14, alL_14, tnL_14, leL_15, geL_15, ltL_15, gtL_15, eqL_15, adL_15, muL_15, suL_15, slL_15, alL_15, tnL_15, leL_16, geL_16, ltL_16, gtL_16, eqL_16, adL_16, muL_16, suL_16, slL_16, alL_16, tnL_16, leL_17, geL_17, ltL_17, gtL_17, eqL_17, adL_17, muL_17, suL_17, slL_17, alL_17, tnL_17, leL_21, geL_21, ltL_21, gtL_21, eqL_21, adL_21, muL_21, suL_21, slL_21, alL_21, tnL_21, leL_24, geL_24, ltL_24, gtL_24, eqL_24, adL_24, muL_24, suL_24, slL_24, alL_24, tnL_24, leL_25, geL_25, ltL_25, gtL_25, eqL_25, adL_25, muL_25, suL_25, slL_25, alL_25, tnL_25, leL_26, geL_26, ltL_26, gtL_26, eqL_26, adL_26, muL_26, suL_26, slL_26, alL_26, tnL_26, leL_27, geL_27, ltL_27, gtL_27, eqL_27, adL_27, muL_27, suL_27, slL_27, alL_27, tnL_27, leL_28, geL_28, ltL_28, gtL_28, eqL_28, adL_28, muL_28, suL_28, slL_28, alL_28, tnL_28, leL_48, geL_48, ltL_48, gtL_48, eqL_48, adL_48, muL_48, suL_48, slL_48, alL_48, tnL_48, leL_49, geL_49, ltL_49, gtL_49, eqL_49, adL_49, muL_49, suL_49, slL_49, alL_49, tnL_49, leL_63, geL_63, ltL_63, gtL_63, eqL_63, adL_63, muL_63, suL_63, slL_63, alL_63, tnL_63, leL_77, geL_77, ltL_77, gtL_77, eqL_77, adL_77, muL_77, suL_77, slL_77, alL_77, tnL_77, leL_99, geL_99, ltL_99, gtL_99, eqL_99, adL_99, muL_99, suL_99, slL_99, alL_99, tnL_99, leL_100, geL_100, ltL_100, gtL_100, eqL_100, adL_100, muL_100, suL_100, slL_100, alL_100, tnL_100, leL_119, geL_119, ltL_119, gtL_119, eqL_119, adL_119, muL_119, suL_119, slL_119, alL_119, tnL_119, leL_120, geL_120, ltL_120, gtL_120, eqL_120, adL_120, muL_120, suL_120, slL_120, alL_120, tnL_120, leL_200, geL_200, ltL_200, gtL_200, eqL_200, adL_200, muL_200, suL_200, slL_200, alL_200, tnL_200, leL_217, geL_217, ltL_217, gtL_217, eqL_217, adL_217, muL_217, suL_217, slL_217, alL_217, tnL_217, leL_255, geL_255, ltL_255, gtL_255, eqL_255, adL_255, muL_255, suL_255, slL_255, alL_255, tnL_255]
    exact ⟨_, rfl, rfl⟩
  · rintro K a j hj rfl
    left
    unfold f_X0_pipsOf_h4 f_X0_pipsOf_b34 stt
    simp (disch := omega) only [nI_leI, nI_ltI, nI_eq, nI_clamp, nI_add, nI_mul, nI_sub, nI_ne_m1, nI_ne_m1', chk_n, if_pos, if_neg, if_true, if_false, reduceCtorEq, Nat.add_zero, Nat.zero_add, not_true_eq_false, not_false_eq_true, Nat.not_lt_zero, Nat.zero_le, Option.bind_some, eq_self, e10, e01, em0, em1, e21, ckL_0, ckL_1, ckL_2, ckL_3, ckL_4, ckL_5, ckL_6, ckL_7, ckL_8, ckL_9, ckL_10, ckL_11, ckL_12, leL_0, geL_0, ltL_0, gtL_0, eqL_0, adL_0, muL_0, suL_0, slL_0, alL_0, tnL_0, leL_1, geL_1, ltL_1, gtL_1, eqL_1, adL_1, muL_1, suL_1, slL_1, alL_1, tnL_1, leL_2, geL_2, ltL_2, gtL_2, eqL_2, adL_2, muL_2, suL_2, slL_2, alL_2, tnL_2, leL_3, geL_3, ltL_3, gtL_3, eqL_3, adL_3, muL_3, suL_3, slL_3, alL_3, tnL_3, leL_4, geL_4, ltL_4, gtL_4, eqL_4, adL_4, muL_4, suL_4, slL_4, alL_4, tnL_4, leL_5, geL_5, ltL_5, gtL_5, eqL_5, adL_5, muL_5, suL_5, slL_5, alL_5, tnL_5, leL_6, geL_6, ltL_6, gtL_6, eqL_6, adL_6, muL_6, suL_6, slL_6, alL_6, tnL_6, leL_7, geL_7, ltL_7, gtL_7, eqL_7, adL_7, muL_7, suL_7, slL_7, alL_7, tnL_7, leL_8, geL_8, ltL_8, gtL_8, eqL_8, adL_8, muL_8, suL_8, slL_8, alL_8, tnL_8, leL_9, geL_9, ltL_9, gtL_9, eqL_9, adL_9, muL_9, suL_9, slL_9, alL_9, tnL_9, leL_10, geL_10, ltL_10, gtL_10, eqL_10, adL_10, muL_10, suL_10, slL_10, alL_10, tnL_10, leL_11, geL_11, ltL_11, gtL_11, eqL_11, adL_11, muL_11, suL_11, slL_11, alL_11, tnL_11, leL_12, geL_12, ltL_12, gtL_12, eqL_12, adL_12, muL_12, suL_12, slL_12, alL_12, tnL_12, leL_13, geL_13, ltL_13, gtL_13, eqL_13, adL_13, muL_13, suL_13, slL_13, alL_13, tnL_13, leL_14, geL_14, ltL_14, gtL_14, eqL_14, adL_14, muL_14, suL_14, slL_14, alL_14, tnL_14, leL_15, geL_15, ltL_15, gtL_15, eqL_15, adL_15, muL_15, suL_15, slL_15, alL_15, tnL_15, leL_16, geL_16, ltL_16, gtL_16, eqL_16, adL_16, muL_16, suL_16, slL_16, alL_16, tnL_16, leL_17, geL_17, ltL_17, gtL_17, eqL_17, adL_17, muL_17, suL_17, slL_17, alL_17, tnL_17, leL_21, geL_21, ltL_21, gtL_21, eqL_21, adL_21, muL_21, suL_21, slL_21, alL_21, tnL_21, leL_24, geL_24, ltL_24, gtL_24, eqL_24, adL_24, muL_24, suL_24, slL_24, alL_24, tnL_24, leL_25, geL_25, ltL_25, gtL_25, eqL_25, adL_25, muL_25, suL_25, slL_25, alL_25, tnL_25, leL_26, geL_26, ltL_26, gtL_26, eqL_26, adL_26, muL_26, suL_26, slL_26, alL_26, tnL_26, leL_27, geL_27, ltL_27, gtL_27, eqL_27, adL_27, muL_27, suL_27, slL_27, alL_27, tnL_27, leL_28, geL_28, ltL_28, gtL_28, eqL_28, adL_28, muL_28, suL_28, slL_28, alL_28, tnL_28, leL_48, geL_48, ltL_48, gtL_48, eqL_48, adL_48, muL_48, suL_48, slL_48, alL_48, tnL_48, leL_49, geL_49, ltL_49, gtL_49, eqL_49, adL_49, muL_49, suL_49, slL_49, alL_49, tnL_49, leL_63, geL_63, ltL_63, gtL_63, eqL_63, adL_63, muL_63, suL_63, slL_63, alL_63, tnL_63, leL_77, geL_77, ltL_77, gtL_77, eqL_77, adL_77, muL_77, suL_77, slL_77, alL_77, tnL_77, leL_99, geL_99, ltL_99, gtL_99, eqL_99, adL_99, muL_99, suL_99, slL_99, alL_99, tnL_99, leL_100, geL_100, ltL_100, gtL_100, eqL_100, adL_100, muL_100, suL_100, slL_100, alL_100, tnL_100, leL_119, geL_119, ltL_119, gtL_119, eqL_119, adL_119, muL_119, suL_119, slL_119, alL_119, tnL_119, leL_120, geL_120, ltL_120, gtL_120, eqL_120, adL_120, muL_120, suL_120, slL_120, alL_120, tnL_120, leL_200, geL_200, ltL_200, gtL_200, eqL_200, adL_200, muL_200, suL_200, slL_200, alL_200, tnL_200, leL_217, geL_217, ltL_217, gtL_217, eqL_217, adL_217, muL_217, suL_217, slL_217, alL_217, tnL_217, leL_255, geL_255, ltL_255, gtL_255, eqL_255, adL_255, muL_255, suL_255, slL_255, alL_255, tnL_255, (tl hj).1, (tl hj).2.1]
    by_cases h : G.2.2 1 j = p
    · rw [if_pos h]
      exact ⟨_, rfl, by simp only [pipH, if_pos h]⟩
    · rw [if_neg h]
      exact ⟨_, rfl, by simp only [pipH, if_neg h]; rfl⟩
theorem cntH_congr {h h' : Nat → Int32} {p : Int32} : ∀ N, (∀ j, j < N → h j = h' j) → cntH h p N = cntH h' p N := by
  intro N
  induction N with
  | zero => intro _; rfl
  | succ N ih =>
    intro e
    simp only [cntH]
    rw [ih (fun j hj => e j (by omega)), e N (by omega)]
theorem pipH_congr {h h' : Nat → Int32} {p : Int32} : ∀ N, (∀ j, j < N → h j = h' j) → pipH h p N = pipH h' p N := by
  intro N
  induction N with
  | zero => intro _; rfl
  | succ N ih =>
    intro e
    simp only [pipH]
    rw [ih (fun j hj => e j (by omega)), e N (by omega)]
