/-! PURE LEVEL: two games that no call can tell from each other; copies -/
theorem upd_eq {f : Nat → Int32} {k j : Nat} {x : Int32} (h : j = k) : upd f k x j = x := if_pos h
theorem upd_ne {f : Nat → Int32} {k j : Nat} {x : Int32} (h : j ≠ k) : upd f k x j = f j := if_neg h
def lmA (j : Nat) : Nat := if j = 2 then 4 else if j = 3 then 4 else if j = 9 then 25 else 28
theorem lmA_28 {j : Nat} (h2 : j ≠ 2) (h3 : j ≠ 3) (h9 : j ≠ 9) : lmA j = 28 := by
  unfold lmA
  rw [if_neg h2, if_neg h3, if_neg h9]
def eqG (G : GS) (H : GS) : Prop :=
  (∀ k, k < 8 → H.1 k = G.1 k) ∧
  (∀ k, k < 5 → H.2.1 k = G.2.1 k) ∧
  (∀ j k, j < 10 → k < lmA j → H.2.2 j k = G.2.2 j k)
theorem eqG.a {G : GS} {H : GS} (h : eqG G H) : ∀ k, k < 8 → H.1 k = G.1 k := h.1
theorem eqG.b {G : GS} {H : GS} (h : eqG G H) : ∀ k, k < 5 → H.2.1 k = G.2.1 k := h.2.1
theorem eqG.c {G : GS} {H : GS} (h : eqG G H) : ∀ j k, j < 10 → k < lmA j → H.2.2 j k = G.2.2 j k := h.2.2
theorem eqG.mk {G : GS} {H : GS} (a : ∀ k, k < 8 → H.1 k = G.1 k) (b : ∀ k, k < 5 → H.2.1 k = G.2.1 k) (c : ∀ j k, j < 10 → k < lmA j → H.2.2 j k = G.2.2 j k) : eqG G H := ⟨a, b, c⟩
theorem eqG.rfl' (G : GS) : eqG G G := eqG.mk (fun _ _ => rfl) (fun _ _ => rfl) (fun _ _ _ _ => rfl)
theorem frY_congr {G H : GS} (h : ∀ y, y < 25 → H.2.2 9 y = G.2.2 9 y) : frY H 25 = frY G 25 := by
  have hx : ∀ y, y < 25 → ∀ n, frX H y n = frX G y n := by
    intro y hy n
    induction n with
    | zero => rfl
    | succ n ih =>
      simp only [frX, ih, bitG, h y hy]
  have : ∀ n, n ≤ 25 → frY H n = frY G n := by
    intro n
    induction n with
    | zero => intro _; rfl
    | succ n ih =>
      intro hn
      simp only [frY]
      rw [ih (by omega), hx n (by omega)]
  exact this 25 (by omega)
theorem VG.re {G H : GS} {B B' : Nat} (V : VG G B) (h7 : H.1 7 = G.1 7) (hl : ∀ k, k < 5 → H.2.1 k = G.2.1 k) (ha : ∀ j k, j = 0 ∨ j = 1 ∨ (4 ≤ j ∧ j < 10) → k < lmA j → H.2.2 j k = G.2.2 j k)
    (rd : ∃ r, H.1 0 = nI r ∧ r ≤ B') (ph : H.1 3 = 0 ∨ H.1 3 = 1 ∨ H.1 3 = 2) (pl : H.1 3 = 1 → ∃ p t q, 2 ≤ p ∧ p ≤ 4 ∧ t < p ∧ q < p ∧ H.1 4 = nI p ∧ H.1 5 = nI t ∧ H.1 6 = nI q) : VG H B' := by
  have hsz : szG H = szG G := by unfold szG; rw [hl 0 (by omega)]
  have hhb : hbG H = hbG G := by unfold hbG; rw [h7]
  have e : ∀ j k, j = 0 ∨ j = 1 ∨ (4 ≤ j ∧ j < 9) → k < 28 → H.2.2 j k = G.2.2 j k := fun j k hj hk => ha j k (by omega) (by rw [lmA_28 (by omega) (by omega) (by omega)]; exact hk)
  have e9 : ∀ y, y < 25 → H.2.2 9 y = G.2.2 9 y := fun y hy => ha 9 y (by omega) hy
  have h28 := V.sz28
  have htl : ∀ k, k < szG G → tlG H k = tlG G k := fun k hk => by unfold tlG; rw [e 4 k (by omega) (by omega)]
  have hcv : ∀ k, k < szG G → ∀ x y, coversG H k x y ↔ coversG G k x y := fun k hk x y => by
    unfold coversG
    rw [e 5 k (by omega) (by omega), e 6 k (by omega) (by omega), e 7 k (by omega) (by omega)]
  refine VG.mk ?_ ?_ ?_ ?_ rd ph pl ?_ ?_ ?_ ?_ ?_ ?_ ?_ ?_ ?_ ?_ ?_ ?_ ?_ ?_
  · rw [hsz, hl 0 (by omega)]; exact V.sz
  · rw [hsz]; exact h28
  · rw [hhb, h7]; exact V.hb
  · rw [hhb]; exact V.hb28
  · intro t ht
    rw [e 1 t (by omega) ht]
    exact V.ho t ht
  · intro k hk
    rw [hsz] at hk
    have h1 := V.ti k hk
    rw [htl k hk, e 4 k (by omega) (by omega), e 1 _ (by omega) h1.1]
    exact h1
  · intro j k hj hk
    rw [hsz] at hj hk
    rw [htl j hj, htl k hk]
    exact V.td j k hj hk
  · intro i hi h2
    rw [hhb] at hi
    obtain ⟨t, h3, h4, h5, h6⟩ := V.he i hi h2
    refine ⟨t, h3, by rw [e 0 i (by omega) h2]; exact h4, by rw [e 1 t (by omega) h3]; exact h5, fun k hk => ?_⟩
    rw [hsz] at hk
    rw [htl k hk]
    exact h6 k hk
  · intro i j h1 h2 h3 h4
    rw [hhb] at h1 h3
    rw [e 0 i (by omega) h2, e 0 j (by omega) h4]
    exact V.hd i j h1 h2 h3 h4
  · rw [hl 2 (by omega)]; exact V.di
  · intro k hk
    rw [hsz] at hk
    rw [e 7 k (by omega) (by omega)]
    exact V.wa k hk
  · intro k hk
    rw [hsz] at hk
    rw [e 8 k (by omega) (by omega), htl k hk]
    exact V.fi k hk
  · rw [hsz, hl 1 (by omega)]; exact V.en
  · rw [hsz, hl 3 (by omega), hl 4 (by omega)]; exact V.nx0
  · intro k hk
    rw [hsz] at hk
    rw [hl 2 (by omega), hl 3 (by omega), hl 4 (by omega), e 5 k (by omega) (by omega), e 6 k (by omega) (by omega), e 7 k (by omega) (by omega)]
    exact V.nx1 k hk
  · intro k hk
    rw [hsz] at hk
    rw [e 5 k (by omega) (by omega), e 6 k (by omega) (by omega), e 7 k (by omega) (by omega)]
    exact V.ge k hk
  · intro x y hx hy
    rw [hsz]
    have h1 := V.cv x y hx hy
    unfold bitG at h1 ⊢
    rw [e9 y hy, h1]
    exact ⟨fun ⟨k, h2, h3⟩ => ⟨k, h2, (hcv k h2 _ _).mpr h3⟩, fun ⟨k, h2, h3⟩ => ⟨k, h2, (hcv k h2 _ _).mp h3⟩⟩
  · rw [hsz, frY_congr e9]; exact V.co
theorem VG.le {G : GS} {B B' : Nat} (V : VG G B) (h : B ≤ B') : VG G B' := by
  obtain ⟨r, h1, h2⟩ := V.rd
  exact V.re rfl (fun _ _ => rfl) (fun _ _ _ _ => rfl) ⟨r, h1, by omega⟩ V.ph V.pl
theorem VG.eq {G H : GS} {B : Nat} (V : VG G B) (E : eqG G H) : VG H B := by
  refine V.re (E.a 7 (by omega)) E.b (fun j k hj hk => E.c j k (by omega) hk) ?_ ?_ ?_
  · rw [E.a 0 (by omega)]; exact V.rd
  · rw [E.a 3 (by omega)]; exact V.ph
  · rw [E.a 3 (by omega), E.a 4 (by omega), E.a 5 (by omega), E.a 6 (by omega)]; exact V.pl
theorem trn_congr {G H : GS} {side : Int32} (hs : szG H = szG G) (h2 : H.2.1 2 = G.2.1 2) : ∀ N, N ≤ szG G → (∀ k, k < szG G → H.2.2 7 k = G.2.2 7 k) → trn H side N = trn G side N := by
  intro N
  induction N with
  | zero => intro _ _; rfl
  | succ N ih =>
    intro hN h
    simp only [trn]
    rw [ih (by omega) h]
    have e : trnAt H N = trnAt G N := by
      unfold trnAt
      rw [hs, h2, h N (by omega)]
      by_cases q : N + 1 < szG G
      · rw [if_pos q, if_pos q, h (N + 1) q]
      · rw [if_neg q, if_neg q]
    rw [e]
theorem eqG.sym {G H : GS} (E : eqG G H) : eqG H G := eqG.mk (fun k hk => (E.a k hk).symm) (fun k hk => (E.b k hk).symm) (fun j k hj hk => (E.c j k hj hk).symm)
theorem cpy_lt {f g : Nat → Int32} {n k : Nat} {z m : Int32} (hz : z.toNatClampNeg = 0) (hm : m.toNatClampNeg = n) (h : k < n) : va_cpy f g z.toNatClampNeg z.toNatClampNeg m.toNatClampNeg k = f k := by
  unfold va_cpy
  rw [hz, hm, if_pos ⟨Nat.zero_le k, by omega⟩]
  simp
theorem becomeLike_eq (G2 G : GS) : ∃ H, f_X0_becomeLike G2 G = some H ∧ eqG G2 H := by
  unfold f_X0_becomeLike f_X2_becomeLike stt
  refine ⟨_, rfl, eqG.mk (fun k hk => ?_) (fun k hk => ?_) (fun j k hj hk => ?_)⟩
  · match k, hk with
    | 0, _ => rfl
    | 1, _ => rfl
    | 2, _ => rfl
    | 3, _ => rfl
    | 4, _ => rfl
    | 5, _ => rfl
    | 6, _ => rfl
    | 7, _ => rfl
  · match k, hk with
    | 0, _ => rfl
    | 1, _ => rfl
    | 2, _ => rfl
    | 3, _ => rfl
    | 4, _ => rfl
  · match j, hj with
    | 0, _ => exact cpy_lt (n := 28) (by decide) (by decide) hk
    | 1, _ => exact cpy_lt (n := 28) (by decide) (by decide) hk
    | 2, _ => exact cpy_lt (n := 4) (by decide) (by decide) hk
    | 3, _ => exact cpy_lt (n := 4) (by decide) (by decide) hk
    | 4, _ => exact cpy_lt (n := 28) (by decide) (by decide) hk
    | 5, _ => exact cpy_lt (n := 28) (by decide) (by decide) hk
    | 6, _ => exact cpy_lt (n := 28) (by decide) (by decide) hk
    | 7, _ => exact cpy_lt (n := 28) (by decide) (by decide) hk
    | 8, _ => exact cpy_lt (n := 28) (by decide) (by decide) hk
    | 9, _ => exact cpy_lt (n := 25) (by decide) (by decide) hk
