/-! PURE WORDS: an Option is none where the machine itself would throw, or where the fuel is used up -/
abbrev inB (i : Int32) (N : Nat) : Prop := ¬ (i < 0 ∨ N ≤ i.toNatClampNeg)
def chk (P : Prop) [Decidable P] {α : Type} (x : Option α) : Option α := if P then x else none
theorem chk_some {P : Prop} [Decidable P] {α : Type} {x : Option α} {r : α} (h : chk P x = some r) : P ∧ x = some r := by
  unfold chk at h
  split at h
  · exact ⟨by assumption, h⟩
  · cases h
theorem chk_t {P : Prop} [Decidable P] {α : Type} {x : Option α} (h : P) : chk P x = x := if_pos h
theorem ip {c : Prop} [Decidable c] {α : Type} {a b : Option α} {r : α} (h : c) (hf : (if c then a else b) = some r) : a = some r := by rwa [if_pos h] at hf
theorem iN {c : Prop} [Decidable c] {α : Type} {a b : Option α} {r : α} (h : ¬ c) (hf : (if c then a else b) = some r) : b = some r := by rwa [if_neg h] at hf
theorem bd_some {α β : Type} {x : Option α} {f : α → Option β} {r : β} (h : x.bind f = some r) : ∃ a, x = some a ∧ f a = some r := by
  cases x with
  | none => cases h
  | some a => exact ⟨a, rfl, h⟩
def jmax (x y : Int32) : Int32 := if x < y then y else x
def jmin (x y : Int32) : Int32 := if y < x then y else x
theorem ne_toInt {x v : Int32} {z : Int} (hv : v.toInt = z) (h : ¬ x = v) : x.toInt ≠ z := fun e => h (Int32.toInt_inj.mp (e.trans hv.symm))
def lo1 {A1 R : Type} (F : (A1 → Option R) → A1 → Option R) : Nat → A1 → Option R
  | 0 => fun _ => none
  | n + 1 => F (lo1 F n)
theorem lo1_s {A1 R : Type} (F : (A1 → Option R) → A1 → Option R) (n : Nat) : lo1 F (n + 1) = F (lo1 F n) := rfl
theorem lo1_ind {A1 R : Type} {F : (A1 → Option R) → A1 → Option R} (Z : A1 → R → Prop) (hs : ∀ K : A1 → Option R, (∀ a1 r, K a1 = some r → Z a1 r) → ∀ a1 r, F K a1 = some r → Z a1 r) : ∀ (n : Nat) a1 r, lo1 F n a1 = some r → Z a1 r := by
  intro n
  induction n with
  | zero => intro a1 r h; cases h
  | succ n ih => exact hs _ ih
def lo2 {A1 A2 R : Type} (F : (A1 → A2 → Option R) → A1 → A2 → Option R) : Nat → A1 → A2 → Option R
  | 0 => fun _ _ => none
  | n + 1 => F (lo2 F n)
theorem lo2_s {A1 A2 R : Type} (F : (A1 → A2 → Option R) → A1 → A2 → Option R) (n : Nat) : lo2 F (n + 1) = F (lo2 F n) := rfl
theorem lo2_ind {A1 A2 R : Type} {F : (A1 → A2 → Option R) → A1 → A2 → Option R} (Z : A1 → A2 → R → Prop) (hs : ∀ K : A1 → A2 → Option R, (∀ a1 a2 r, K a1 a2 = some r → Z a1 a2 r) → ∀ a1 a2 r, F K a1 a2 = some r → Z a1 a2 r) : ∀ (n : Nat) a1 a2 r, lo2 F n a1 a2 = some r → Z a1 a2 r := by
  intro n
  induction n with
  | zero => intro a1 a2 r h; cases h
  | succ n ih => exact hs _ ih
def lo3 {A1 A2 A3 R : Type} (F : (A1 → A2 → A3 → Option R) → A1 → A2 → A3 → Option R) : Nat → A1 → A2 → A3 → Option R
  | 0 => fun _ _ _ => none
  | n + 1 => F (lo3 F n)
theorem lo3_s {A1 A2 A3 R : Type} (F : (A1 → A2 → A3 → Option R) → A1 → A2 → A3 → Option R) (n : Nat) : lo3 F (n + 1) = F (lo3 F n) := rfl
theorem lo3_ind {A1 A2 A3 R : Type} {F : (A1 → A2 → A3 → Option R) → A1 → A2 → A3 → Option R} (Z : A1 → A2 → A3 → R → Prop) (hs : ∀ K : A1 → A2 → A3 → Option R, (∀ a1 a2 a3 r, K a1 a2 a3 = some r → Z a1 a2 a3 r) → ∀ a1 a2 a3 r, F K a1 a2 a3 = some r → Z a1 a2 a3 r) : ∀ (n : Nat) a1 a2 a3 r, lo3 F n a1 a2 a3 = some r → Z a1 a2 a3 r := by
  intro n
  induction n with
  | zero => intro a1 a2 a3 r h; cases h
  | succ n ih => exact hs _ ih
def lo4 {A1 A2 A3 A4 R : Type} (F : (A1 → A2 → A3 → A4 → Option R) → A1 → A2 → A3 → A4 → Option R) : Nat → A1 → A2 → A3 → A4 → Option R
  | 0 => fun _ _ _ _ => none
  | n + 1 => F (lo4 F n)
theorem lo4_s {A1 A2 A3 A4 R : Type} (F : (A1 → A2 → A3 → A4 → Option R) → A1 → A2 → A3 → A4 → Option R) (n : Nat) : lo4 F (n + 1) = F (lo4 F n) := rfl
theorem lo4_ind {A1 A2 A3 A4 R : Type} {F : (A1 → A2 → A3 → A4 → Option R) → A1 → A2 → A3 → A4 → Option R} (Z : A1 → A2 → A3 → A4 → R → Prop) (hs : ∀ K : A1 → A2 → A3 → A4 → Option R, (∀ a1 a2 a3 a4 r, K a1 a2 a3 a4 = some r → Z a1 a2 a3 a4 r) → ∀ a1 a2 a3 a4 r, F K a1 a2 a3 a4 = some r → Z a1 a2 a3 a4 r) : ∀ (n : Nat) a1 a2 a3 a4 r, lo4 F n a1 a2 a3 a4 = some r → Z a1 a2 a3 a4 r := by
  intro n
  induction n with
  | zero => intro a1 a2 a3 a4 r h; cases h
  | succ n ih => exact hs _ ih
def lo5 {A1 A2 A3 A4 A5 R : Type} (F : (A1 → A2 → A3 → A4 → A5 → Option R) → A1 → A2 → A3 → A4 → A5 → Option R) : Nat → A1 → A2 → A3 → A4 → A5 → Option R
  | 0 => fun _ _ _ _ _ => none
  | n + 1 => F (lo5 F n)
theorem lo5_s {A1 A2 A3 A4 A5 R : Type} (F : (A1 → A2 → A3 → A4 → A5 → Option R) → A1 → A2 → A3 → A4 → A5 → Option R) (n : Nat) : lo5 F (n + 1) = F (lo5 F n) := rfl
theorem lo5_ind {A1 A2 A3 A4 A5 R : Type} {F : (A1 → A2 → A3 → A4 → A5 → Option R) → A1 → A2 → A3 → A4 → A5 → Option R} (Z : A1 → A2 → A3 → A4 → A5 → R → Prop) (hs : ∀ K : A1 → A2 → A3 → A4 → A5 → Option R, (∀ a1 a2 a3 a4 a5 r, K a1 a2 a3 a4 a5 = some r → Z a1 a2 a3 a4 a5 r) → ∀ a1 a2 a3 a4 a5 r, F K a1 a2 a3 a4 a5 = some r → Z a1 a2 a3 a4 a5 r) : ∀ (n : Nat) a1 a2 a3 a4 a5 r, lo5 F n a1 a2 a3 a4 a5 = some r → Z a1 a2 a3 a4 a5 r := by
  intro n
  induction n with
  | zero => intro a1 a2 a3 a4 a5 r h; cases h
  | succ n ih => exact hs _ ih
def lo6 {A1 A2 A3 A4 A5 A6 R : Type} (F : (A1 → A2 → A3 → A4 → A5 → A6 → Option R) → A1 → A2 → A3 → A4 → A5 → A6 → Option R) : Nat → A1 → A2 → A3 → A4 → A5 → A6 → Option R
  | 0 => fun _ _ _ _ _ _ => none
  | n + 1 => F (lo6 F n)
theorem lo6_s {A1 A2 A3 A4 A5 A6 R : Type} (F : (A1 → A2 → A3 → A4 → A5 → A6 → Option R) → A1 → A2 → A3 → A4 → A5 → A6 → Option R) (n : Nat) : lo6 F (n + 1) = F (lo6 F n) := rfl
theorem lo6_ind {A1 A2 A3 A4 A5 A6 R : Type} {F : (A1 → A2 → A3 → A4 → A5 → A6 → Option R) → A1 → A2 → A3 → A4 → A5 → A6 → Option R} (Z : A1 → A2 → A3 → A4 → A5 → A6 → R → Prop) (hs : ∀ K : A1 → A2 → A3 → A4 → A5 → A6 → Option R, (∀ a1 a2 a3 a4 a5 a6 r, K a1 a2 a3 a4 a5 a6 = some r → Z a1 a2 a3 a4 a5 a6 r) → ∀ a1 a2 a3 a4 a5 a6 r, F K a1 a2 a3 a4 a5 a6 = some r → Z a1 a2 a3 a4 a5 a6 r) : ∀ (n : Nat) a1 a2 a3 a4 a5 a6 r, lo6 F n a1 a2 a3 a4 a5 a6 = some r → Z a1 a2 a3 a4 a5 a6 r := by
  intro n
  induction n with
  | zero => intro a1 a2 a3 a4 a5 a6 r h; cases h
  | succ n ih => exact hs _ ih
def lo7 {A1 A2 A3 A4 A5 A6 A7 R : Type} (F : (A1 → A2 → A3 → A4 → A5 → A6 → A7 → Option R) → A1 → A2 → A3 → A4 → A5 → A6 → A7 → Option R) : Nat → A1 → A2 → A3 → A4 → A5 → A6 → A7 → Option R
  | 0 => fun _ _ _ _ _ _ _ => none
  | n + 1 => F (lo7 F n)
theorem lo7_s {A1 A2 A3 A4 A5 A6 A7 R : Type} (F : (A1 → A2 → A3 → A4 → A5 → A6 → A7 → Option R) → A1 → A2 → A3 → A4 → A5 → A6 → A7 → Option R) (n : Nat) : lo7 F (n + 1) = F (lo7 F n) := rfl
theorem lo7_ind {A1 A2 A3 A4 A5 A6 A7 R : Type} {F : (A1 → A2 → A3 → A4 → A5 → A6 → A7 → Option R) → A1 → A2 → A3 → A4 → A5 → A6 → A7 → Option R} (Z : A1 → A2 → A3 → A4 → A5 → A6 → A7 → R → Prop) (hs : ∀ K : A1 → A2 → A3 → A4 → A5 → A6 → A7 → Option R, (∀ a1 a2 a3 a4 a5 a6 a7 r, K a1 a2 a3 a4 a5 a6 a7 = some r → Z a1 a2 a3 a4 a5 a6 a7 r) → ∀ a1 a2 a3 a4 a5 a6 a7 r, F K a1 a2 a3 a4 a5 a6 a7 = some r → Z a1 a2 a3 a4 a5 a6 a7 r) : ∀ (n : Nat) a1 a2 a3 a4 a5 a6 a7 r, lo7 F n a1 a2 a3 a4 a5 a6 a7 = some r → Z a1 a2 a3 a4 a5 a6 a7 r := by
  intro n
  induction n with
  | zero => intro a1 a2 a3 a4 a5 a6 a7 r h; cases h
  | succ n ih => exact hs _ ih
def lo8 {A1 A2 A3 A4 A5 A6 A7 A8 R : Type} (F : (A1 → A2 → A3 → A4 → A5 → A6 → A7 → A8 → Option R) → A1 → A2 → A3 → A4 → A5 → A6 → A7 → A8 → Option R) : Nat → A1 → A2 → A3 → A4 → A5 → A6 → A7 → A8 → Option R
  | 0 => fun _ _ _ _ _ _ _ _ => none
  | n + 1 => F (lo8 F n)
theorem lo8_s {A1 A2 A3 A4 A5 A6 A7 A8 R : Type} (F : (A1 → A2 → A3 → A4 → A5 → A6 → A7 → A8 → Option R) → A1 → A2 → A3 → A4 → A5 → A6 → A7 → A8 → Option R) (n : Nat) : lo8 F (n + 1) = F (lo8 F n) := rfl
theorem lo8_ind {A1 A2 A3 A4 A5 A6 A7 A8 R : Type} {F : (A1 → A2 → A3 → A4 → A5 → A6 → A7 → A8 → Option R) → A1 → A2 → A3 → A4 → A5 → A6 → A7 → A8 → Option R} (Z : A1 → A2 → A3 → A4 → A5 → A6 → A7 → A8 → R → Prop) (hs : ∀ K : A1 → A2 → A3 → A4 → A5 → A6 → A7 → A8 → Option R, (∀ a1 a2 a3 a4 a5 a6 a7 a8 r, K a1 a2 a3 a4 a5 a6 a7 a8 = some r → Z a1 a2 a3 a4 a5 a6 a7 a8 r) → ∀ a1 a2 a3 a4 a5 a6 a7 a8 r, F K a1 a2 a3 a4 a5 a6 a7 a8 = some r → Z a1 a2 a3 a4 a5 a6 a7 a8 r) : ∀ (n : Nat) a1 a2 a3 a4 a5 a6 a7 a8 r, lo8 F n a1 a2 a3 a4 a5 a6 a7 a8 = some r → Z a1 a2 a3 a4 a5 a6 a7 a8 r := by
  intro n
  induction n with
  | zero => intro a1 a2 a3 a4 a5 a6 a7 a8 r h; cases h
  | succ n ih => exact hs _ ih
/-! A GAME: the numbers of the Game, those of its Line, the ten arrays (row, holders, scores, wins; tiles, xs, ys, ways, firsts, covered) -/
abbrev GS : Type := (Nat → Int32) × (Nat → Int32) × (Nat → Nat → Int32)
def gS (G : GS) (k : Nat) (v : Int32) : GS := (upd G.1 k v, G.2)
def gL (G : GS) (k : Nat) (v : Int32) : GS := (G.1, upd G.2.1 k v, G.2.2)
def gA (G : GS) (j : Nat) (f : Nat → Int32) : GS := (G.1, G.2.1, va_up G.2.2 j f)
abbrev gO (g : Nat) (G : GS) : List Value := [.int (G.1 0), .int (G.1 1), .int (G.1 2), .int (G.1 3), .int (G.1 4), .int (G.1 5), .int (G.1 6), .ref (g + 1), .int (G.1 7), .ref (g + 2), .ref (g + 3), .ref (g + 4), .ref (g + 5)]
abbrev gLO (g : Nat) (G : GS) : List Value := [.int (G.2.1 0), .int (G.2.1 1), .int (G.2.1 2), .int (G.2.1 3), .int (G.2.1 4), .ref (g + 6), .ref (g + 7), .ref (g + 8), .ref (g + 9), .ref (g + 10), .ref (g + 11)]
def pG (E : zE) (h0 : Hp) (g : Nat) (G : GS) : Hp := fun a => if a = g then some (.inr (0, gO g G)) else if a = g + 1 then some (.inl (zI E, 28, .inl (G.2.2 0))) else if a = g + 2 then some (.inl (zI E, 28, .inl (G.2.2 1))) else if a = g + 3 then some (.inl (zI E, 4, .inl (G.2.2 2))) else if a = g + 4 then some (.inl (zI E, 4, .inl (G.2.2 3))) else if a = g + 5 then some (.inr (2, gLO g G)) else if a = g + 6 then some (.inl (zI E, 28, .inl (G.2.2 4))) else if a = g + 7 then some (.inl (zI E, 28, .inl (G.2.2 5))) else if a = g + 8 then some (.inl (zI E, 28, .inl (G.2.2 6))) else if a = g + 9 then some (.inl (zI E, 28, .inl (G.2.2 7))) else if a = g + 10 then some (.inl (zI E, 28, .inl (G.2.2 8))) else if a = g + 11 then some (.inl (zI E, 25, .inl (G.2.2 9))) else h0 a
section PG
variable {E : zE} {h0 : Hp} {g : Nat} {G : GS}
theorem pG_o : pG E h0 g G g = some (.inr (0, gO g G)) := by simp [pG]
theorem pG_l : pG E h0 g G (g + 5) = some (.inr (2, gLO g G)) := by simp [pG]
theorem pG_a0 : pG E h0 g G (g + 1) = some (.inl (zI E, 28, .inl (G.2.2 0))) := by simp [pG]
theorem pG_a1 : pG E h0 g G (g + 2) = some (.inl (zI E, 28, .inl (G.2.2 1))) := by simp [pG]
theorem pG_a2 : pG E h0 g G (g + 3) = some (.inl (zI E, 4, .inl (G.2.2 2))) := by simp [pG]
theorem pG_a3 : pG E h0 g G (g + 4) = some (.inl (zI E, 4, .inl (G.2.2 3))) := by simp [pG]
theorem pG_a4 : pG E h0 g G (g + 6) = some (.inl (zI E, 28, .inl (G.2.2 4))) := by simp [pG]
theorem pG_a5 : pG E h0 g G (g + 7) = some (.inl (zI E, 28, .inl (G.2.2 5))) := by simp [pG]
theorem pG_a6 : pG E h0 g G (g + 8) = some (.inl (zI E, 28, .inl (G.2.2 6))) := by simp [pG]
theorem pG_a7 : pG E h0 g G (g + 9) = some (.inl (zI E, 28, .inl (G.2.2 7))) := by simp [pG]
theorem pG_a8 : pG E h0 g G (g + 10) = some (.inl (zI E, 28, .inl (G.2.2 8))) := by simp [pG]
theorem pG_a9 : pG E h0 g G (g + 11) = some (.inl (zI E, 25, .inl (G.2.2 9))) := by simp [pG]
theorem pG_so (S : Nat → Int32) : hup (pG E h0 g G) g (.inr (0, gO g (S, G.2))) = pG E h0 g (S, G.2) := by
  funext a
  by_cases e : a = g
  · simp [hup, pG, e]
  · simp [hup, pG, e]
theorem pG_sl (L : Nat → Int32) : hup (pG E h0 g G) (g + 5) (.inr (2, gLO g (G.1, L, G.2.2))) = pG E h0 g (G.1, L, G.2.2) := by
  funext a
  by_cases e : a = g + 5
  · simp [hup, pG, e]
  · simp [hup, pG, e]
theorem pG_s0 (v : Int32) : hup (pG E h0 g G) g (.inr (0, (gO g G).set 0 (.int v))) = pG E h0 g (gS G 0 v) := pG_so (upd G.1 0 v)
theorem pG_s1 (v : Int32) : hup (pG E h0 g G) g (.inr (0, (gO g G).set 1 (.int v))) = pG E h0 g (gS G 1 v) := pG_so (upd G.1 1 v)
theorem pG_s2 (v : Int32) : hup (pG E h0 g G) g (.inr (0, (gO g G).set 2 (.int v))) = pG E h0 g (gS G 2 v) := pG_so (upd G.1 2 v)
theorem pG_s3 (v : Int32) : hup (pG E h0 g G) g (.inr (0, (gO g G).set 3 (.int v))) = pG E h0 g (gS G 3 v) := pG_so (upd G.1 3 v)
theorem pG_s4 (v : Int32) : hup (pG E h0 g G) g (.inr (0, (gO g G).set 4 (.int v))) = pG E h0 g (gS G 4 v) := pG_so (upd G.1 4 v)
theorem pG_s5 (v : Int32) : hup (pG E h0 g G) g (.inr (0, (gO g G).set 5 (.int v))) = pG E h0 g (gS G 5 v) := pG_so (upd G.1 5 v)
theorem pG_s6 (v : Int32) : hup (pG E h0 g G) g (.inr (0, (gO g G).set 6 (.int v))) = pG E h0 g (gS G 6 v) := pG_so (upd G.1 6 v)
theorem pG_s7 (v : Int32) : hup (pG E h0 g G) g (.inr (0, (gO g G).set 8 (.int v))) = pG E h0 g (gS G 7 v) := pG_so (upd G.1 7 v)
theorem pG_l0 (v : Int32) : hup (pG E h0 g G) (g + 5) (.inr (2, (gLO g G).set 0 (.int v))) = pG E h0 g (gL G 0 v) := pG_sl (upd G.2.1 0 v)
theorem pG_l1 (v : Int32) : hup (pG E h0 g G) (g + 5) (.inr (2, (gLO g G).set 1 (.int v))) = pG E h0 g (gL G 1 v) := pG_sl (upd G.2.1 1 v)
theorem pG_l2 (v : Int32) : hup (pG E h0 g G) (g + 5) (.inr (2, (gLO g G).set 2 (.int v))) = pG E h0 g (gL G 2 v) := pG_sl (upd G.2.1 2 v)
theorem pG_l3 (v : Int32) : hup (pG E h0 g G) (g + 5) (.inr (2, (gLO g G).set 3 (.int v))) = pG E h0 g (gL G 3 v) := pG_sl (upd G.2.1 3 v)
theorem pG_l4 (v : Int32) : hup (pG E h0 g G) (g + 5) (.inr (2, (gLO g G).set 4 (.int v))) = pG E h0 g (gL G 4 v) := pG_sl (upd G.2.1 4 v)
theorem pG_w0 (f : Nat → Int32) : hup (pG E h0 g G) (g + 1) (.inl (zI E, 28, .inl f)) = pG E h0 g (gA G 0 f) := by
  funext a
  by_cases e : a = g + 1
  · simp [hup, pG, gA, va_up, e]
  · simp [hup, pG, gA, va_up, e]
theorem pG_w1 (f : Nat → Int32) : hup (pG E h0 g G) (g + 2) (.inl (zI E, 28, .inl f)) = pG E h0 g (gA G 1 f) := by
  funext a
  by_cases e : a = g + 2
  · simp [hup, pG, gA, va_up, e]
  · simp [hup, pG, gA, va_up, e]
theorem pG_w2 (f : Nat → Int32) : hup (pG E h0 g G) (g + 3) (.inl (zI E, 4, .inl f)) = pG E h0 g (gA G 2 f) := by
  funext a
  by_cases e : a = g + 3
  · simp [hup, pG, gA, va_up, e]
  · simp [hup, pG, gA, va_up, e]
theorem pG_w3 (f : Nat → Int32) : hup (pG E h0 g G) (g + 4) (.inl (zI E, 4, .inl f)) = pG E h0 g (gA G 3 f) := by
  funext a
  by_cases e : a = g + 4
  · simp [hup, pG, gA, va_up, e]
  · simp [hup, pG, gA, va_up, e]
theorem pG_w4 (f : Nat → Int32) : hup (pG E h0 g G) (g + 6) (.inl (zI E, 28, .inl f)) = pG E h0 g (gA G 4 f) := by
  funext a
  by_cases e : a = g + 6
  · simp [hup, pG, gA, va_up, e]
  · simp [hup, pG, gA, va_up, e]
theorem pG_w5 (f : Nat → Int32) : hup (pG E h0 g G) (g + 7) (.inl (zI E, 28, .inl f)) = pG E h0 g (gA G 5 f) := by
  funext a
  by_cases e : a = g + 7
  · simp [hup, pG, gA, va_up, e]
  · simp [hup, pG, gA, va_up, e]
theorem pG_w6 (f : Nat → Int32) : hup (pG E h0 g G) (g + 8) (.inl (zI E, 28, .inl f)) = pG E h0 g (gA G 6 f) := by
  funext a
  by_cases e : a = g + 8
  · simp [hup, pG, gA, va_up, e]
  · simp [hup, pG, gA, va_up, e]
theorem pG_w7 (f : Nat → Int32) : hup (pG E h0 g G) (g + 9) (.inl (zI E, 28, .inl f)) = pG E h0 g (gA G 7 f) := by
  funext a
  by_cases e : a = g + 9
  · simp [hup, pG, gA, va_up, e]
  · simp [hup, pG, gA, va_up, e]
theorem pG_w8 (f : Nat → Int32) : hup (pG E h0 g G) (g + 10) (.inl (zI E, 28, .inl f)) = pG E h0 g (gA G 8 f) := by
  funext a
  by_cases e : a = g + 10
  · simp [hup, pG, gA, va_up, e]
  · simp [hup, pG, gA, va_up, e]
theorem pG_w9 (f : Nat → Int32) : hup (pG E h0 g G) (g + 11) (.inl (zI E, 25, .inl f)) = pG E h0 g (gA G 9 f) := by
  funext a
  by_cases e : a = g + 11
  · simp [hup, pG, gA, va_up, e]
  · simp [hup, pG, gA, va_up, e]
end PG
/-! A TEXT: its length, its signs -/
abbrev TS : Type := Int32 × (Nat → Int32)
abbrev tO (a : Nat) (T : TS) : List Value := [.ref (a + 1), .int T.1]
def pT (E : zE) (h0 : Hp) (a : Nat) (T : TS) : Hp := fun q => if q = a then some (.inr (4, tO a T)) else if q = a + 1 then some (.inl (zI E, 120, .inl T.2)) else h0 q
section PT
variable {E : zE} {h0 : Hp} {a : Nat} {T : TS}
theorem pT_o : pT E h0 a T a = some (.inr (4, tO a T)) := by simp [pT]
theorem pT_a : pT E h0 a T (a + 1) = some (.inl (zI E, 120, .inl T.2)) := by simp [pT]
theorem pT_s (v : Int32) : hup (pT E h0 a T) a (.inr (4, (tO a T).set 1 (.int v))) = pT E h0 a (v, T.2) := by
  funext q
  by_cases e : q = a
  · simp [hup, pT, e]
  · simp [hup, pT, e]
theorem pT_w (f : Nat → Int32) : hup (pT E h0 a T) (a + 1) (.inl (zI E, 120, .inl f)) = pT E h0 a (T.1, f) := by
  funext q
  by_cases e : q = a + 1
  · simp [hup, pT, e]
  · simp [hup, pT, e]
end PT
/-! AN ARRAY alone -/
def pI (E : zE) (h0 : Hp) (a N : Nat) (f : Nat → Int32) : Hp := hup h0 a (.inl (zI E, N, .inl f))
section PI
variable {E : zE} {h0 : Hp} {a N : Nat} {f : Nat → Int32}
theorem pI_a : pI E h0 a N f a = some (.inl (zI E, N, .inl f)) := by simp [pI, hup]
theorem hup2 (h : Hp) (a : Nat) (x y : va_E) : hup (hup h a x) a y = hup h a y := by
  funext q
  by_cases e : q = a
  · simp [hup, e]
  · simp [hup, e]
theorem hup_id {h : Hp} {a : Nat} {x : va_E} (e : h a = some x) : hup h a x = h := by
  funext q
  by_cases e1 : q = a
  · subst e1; simp [hup, e]
  · simp [hup, e1]
theorem pI_w (f' : Nat → Int32) : hup (pI E h0 a N f) a (.inl (zI E, N, .inl f')) = pI E h0 a N f' := hup2 _ _ _ _
theorem pI_of {h : Hp} (e : h a = some (.inl (zI E, N, .inl f))) : h = pI E h a N f := (hup_id e).symm
end PI
