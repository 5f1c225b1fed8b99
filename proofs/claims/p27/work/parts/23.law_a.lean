theorem z_kn {E : zE} {X : zX} {nL k n : Nat} {Q : State → Prop} {pc : Nat} {h : Hp} {lv : List (Nat × Value)} {st : List Value} (hk : k = 0) (hn : n = 0) (kk : zW E X nL k n Q pc h lv st) : zW E X nL 0 0 Q pc h lv st := by
  subst hk
  subst hn
  exact kk
theorem pC_sw {E : zE} {h0 : Hp} {x y : Nat} {c d : CS} (hap : x + 223 ≤ y ∨ y + 223 ≤ x) : pC E (pC E h0 x c) y d = pC E (pC E h0 y d) x c := by
  funext a
  by_cases h1 : a < x ∨ x + 223 ≤ a
  · rw [pC_out (h0 := pC E h0 y d) h1]
    by_cases h2 : a < y ∨ y + 223 ≤ a
    · rw [pC_out h2, pC_out h2, pC_out h1]
    · unfold pC
      rw [if_neg (show ¬ a < y by omega), if_neg (show ¬ a < y by omega)]
      cases cC E y d (a - y) with
      | some e => rfl
      | none => exact pC_out h1
  · rw [pC_out (h0 := pC E h0 x c) (show a < y ∨ y + 223 ≤ a by omega)]
    unfold pC
    rw [if_neg (show ¬ a < x by omega), if_neg (show ¬ a < x by omega)]
    cases cC E x c (a - x) with
    | some e => rfl
    | none => exact (pC_out (show a < y ∨ y + 223 ≤ a by omega)).symm
theorem lo1_indq {A1 R : Type} {F : (A1 → Option R) → A1 → Option R} {Z : Nat → A1 → R → Prop} (hs : ∀ (fu : Nat) (K : A1 → Option R), (∀ a1 r, K a1 = some r → Z fu a1 r) → ∀ a1 r, F K a1 = some r → Z (fu + 1) a1 r) : ∀ (n : Nat) a1 r, lo1 F n a1 = some r → Z n a1 r := by
  intro n
  induction n with
  | zero => intro a1 r h; cases h
  | succ n ih => exact hs _ _ ih
theorem lo2_indq {A1 A2 R : Type} {F : (A1 → A2 → Option R) → A1 → A2 → Option R} {Z : Nat → A1 → A2 → R → Prop} (hs : ∀ (fu : Nat) (K : A1 → A2 → Option R), (∀ a1 a2 r, K a1 a2 = some r → Z fu a1 a2 r) → ∀ a1 a2 r, F K a1 a2 = some r → Z (fu + 1) a1 a2 r) : ∀ (n : Nat) a1 a2 r, lo2 F n a1 a2 = some r → Z n a1 a2 r := by
  intro n
  induction n with
  | zero => intro a1 a2 r h; cases h
  | succ n ih => exact hs _ _ ih
theorem lo3_indq {A1 A2 A3 R : Type} {F : (A1 → A2 → A3 → Option R) → A1 → A2 → A3 → Option R} {Z : Nat → A1 → A2 → A3 → R → Prop} (hs : ∀ (fu : Nat) (K : A1 → A2 → A3 → Option R), (∀ a1 a2 a3 r, K a1 a2 a3 = some r → Z fu a1 a2 a3 r) → ∀ a1 a2 a3 r, F K a1 a2 a3 = some r → Z (fu + 1) a1 a2 a3 r) : ∀ (n : Nat) a1 a2 a3 r, lo3 F n a1 a2 a3 = some r → Z n a1 a2 a3 r := by
  intro n
  induction n with
  | zero => intro a1 a2 a3 r h; cases h
  | succ n ih => exact hs _ _ ih
theorem lo4_indq {A1 A2 A3 A4 R : Type} {F : (A1 → A2 → A3 → A4 → Option R) → A1 → A2 → A3 → A4 → Option R} {Z : Nat → A1 → A2 → A3 → A4 → R → Prop} (hs : ∀ (fu : Nat) (K : A1 → A2 → A3 → A4 → Option R), (∀ a1 a2 a3 a4 r, K a1 a2 a3 a4 = some r → Z fu a1 a2 a3 a4 r) → ∀ a1 a2 a3 a4 r, F K a1 a2 a3 a4 = some r → Z (fu + 1) a1 a2 a3 a4 r) : ∀ (n : Nat) a1 a2 a3 a4 r, lo4 F n a1 a2 a3 a4 = some r → Z n a1 a2 a3 a4 r := by
  intro n
  induction n with
  | zero => intro a1 a2 a3 a4 r h; cases h
  | succ n ih => exact hs _ _ ih
theorem lo5_indq {A1 A2 A3 A4 A5 R : Type} {F : (A1 → A2 → A3 → A4 → A5 → Option R) → A1 → A2 → A3 → A4 → A5 → Option R} {Z : Nat → A1 → A2 → A3 → A4 → A5 → R → Prop} (hs : ∀ (fu : Nat) (K : A1 → A2 → A3 → A4 → A5 → Option R), (∀ a1 a2 a3 a4 a5 r, K a1 a2 a3 a4 a5 = some r → Z fu a1 a2 a3 a4 a5 r) → ∀ a1 a2 a3 a4 a5 r, F K a1 a2 a3 a4 a5 = some r → Z (fu + 1) a1 a2 a3 a4 a5 r) : ∀ (n : Nat) a1 a2 a3 a4 a5 r, lo5 F n a1 a2 a3 a4 a5 = some r → Z n a1 a2 a3 a4 a5 r := by
  intro n
  induction n with
  | zero => intro a1 a2 a3 a4 a5 r h; cases h
  | succ n ih => exact hs _ _ ih
theorem lo6_indq {A1 A2 A3 A4 A5 A6 R : Type} {F : (A1 → A2 → A3 → A4 → A5 → A6 → Option R) → A1 → A2 → A3 → A4 → A5 → A6 → Option R} {Z : Nat → A1 → A2 → A3 → A4 → A5 → A6 → R → Prop} (hs : ∀ (fu : Nat) (K : A1 → A2 → A3 → A4 → A5 → A6 → Option R), (∀ a1 a2 a3 a4 a5 a6 r, K a1 a2 a3 a4 a5 a6 = some r → Z fu a1 a2 a3 a4 a5 a6 r) → ∀ a1 a2 a3 a4 a5 a6 r, F K a1 a2 a3 a4 a5 a6 = some r → Z (fu + 1) a1 a2 a3 a4 a5 a6 r) : ∀ (n : Nat) a1 a2 a3 a4 a5 a6 r, lo6 F n a1 a2 a3 a4 a5 a6 = some r → Z n a1 a2 a3 a4 a5 a6 r := by
  intro n
  induction n with
  | zero => intro a1 a2 a3 a4 a5 a6 r h; cases h
  | succ n ih => exact hs _ _ ih
theorem lo7_indq {A1 A2 A3 A4 A5 A6 A7 R : Type} {F : (A1 → A2 → A3 → A4 → A5 → A6 → A7 → Option R) → A1 → A2 → A3 → A4 → A5 → A6 → A7 → Option R} {Z : Nat → A1 → A2 → A3 → A4 → A5 → A6 → A7 → R → Prop} (hs : ∀ (fu : Nat) (K : A1 → A2 → A3 → A4 → A5 → A6 → A7 → Option R), (∀ a1 a2 a3 a4 a5 a6 a7 r, K a1 a2 a3 a4 a5 a6 a7 = some r → Z fu a1 a2 a3 a4 a5 a6 a7 r) → ∀ a1 a2 a3 a4 a5 a6 a7 r, F K a1 a2 a3 a4 a5 a6 a7 = some r → Z (fu + 1) a1 a2 a3 a4 a5 a6 a7 r) : ∀ (n : Nat) a1 a2 a3 a4 a5 a6 a7 r, lo7 F n a1 a2 a3 a4 a5 a6 a7 = some r → Z n a1 a2 a3 a4 a5 a6 a7 r := by
  intro n
  induction n with
  | zero => intro a1 a2 a3 a4 a5 a6 a7 r h; cases h
  | succ n ih => exact hs _ _ ih
theorem lo8_indq {A1 A2 A3 A4 A5 A6 A7 A8 R : Type} {F : (A1 → A2 → A3 → A4 → A5 → A6 → A7 → A8 → Option R) → A1 → A2 → A3 → A4 → A5 → A6 → A7 → A8 → Option R} {Z : Nat → A1 → A2 → A3 → A4 → A5 → A6 → A7 → A8 → R → Prop} (hs : ∀ (fu : Nat) (K : A1 → A2 → A3 → A4 → A5 → A6 → A7 → A8 → Option R), (∀ a1 a2 a3 a4 a5 a6 a7 a8 r, K a1 a2 a3 a4 a5 a6 a7 a8 = some r → Z fu a1 a2 a3 a4 a5 a6 a7 a8 r) → ∀ a1 a2 a3 a4 a5 a6 a7 a8 r, F K a1 a2 a3 a4 a5 a6 a7 a8 = some r → Z (fu + 1) a1 a2 a3 a4 a5 a6 a7 a8 r) : ∀ (n : Nat) a1 a2 a3 a4 a5 a6 a7 a8 r, lo8 F n a1 a2 a3 a4 a5 a6 a7 a8 = some r → Z n a1 a2 a3 a4 a5 a6 a7 a8 r := by
  intro n
  induction n with
  | zero => intro a1 a2 a3 a4 a5 a6 a7 a8 r h; cases h
  | succ n ih => exact hs _ _ ih
def lo9 {A1 A2 A3 A4 A5 A6 A7 A8 A9 R : Type} (F : (A1 → A2 → A3 → A4 → A5 → A6 → A7 → A8 → A9 → Option R) → A1 → A2 → A3 → A4 → A5 → A6 → A7 → A8 → A9 → Option R) : Nat → A1 → A2 → A3 → A4 → A5 → A6 → A7 → A8 → A9 → Option R
  | 0 => fun _ _ _ _ _ _ _ _ _ => none
  | n + 1 => F (lo9 F n)
theorem lo9_s {A1 A2 A3 A4 A5 A6 A7 A8 A9 R : Type} (F : (A1 → A2 → A3 → A4 → A5 → A6 → A7 → A8 → A9 → Option R) → A1 → A2 → A3 → A4 → A5 → A6 → A7 → A8 → A9 → Option R) (n : Nat) : lo9 F (n + 1) = F (lo9 F n) := rfl
theorem lo9_indq {A1 A2 A3 A4 A5 A6 A7 A8 A9 R : Type} {F : (A1 → A2 → A3 → A4 → A5 → A6 → A7 → A8 → A9 → Option R) → A1 → A2 → A3 → A4 → A5 → A6 → A7 → A8 → A9 → Option R} {Z : Nat → A1 → A2 → A3 → A4 → A5 → A6 → A7 → A8 → A9 → R → Prop} (hs : ∀ (fu : Nat) (K : A1 → A2 → A3 → A4 → A5 → A6 → A7 → A8 → A9 → Option R), (∀ a1 a2 a3 a4 a5 a6 a7 a8 a9 r, K a1 a2 a3 a4 a5 a6 a7 a8 a9 = some r → Z fu a1 a2 a3 a4 a5 a6 a7 a8 a9 r) → ∀ a1 a2 a3 a4 a5 a6 a7 a8 a9 r, F K a1 a2 a3 a4 a5 a6 a7 a8 a9 = some r → Z (fu + 1) a1 a2 a3 a4 a5 a6 a7 a8 a9 r) : ∀ (n : Nat) a1 a2 a3 a4 a5 a6 a7 a8 a9 r, lo9 F n a1 a2 a3 a4 a5 a6 a7 a8 a9 = some r → Z n a1 a2 a3 a4 a5 a6 a7 a8 a9 r := by
  intro n
  induction n with
  | zero => intro a1 a2 a3 a4 a5 a6 a7 a8 a9 r h; cases h
  | succ n ih => exact hs _ _ ih
def lo10 {A1 A2 A3 A4 A5 A6 A7 A8 A9 A10 R : Type} (F : (A1 → A2 → A3 → A4 → A5 → A6 → A7 → A8 → A9 → A10 → Option R) → A1 → A2 → A3 → A4 → A5 → A6 → A7 → A8 → A9 → A10 → Option R) : Nat → A1 → A2 → A3 → A4 → A5 → A6 → A7 → A8 → A9 → A10 → Option R
  | 0 => fun _ _ _ _ _ _ _ _ _ _ => none
  | n + 1 => F (lo10 F n)
theorem lo10_s {A1 A2 A3 A4 A5 A6 A7 A8 A9 A10 R : Type} (F : (A1 → A2 → A3 → A4 → A5 → A6 → A7 → A8 → A9 → A10 → Option R) → A1 → A2 → A3 → A4 → A5 → A6 → A7 → A8 → A9 → A10 → Option R) (n : Nat) : lo10 F (n + 1) = F (lo10 F n) := rfl
theorem lo10_indq {A1 A2 A3 A4 A5 A6 A7 A8 A9 A10 R : Type} {F : (A1 → A2 → A3 → A4 → A5 → A6 → A7 → A8 → A9 → A10 → Option R) → A1 → A2 → A3 → A4 → A5 → A6 → A7 → A8 → A9 → A10 → Option R} {Z : Nat → A1 → A2 → A3 → A4 → A5 → A6 → A7 → A8 → A9 → A10 → R → Prop} (hs : ∀ (fu : Nat) (K : A1 → A2 → A3 → A4 → A5 → A6 → A7 → A8 → A9 → A10 → Option R), (∀ a1 a2 a3 a4 a5 a6 a7 a8 a9 a10 r, K a1 a2 a3 a4 a5 a6 a7 a8 a9 a10 = some r → Z fu a1 a2 a3 a4 a5 a6 a7 a8 a9 a10 r) → ∀ a1 a2 a3 a4 a5 a6 a7 a8 a9 a10 r, F K a1 a2 a3 a4 a5 a6 a7 a8 a9 a10 = some r → Z (fu + 1) a1 a2 a3 a4 a5 a6 a7 a8 a9 a10 r) : ∀ (n : Nat) a1 a2 a3 a4 a5 a6 a7 a8 a9 a10 r, lo10 F n a1 a2 a3 a4 a5 a6 a7 a8 a9 a10 = some r → Z n a1 a2 a3 a4 a5 a6 a7 a8 a9 a10 r := by
  intro n
  induction n with
  | zero => intro a1 a2 a3 a4 a5 a6 a7 a8 a9 a10 r h; cases h
  | succ n ih => exact hs _ _ ih
def lo11 {A1 A2 A3 A4 A5 A6 A7 A8 A9 A10 A11 R : Type} (F : (A1 → A2 → A3 → A4 → A5 → A6 → A7 → A8 → A9 → A10 → A11 → Option R) → A1 → A2 → A3 → A4 → A5 → A6 → A7 → A8 → A9 → A10 → A11 → Option R) : Nat → A1 → A2 → A3 → A4 → A5 → A6 → A7 → A8 → A9 → A10 → A11 → Option R
  | 0 => fun _ _ _ _ _ _ _ _ _ _ _ => none
  | n + 1 => F (lo11 F n)
theorem lo11_s {A1 A2 A3 A4 A5 A6 A7 A8 A9 A10 A11 R : Type} (F : (A1 → A2 → A3 → A4 → A5 → A6 → A7 → A8 → A9 → A10 → A11 → Option R) → A1 → A2 → A3 → A4 → A5 → A6 → A7 → A8 → A9 → A10 → A11 → Option R) (n : Nat) : lo11 F (n + 1) = F (lo11 F n) := rfl
theorem lo11_indq {A1 A2 A3 A4 A5 A6 A7 A8 A9 A10 A11 R : Type} {F : (A1 → A2 → A3 → A4 → A5 → A6 → A7 → A8 → A9 → A10 → A11 → Option R) → A1 → A2 → A3 → A4 → A5 → A6 → A7 → A8 → A9 → A10 → A11 → Option R} {Z : Nat → A1 → A2 → A3 → A4 → A5 → A6 → A7 → A8 → A9 → A10 → A11 → R → Prop} (hs : ∀ (fu : Nat) (K : A1 → A2 → A3 → A4 → A5 → A6 → A7 → A8 → A9 → A10 → A11 → Option R), (∀ a1 a2 a3 a4 a5 a6 a7 a8 a9 a10 a11 r, K a1 a2 a3 a4 a5 a6 a7 a8 a9 a10 a11 = some r → Z fu a1 a2 a3 a4 a5 a6 a7 a8 a9 a10 a11 r) → ∀ a1 a2 a3 a4 a5 a6 a7 a8 a9 a10 a11 r, F K a1 a2 a3 a4 a5 a6 a7 a8 a9 a10 a11 = some r → Z (fu + 1) a1 a2 a3 a4 a5 a6 a7 a8 a9 a10 a11 r) : ∀ (n : Nat) a1 a2 a3 a4 a5 a6 a7 a8 a9 a10 a11 r, lo11 F n a1 a2 a3 a4 a5 a6 a7 a8 a9 a10 a11 = some r → Z n a1 a2 a3 a4 a5 a6 a7 a8 a9 a10 a11 r := by
  intro n
  induction n with
  | zero => intro a1 a2 a3 a4 a5 a6 a7 a8 a9 a10 a11 r h; cases h
  | succ n ih => exact hs _ _ ih
def lo12 {A1 A2 A3 A4 A5 A6 A7 A8 A9 A10 A11 A12 R : Type} (F : (A1 → A2 → A3 → A4 → A5 → A6 → A7 → A8 → A9 → A10 → A11 → A12 → Option R) → A1 → A2 → A3 → A4 → A5 → A6 → A7 → A8 → A9 → A10 → A11 → A12 → Option R) : Nat → A1 → A2 → A3 → A4 → A5 → A6 → A7 → A8 → A9 → A10 → A11 → A12 → Option R
  | 0 => fun _ _ _ _ _ _ _ _ _ _ _ _ => none
  | n + 1 => F (lo12 F n)
theorem lo12_s {A1 A2 A3 A4 A5 A6 A7 A8 A9 A10 A11 A12 R : Type} (F : (A1 → A2 → A3 → A4 → A5 → A6 → A7 → A8 → A9 → A10 → A11 → A12 → Option R) → A1 → A2 → A3 → A4 → A5 → A6 → A7 → A8 → A9 → A10 → A11 → A12 → Option R) (n : Nat) : lo12 F (n + 1) = F (lo12 F n) := rfl
theorem lo12_indq {A1 A2 A3 A4 A5 A6 A7 A8 A9 A10 A11 A12 R : Type} {F : (A1 → A2 → A3 → A4 → A5 → A6 → A7 → A8 → A9 → A10 → A11 → A12 → Option R) → A1 → A2 → A3 → A4 → A5 → A6 → A7 → A8 → A9 → A10 → A11 → A12 → Option R} {Z : Nat → A1 → A2 → A3 → A4 → A5 → A6 → A7 → A8 → A9 → A10 → A11 → A12 → R → Prop} (hs : ∀ (fu : Nat) (K : A1 → A2 → A3 → A4 → A5 → A6 → A7 → A8 → A9 → A10 → A11 → A12 → Option R), (∀ a1 a2 a3 a4 a5 a6 a7 a8 a9 a10 a11 a12 r, K a1 a2 a3 a4 a5 a6 a7 a8 a9 a10 a11 a12 = some r → Z fu a1 a2 a3 a4 a5 a6 a7 a8 a9 a10 a11 a12 r) → ∀ a1 a2 a3 a4 a5 a6 a7 a8 a9 a10 a11 a12 r, F K a1 a2 a3 a4 a5 a6 a7 a8 a9 a10 a11 a12 = some r → Z (fu + 1) a1 a2 a3 a4 a5 a6 a7 a8 a9 a10 a11 a12 r) : ∀ (n : Nat) a1 a2 a3 a4 a5 a6 a7 a8 a9 a10 a11 a12 r, lo12 F n a1 a2 a3 a4 a5 a6 a7 a8 a9 a10 a11 a12 = some r → Z n a1 a2 a3 a4 a5 a6 a7 a8 a9 a10 a11 a12 r := by
  intro n
  induction n with
  | zero => intro a1 a2 a3 a4 a5 a6 a7 a8 a9 a10 a11 a12 r h; cases h
  | succ n ih => exact hs _ _ ih
def f_L_thrown_b18 (x0 : Int32)    : Option Int32 :=
  some (1 : Int32)
set_option maxRecDepth 100000 in
set_option maxHeartbeats 4000000 in
theorem w_L_thrown_b18 {E : zE} {X : zX} {h : Hp} {x0 : Int32}   (C : zC E X RL cL_thrown 1 (some .boolean) 1)    {r : Int32} (hf : f_L_thrown_b18 x0  = some r) : zW E X 1 0 0 (MQ (xb X) (zQ E (some (.int r)) h) (xa X) (xs X) 0 0 (zA E)) 18 h [] [] := by
  unfold f_L_thrown_b18 at hf
  refine z_iconst C (1 : Int32) dL_thrown_18 (by decide) ?_
  refine z_goto C 23 dL_thrown_19 (by decide) ?_
  obtain rfl := Option.some.inj hf
  exact z_zreturn (v := (1 : Int32)) C (by decide) dL_thrown_23
def f_L_thrown (x0 : Int32) : Option Int32 :=
  if x0 = (-9999001 : Int32) then (f_L_thrown_b18 x0 ) else (if x0 = (-9999002 : Int32) then (f_L_thrown_b18 x0 ) else (if x0 = (-9999003 : Int32) then (f_L_thrown_b18 x0 ) else (some (0 : Int32))))
set_option maxRecDepth 100000 in
set_option maxHeartbeats 4000000 in
theorem ct_L_thrown {E : zE} {l : Launch} {h : Hp} {x0 : Int32} {r : Int32}  (hf : f_L_thrown x0 = some r) : zM E l 1 yL_thrown cL_thrown 1 (some .boolean) [.int x0] h (some (.int r)) h := by
  refine zM_of (lv := [(0, .int x0)]) (by decide +kernel) (Nat.le_of_ble_eq_true rfl) rfl (fun X hX C => ?_)
  subst hX
  replace C : zC E X RL cL_thrown 1 (some .boolean) 1 := C
  unfold f_L_thrown at hf
  refine z_iload_n C dL_thrown_0 0 rfl ?_
  refine z_ldc C (-9999001 : Int32) dL_thrown_1 cn_L_22 ?_
  refine z_icmp_eq C 18 dL_thrown_3 (by decide) (fun c3 => ?_) (fun c3 => ?_)
  · replace hf := ip c3 hf
    exact z_sub [] rfl (w_L_thrown_b18 C hf)
  · replace hf := iN c3 hf
    refine z_iload_n C dL_thrown_6 0 rfl ?_
    refine z_ldc C (-9999002 : Int32) dL_thrown_7 cn_L_15 ?_
    refine z_icmp_eq C 18 dL_thrown_9 (by decide) (fun c9 => ?_) (fun c9 => ?_)
    · replace hf := ip c9 hf
      exact z_sub [] rfl (w_L_thrown_b18 C hf)
    · replace hf := iN c9 hf
      refine z_iload_n C dL_thrown_12 0 rfl ?_
      refine z_ldc C (-9999003 : Int32) dL_thrown_13 cn_L_25 ?_
      refine z_icmp_ne C 22 dL_thrown_15 (by decide) (fun c15 => ?_) (fun c15 => ?_)
      · replace hf := iN c15 hf
        refine z_iconst C (0 : Int32) dL_thrown_22 (by decide) ?_
        obtain rfl := Option.some.inj hf
        exact z_zreturn (v := (0 : Int32)) C (by decide) dL_thrown_23
      · replace hf := ip c15 hf
        exact z_sub [] rfl (w_L_thrown_b18 C hf)
/-! L_call: depth 16, exceptions at most 1 -/
def f_L_call (n : Nat) (c : CS) (x1 : Int32) (x2 : Int32) (x3 : Int32) (x4 : Int32) : Option (CS × Int32) :=
  if x1 = (0 : Int32) then ((f_L_tryAppend c x2).bind (fun q78 => some (q78.1, q78.2))) else (if x1 = (1 : Int32) then ((f_L_tryLoad n c).bind (fun q83 => some (q83.1, q83.2))) else (if x1 = (2 : Int32) then ((f_L_tryAbout n c x2).bind (fun q89 => some (q89.1, q89.2))) else (if x1 = (3 : Int32) then ((f_L_tryTile n c x2 x3).bind (fun q96 => some (q96.1, q96.2))) else (if x1 = (4 : Int32) then ((f_L_tryLaid c x2 x3).bind (fun q103 => some (q103.1, q103.2))) else (if x1 = (5 : Int32) then ((f_L_tryPlayer n c x2 x3).bind (fun q110 => some (q110.1, q110.2))) else (if x1 = (6 : Int32) then ((f_L_tryAt n c x2 x3).bind (fun q117 => some (q117.1, q117.2))) else (if x1 = (7 : Int32) then ((f_L_tryFree n c x2).bind (fun q123 => some (q123.1, q123.2))) else (if x1 = (8 : Int32) then ((f_L_tryDraw c).bind (fun q128 => some (q128.1, q128.2))) else (if x1 = (9 : Int32) then ((f_L_tryPass n c).bind (fun q133 => some (q133.1, q133.2))) else (if x1 = (10 : Int32) then ((f_L_tryUndo c).bind (fun q138 => some (q138.1, q138.2))) else (if x1 = (11 : Int32) then ((f_L_tryWhy c x2).bind (fun q144 => some (q144.1, q144.2))) else (if x1 = (12 : Int32) then ((f_L_tryChain n c x2 x3).bind (fun q151 => some (q151.1, q151.2))) else (if x1 = (13 : Int32) then ((f_L_tryReach n c x2).bind (fun q157 => some (q157.1, q157.2))) else (if x1 = (14 : Int32) then ((f_L_tryKeep c x2).bind (fun q163 => some (q163.1, q163.2))) else ((f_L_tryBack c x2).bind (fun q169 => some (q169.1, q169.2)))))))))))))))))
set_option maxRecDepth 100000 in
set_option maxHeartbeats 4000000 in
theorem ct_L_call {E : zE} {l : Launch} {h0 : Hp} {x : Nat} {n : Nat} {c : CS} {x1 : Int32} {x2 : Int32} {x3 : Int32} {x4 : Int32} {r : (CS × Int32)} (hst : l.stackTraces = false) (hf : f_L_call n c x1 x2 x3 x4 = some r) : zMK E l 16 1 yL_call cL_call 5 (some .int) [.ref x, .int x1, .int x2, .int x3, .int x4] (pC E h0 x c) (some (.int r.2)) (pC E h0 x r.1) := by
  refine zMK_of (lv := [(0, .ref x), (1, .int x1), (2, .int x2), (3, .int x3), (4, .int x4)]) (by decide +kernel) (Nat.le_of_ble_eq_true rfl) rfl (fun X hX C hR => ?_)
  subst hX
  replace C : zC E X RL cL_call 5 (some .int) 16 := C
  have hR1 : 1 ≤ (xR X).cells := by rw [hR]; exact Nat.le_refl _
  have hR2 : 6 ≤ (xR X).slots := by rw [hR]; exact Nat.le_refl _
  obtain ⟨k, hk0⟩ : ∃ k : Nat, k = 0 := ⟨0, rfl⟩
  obtain ⟨n9, hn0⟩ : ∃ n9 : Nat, n9 = 0 := ⟨0, rfl⟩
  refine z_kn (k := k) (n := n9) hk0 hn0 ?_
  unfold f_L_call at hf
  refine z_iload_n C dL_call_0 1 rfl ?_
  by_cases e1_0 : x1 = (0 : Int32)
  · replace hf := ip e1_0 hf
    refine z_stk (congrArg (fun z => Value.int z :: []) e1_0) ?_
    refine z_tableIn C 75 76 dL_call_1 (by decide) (by decide) (by decide) (by decide) ?_
    refine z_aload_n C dL_call_76 0 rfl ?_
    refine z_iload_n C dL_call_77 2 rfl ?_
    obtain ⟨q78, hq78, hf⟩ := bd_some hf
    refine z_callSW C 81 [.ref x, .int x2] [] (ct_L_tryAppend hst hq78) co_L_tryAppend ml_L_84 st_L_tryAppend ini_L ⟨by decide +kernel, by decide +kernel, by show _ = some 2; decide +kernel⟩ (by decide) (by decide) rfl (Nat.le_of_ble_eq_true rfl) ⟨by omega, by omega⟩ rfl dL_call_78 ?_
    obtain rfl := Option.some.inj hf
    exact z_retK C (by omega) (by omega) dL_call_81 rfl
  replace hf := iN e1_0 hf
  by_cases e1_1 : x1 = (1 : Int32)
  · replace hf := ip e1_1 hf
    refine z_stk (congrArg (fun z => Value.int z :: []) e1_1) ?_
    refine z_tableIn C 81 82 dL_call_1 (by decide) (by decide) (by decide) (by decide) ?_
    refine z_aload_n C dL_call_82 0 rfl ?_
    obtain ⟨q83, hq83, hf⟩ := bd_some hf
    refine z_callSW C 86 [.ref x] [] (ct_L_tryLoad hst hq83) co_L_tryLoad ml_L_90 st_L_tryLoad ini_L ⟨by decide +kernel, by decide +kernel, by show _ = some 1; decide +kernel⟩ (by decide) (by decide) rfl (Nat.le_of_ble_eq_true rfl) ⟨by omega, by omega⟩ rfl dL_call_83 ?_
    obtain rfl := Option.some.inj hf
    exact z_retK C (by omega) (by omega) dL_call_86 rfl
  replace hf := iN e1_1 hf
  by_cases e1_2 : x1 = (2 : Int32)
  · replace hf := ip e1_2 hf
    refine z_stk (congrArg (fun z => Value.int z :: []) e1_2) ?_
    refine z_tableIn C 86 87 dL_call_1 (by decide) (by decide) (by decide) (by decide) ?_
    refine z_aload_n C dL_call_87 0 rfl ?_
    refine z_iload_n C dL_call_88 2 rfl ?_
    obtain ⟨q89, hq89, hf⟩ := bd_some hf
    refine z_callSW C 92 [.ref x, .int x2] [] (ct_L_tryAbout hst hq89) co_L_tryAbout ml_L_94 st_L_tryAbout ini_L ⟨by decide +kernel, by decide +kernel, by show _ = some 2; decide +kernel⟩ (by decide) (by decide) rfl (Nat.le_of_ble_eq_true rfl) ⟨by omega, by omega⟩ rfl dL_call_89 ?_
    obtain rfl := Option.some.inj hf
    exact z_retK C (by omega) (by omega) dL_call_92 rfl
  replace hf := iN e1_2 hf
  by_cases e1_3 : x1 = (3 : Int32)
  · replace hf := ip e1_3 hf
    refine z_stk (congrArg (fun z => Value.int z :: []) e1_3) ?_
    refine z_tableIn C 92 93 dL_call_1 (by decide) (by decide) (by decide) (by decide) ?_
    refine z_aload_n C dL_call_93 0 rfl ?_
    refine z_iload_n C dL_call_94 2 rfl ?_
    refine z_iload_n C dL_call_95 3 rfl ?_
    obtain ⟨q96, hq96, hf⟩ := bd_some hf
    refine z_callSW C 99 [.ref x, .int x2, .int x3] [] (ct_L_tryTile hst hq96) co_L_tryTile ml_L_97 st_L_tryTile ini_L ⟨by decide +kernel, by decide +kernel, by show _ = some 3; decide +kernel⟩ (by decide) (by decide) rfl (Nat.le_of_ble_eq_true rfl) ⟨by omega, by omega⟩ rfl dL_call_96 ?_
    obtain rfl := Option.some.inj hf
    exact z_retK C (by omega) (by omega) dL_call_99 rfl
  replace hf := iN e1_3 hf
  by_cases e1_4 : x1 = (4 : Int32)
  · replace hf := ip e1_4 hf
    refine z_stk (congrArg (fun z => Value.int z :: []) e1_4) ?_
    refine z_tableIn C 99 100 dL_call_1 (by decide) (by decide) (by decide) (by decide) ?_
    refine z_aload_n C dL_call_100 0 rfl ?_
    refine z_iload_n C dL_call_101 2 rfl ?_
    refine z_iload_n C dL_call_102 3 rfl ?_
    obtain ⟨q103, hq103, hf⟩ := bd_some hf
    refine z_callSW C 106 [.ref x, .int x2, .int x3] [] (ct_L_tryLaid hst hq103) co_L_tryLaid ml_L_101 st_L_tryLaid ini_L ⟨by decide +kernel, by decide +kernel, by show _ = some 3; decide +kernel⟩ (by decide) (by decide) rfl (Nat.le_of_ble_eq_true rfl) ⟨by omega, by omega⟩ rfl dL_call_103 ?_
    obtain rfl := Option.some.inj hf
    exact z_retK C (by omega) (by omega) dL_call_106 rfl
  replace hf := iN e1_4 hf
  by_cases e1_5 : x1 = (5 : Int32)
  · replace hf := ip e1_5 hf
    refine z_stk (congrArg (fun z => Value.int z :: []) e1_5) ?_
    refine z_tableIn C 106 107 dL_call_1 (by decide) (by decide) (by decide) (by decide) ?_
    refine z_aload_n C dL_call_107 0 rfl ?_
    refine z_iload_n C dL_call_108 2 rfl ?_
    refine z_iload_n C dL_call_109 3 rfl ?_
    obtain ⟨q110, hq110, hf⟩ := bd_some hf
    refine z_callSW C 113 [.ref x, .int x2, .int x3] [] (ct_L_tryPlayer hst hq110) co_L_tryPlayer ml_L_104 st_L_tryPlayer ini_L ⟨by decide +kernel, by decide +kernel, by show _ = some 3; decide +kernel⟩ (by decide) (by decide) rfl (Nat.le_of_ble_eq_true rfl) ⟨by omega, by omega⟩ rfl dL_call_110 ?_
    obtain rfl := Option.some.inj hf
    exact z_retK C (by omega) (by omega) dL_call_113 rfl
  replace hf := iN e1_5 hf
  by_cases e1_6 : x1 = (6 : Int32)
  · replace hf := ip e1_6 hf
    refine z_stk (congrArg (fun z => Value.int z :: []) e1_6) ?_
    refine z_tableIn C 113 114 dL_call_1 (by decide) (by decide) (by decide) (by decide) ?_
    refine z_aload_n C dL_call_114 0 rfl ?_
    refine z_iload_n C dL_call_115 2 rfl ?_
    refine z_iload_n C dL_call_116 3 rfl ?_
    obtain ⟨q117, hq117, hf⟩ := bd_some hf
    refine z_callSW C 120 [.ref x, .int x2, .int x3] [] (ct_L_tryAt hst hq117) co_L_tryAt ml_L_107 st_L_tryAt ini_L ⟨by decide +kernel, by decide +kernel, by show _ = some 3; decide +kernel⟩ (by decide) (by decide) rfl (Nat.le_of_ble_eq_true rfl) ⟨by omega, by omega⟩ rfl dL_call_117 ?_
    obtain rfl := Option.some.inj hf
    exact z_retK C (by omega) (by omega) dL_call_120 rfl
  replace hf := iN e1_6 hf
  by_cases e1_7 : x1 = (7 : Int32)
  · replace hf := ip e1_7 hf
    refine z_stk (congrArg (fun z => Value.int z :: []) e1_7) ?_
    refine z_tableIn C 120 121 dL_call_1 (by decide) (by decide) (by decide) (by decide) ?_
    refine z_aload_n C dL_call_121 0 rfl ?_
    refine z_iload_n C dL_call_122 2 rfl ?_
    obtain ⟨q123, hq123, hf⟩ := bd_some hf
    refine z_callSW C 126 [.ref x, .int x2] [] (ct_L_tryFree hst hq123) co_L_tryFree ml_L_110 st_L_tryFree ini_L ⟨by decide +kernel, by decide +kernel, by show _ = some 2; decide +kernel⟩ (by decide) (by decide) rfl (Nat.le_of_ble_eq_true rfl) ⟨by omega, by omega⟩ rfl dL_call_123 ?_
    obtain rfl := Option.some.inj hf
    exact z_retK C (by omega) (by omega) dL_call_126 rfl
  replace hf := iN e1_7 hf
  by_cases e1_8 : x1 = (8 : Int32)
  · replace hf := ip e1_8 hf
    refine z_stk (congrArg (fun z => Value.int z :: []) e1_8) ?_
    refine z_tableIn C 126 127 dL_call_1 (by decide) (by decide) (by decide) (by decide) ?_
    refine z_aload_n C dL_call_127 0 rfl ?_
    obtain ⟨q128, hq128, hf⟩ := bd_some hf
    refine z_callSW C 131 [.ref x] [] (ct_L_tryDraw hst hq128) co_L_tryDraw ml_L_113 st_L_tryDraw ini_L ⟨by decide +kernel, by decide +kernel, by show _ = some 1; decide +kernel⟩ (by decide) (by decide) rfl (Nat.le_of_ble_eq_true rfl) ⟨by omega, by omega⟩ rfl dL_call_128 ?_
    obtain rfl := Option.some.inj hf
    exact z_retK C (by omega) (by omega) dL_call_131 rfl
  replace hf := iN e1_8 hf
  by_cases e1_9 : x1 = (9 : Int32)
  · replace hf := ip e1_9 hf
    refine z_stk (congrArg (fun z => Value.int z :: []) e1_9) ?_
    refine z_tableIn C 131 132 dL_call_1 (by decide) (by decide) (by decide) (by decide) ?_
    refine z_aload_n C dL_call_132 0 rfl ?_
    obtain ⟨q133, hq133, hf⟩ := bd_some hf
    refine z_callSW C 136 [.ref x] [] (ct_L_tryPass hst hq133) co_L_tryPass ml_L_116 st_L_tryPass ini_L ⟨by decide +kernel, by decide +kernel, by show _ = some 1; decide +kernel⟩ (by decide) (by decide) rfl (Nat.le_of_ble_eq_true rfl) ⟨by omega, by omega⟩ rfl dL_call_133 ?_
    obtain rfl := Option.some.inj hf
    exact z_retK C (by omega) (by omega) dL_call_136 rfl
  replace hf := iN e1_9 hf
  by_cases e1_10 : x1 = (10 : Int32)
  · replace hf := ip e1_10 hf
    refine z_stk (congrArg (fun z => Value.int z :: []) e1_10) ?_
    refine z_tableIn C 136 137 dL_call_1 (by decide) (by decide) (by decide) (by decide) ?_
    refine z_aload_n C dL_call_137 0 rfl ?_
    obtain ⟨q138, hq138, hf⟩ := bd_some hf
    refine z_callSW C 141 [.ref x] [] (ct_L_tryUndo hst hq138) co_L_tryUndo ml_L_119 st_L_tryUndo ini_L ⟨by decide +kernel, by decide +kernel, by show _ = some 1; decide +kernel⟩ (by decide) (by decide) rfl (Nat.le_of_ble_eq_true rfl) ⟨by omega, by omega⟩ rfl dL_call_138 ?_
    obtain rfl := Option.some.inj hf
    exact z_retK C (by omega) (by omega) dL_call_141 rfl
  replace hf := iN e1_10 hf
  by_cases e1_11 : x1 = (11 : Int32)
  · replace hf := ip e1_11 hf
    refine z_stk (congrArg (fun z => Value.int z :: []) e1_11) ?_
    refine z_tableIn C 141 142 dL_call_1 (by decide) (by decide) (by decide) (by decide) ?_
    refine z_aload_n C dL_call_142 0 rfl ?_
    refine z_iload_n C dL_call_143 2 rfl ?_
    obtain ⟨q144, hq144, hf⟩ := bd_some hf
    refine z_callSW C 147 [.ref x, .int x2] [] (ct_L_tryWhy hst hq144) co_L_tryWhy ml_L_122 st_L_tryWhy ini_L ⟨by decide +kernel, by decide +kernel, by show _ = some 2; decide +kernel⟩ (by decide) (by decide) rfl (Nat.le_of_ble_eq_true rfl) ⟨by omega, by omega⟩ rfl dL_call_144 ?_
    obtain rfl := Option.some.inj hf
    exact z_retK C (by omega) (by omega) dL_call_147 rfl
  replace hf := iN e1_11 hf
  by_cases e1_12 : x1 = (12 : Int32)
  · replace hf := ip e1_12 hf
    refine z_stk (congrArg (fun z => Value.int z :: []) e1_12) ?_
    refine z_tableIn C 147 148 dL_call_1 (by decide) (by decide) (by decide) (by decide) ?_
    refine z_aload_n C dL_call_148 0 rfl ?_
    refine z_iload_n C dL_call_149 2 rfl ?_
    refine z_iload_n C dL_call_150 3 rfl ?_
    obtain ⟨q151, hq151, hf⟩ := bd_some hf
    refine z_callSW C 154 [.ref x, .int x2, .int x3] [] (ct_L_tryChain hst hq151) co_L_tryChain ml_L_125 st_L_tryChain ini_L ⟨by decide +kernel, by decide +kernel, by show _ = some 3; decide +kernel⟩ (by decide) (by decide) rfl (Nat.le_of_ble_eq_true rfl) ⟨by omega, by omega⟩ rfl dL_call_151 ?_
    obtain rfl := Option.some.inj hf
    exact z_retK C (by omega) (by omega) dL_call_154 rfl
  replace hf := iN e1_12 hf
  by_cases e1_13 : x1 = (13 : Int32)
  · replace hf := ip e1_13 hf
    refine z_stk (congrArg (fun z => Value.int z :: []) e1_13) ?_
    refine z_tableIn C 154 155 dL_call_1 (by decide) (by decide) (by decide) (by decide) ?_
    refine z_aload_n C dL_call_155 0 rfl ?_
    refine z_iload_n C dL_call_156 2 rfl ?_
    obtain ⟨q157, hq157, hf⟩ := bd_some hf
    refine z_callSW C 160 [.ref x, .int x2] [] (ct_L_tryReach hst hq157) co_L_tryReach ml_L_128 st_L_tryReach ini_L ⟨by decide +kernel, by decide +kernel, by show _ = some 2; decide +kernel⟩ (by decide) (by decide) rfl (Nat.le_of_ble_eq_true rfl) ⟨by omega, by omega⟩ rfl dL_call_157 ?_
    obtain rfl := Option.some.inj hf
    exact z_retK C (by omega) (by omega) dL_call_160 rfl
  replace hf := iN e1_13 hf
  by_cases e1_14 : x1 = (14 : Int32)
  · replace hf := ip e1_14 hf
    refine z_stk (congrArg (fun z => Value.int z :: []) e1_14) ?_
    refine z_tableIn C 160 161 dL_call_1 (by decide) (by decide) (by decide) (by decide) ?_
    refine z_aload_n C dL_call_161 0 rfl ?_
    refine z_iload_n C dL_call_162 2 rfl ?_
    obtain ⟨q163, hq163, hf⟩ := bd_some hf
    refine z_callSW C 166 [.ref x, .int x2] [] (ct_L_tryKeep hst hq163) co_L_tryKeep ml_L_131 st_L_tryKeep ini_L ⟨by decide +kernel, by decide +kernel, by show _ = some 2; decide +kernel⟩ (by decide) (by decide) rfl (Nat.le_of_ble_eq_true rfl) ⟨by omega, by omega⟩ rfl dL_call_163 ?_
    obtain rfl := Option.some.inj hf
    exact z_retK C (by omega) (by omega) dL_call_166 rfl
  replace hf := iN e1_14 hf
  refine z_tableOut C 167 dL_call_1 (by have n0 := ne_toInt (v := (0 : Int32)) (z := 0) (by decide) e1_0; have n1 := ne_toInt (v := (1 : Int32)) (z := 1) (by decide) e1_1; have n2 := ne_toInt (v := (2 : Int32)) (z := 2) (by decide) e1_2; have n3 := ne_toInt (v := (3 : Int32)) (z := 3) (by decide) e1_3; have n4 := ne_toInt (v := (4 : Int32)) (z := 4) (by decide) e1_4; have n5 := ne_toInt (v := (5 : Int32)) (z := 5) (by decide) e1_5; have n6 := ne_toInt (v := (6 : Int32)) (z := 6) (by decide) e1_6; have n7 := ne_toInt (v := (7 : Int32)) (z := 7) (by decide) e1_7; have n8 := ne_toInt (v := (8 : Int32)) (z := 8) (by decide) e1_8; have n9 := ne_toInt (v := (9 : Int32)) (z := 9) (by decide) e1_9; have n10 := ne_toInt (v := (10 : Int32)) (z := 10) (by decide) e1_10; have n11 := ne_toInt (v := (11 : Int32)) (z := 11) (by decide) e1_11; have n12 := ne_toInt (v := (12 : Int32)) (z := 12) (by decide) e1_12; have n13 := ne_toInt (v := (13 : Int32)) (z := 13) (by decide) e1_13; have n14 := ne_toInt (v := (14 : Int32)) (z := 14) (by decide) e1_14; omega) (by decide) ?_
  refine z_aload_n C dL_call_167 0 rfl ?_
  refine z_iload_n C dL_call_168 2 rfl ?_
  obtain ⟨q169, hq169, hf⟩ := bd_some hf
  refine z_callSW C 172 [.ref x, .int x2] [] (ct_L_tryBack hst hq169) co_L_tryBack ml_L_134 st_L_tryBack ini_L ⟨by decide +kernel, by decide +kernel, by show _ = some 2; decide +kernel⟩ (by decide) (by decide) rfl (Nat.le_of_ble_eq_true rfl) ⟨by omega, by omega⟩ rfl dL_call_169 ?_
  obtain rfl := Option.some.inj hf
  exact z_retK C (by omega) (by omega) dL_call_172 rfl
/-! L_next: depth 17, exceptions at most 3 -/
def f_L_next_b87 (n : Nat) (x1 : Int32) (x2 : Int32) (x3 : Int32) (x4 : Int32) (x5 : Int32)   (c : CS) (x7 : Int32) (x8 : Int32) : Option (CS × Int32) :=
  (f_L_call n c (4 : Int32) x1 (1 : Int32) (0 : Int32)).bind (fun q92 => if q92.2 = x7 then ((f_L_call n q92.1 (4 : Int32) x1 (2 : Int32) (0 : Int32)).bind (fun q105 => if q105.2 = x8 then (some (q105.1, (1 : Int32))) else (some (q105.1, (0 : Int32))))) else (some (q92.1, (0 : Int32))))
set_option maxRecDepth 100000 in
set_option maxHeartbeats 4000000 in
theorem w_L_next_b87 {E : zE} {X : zX} {h0 : Hp} {x : Nat} {n : Nat} {x1 : Int32} {x2 : Int32} {x3 : Int32} {x4 : Int32} {x5 : Int32}  (C : zC E X RL cL_next 9 (some .boolean) 17) (hst : (xl X).stackTraces = false) (hR1 : 3 ≤ (xR X).cells) (hR2 : 18 ≤ (xR X).slots)  {c : CS} {x7 : Int32} {x8 : Int32} {r : (CS × Int32)} {k n9 : Nat} (hk : (k + 2 ≤ 3 ∧ n9 + 12 ≤ 18)) (hf : f_L_next_b87 n x1 x2 x3 x4 x5 c x7 x8 = some r) : zW E X 9 k n9 (MQ (xb X) (zQ E (some (.int r.2)) (pC E h0 x r.1)) (xa X) (xs X) 3 18 (zA E)) 87 (pC E h0 x c) [(0, .ref x), (1, .int x1), (7, .int x7), (8, .int x8)] [] := by
  obtain ⟨hk1, hk2⟩ := hk
  unfold f_L_next_b87 at hf
  refine z_aload_n C dL_next_87 0 rfl ?_
  refine z_iconst C (4 : Int32) dL_next_88 (by decide) ?_
  refine z_iload_n C dL_next_89 1 rfl ?_
  refine z_iconst C (1 : Int32) dL_next_90 (by decide) ?_
  refine z_iconst C (0 : Int32) dL_next_91 (by decide) ?_
  obtain ⟨q92, hq92, hf⟩ := bd_some hf
  refine z_callK (K := 1) C 95 [.ref x, .int (4 : Int32), .int x1, .int (1 : Int32), .int (0 : Int32)] [] (ct_L_call hst hq92) co_L_call ml_L_139 st_L_call ini_L ⟨by decide +kernel, by decide +kernel, by show _ = some 5; decide +kernel⟩ (by decide) (by decide) rfl (Nat.le_of_ble_eq_true rfl) ⟨by omega, by omega⟩ rfl dL_next_92 ?_
  refine z_iload C dL_next_95 2 rfl ?_
  refine z_icmp_ne C 117 dL_next_97 (by decide) (fun c97 => ?_) (fun c97 => ?_)
  · replace hf := iN c97 hf
    refine z_iconst C (0 : Int32) dL_next_117 (by decide) ?_
    obtain rfl := Option.some.inj hf
    exact z_zretK (R := (0 : Int32)) C (by decide) (by omega) (by omega) dL_next_118 rfl
  · replace hf := ip c97 hf
    refine z_aload_n C dL_next_100 0 rfl ?_
    refine z_iconst C (4 : Int32) dL_next_101 (by decide) ?_
    refine z_iload_n C dL_next_102 1 rfl ?_
    refine z_iconst C (2 : Int32) dL_next_103 (by decide) ?_
    refine z_iconst C (0 : Int32) dL_next_104 (by decide) ?_
    obtain ⟨q105, hq105, hf⟩ := bd_some hf
    refine z_callK (K := 1) C 108 [.ref x, .int (4 : Int32), .int x1, .int (2 : Int32), .int (0 : Int32)] [] (ct_L_call hst hq105) co_L_call ml_L_139 st_L_call ini_L ⟨by decide +kernel, by decide +kernel, by show _ = some 5; decide +kernel⟩ (by decide) (by decide) rfl (Nat.le_of_ble_eq_true rfl) ⟨by omega, by omega⟩ rfl dL_next_105 ?_
    refine z_iload C dL_next_108 3 rfl ?_
    refine z_icmp_ne C 117 dL_next_110 (by decide) (fun c110 => ?_) (fun c110 => ?_)
    · replace hf := iN c110 hf
      refine z_iconst C (0 : Int32) dL_next_117 (by decide) ?_
      obtain rfl := Option.some.inj hf
      exact z_zretK (R := (0 : Int32)) C (by decide) (by omega) (by omega) dL_next_118 rfl
    · replace hf := ip c110 hf
      refine z_iconst C (1 : Int32) dL_next_113 (by decide) ?_
      refine z_goto C 118 dL_next_114 (by decide) ?_
      obtain rfl := Option.some.inj hf
      exact z_zretK (R := (1 : Int32)) C (by decide) (by omega) (by omega) dL_next_118 rfl
def f_L_next_b56 (n : Nat) (x1 : Int32) (x2 : Int32) (x3 : Int32) (x4 : Int32) (x5 : Int32)   (c : CS) (x6 : Int32) (x7 : Int32) (s0 : Int32) (s1 : Int32) : Option (CS × Int32) :=
  if x5 = 0 then (if x6 = x4 then (f_L_next_b87 n x1 x2 x3 x4 x5 c x7 (s1 + s0)) else (some (c, (0 : Int32)))) else (chk (¬ (2 : Int32) = 0) (if (jrem ((x6 - x4) + (4 : Int32)) (2 : Int32)) = (1 : Int32) then (f_L_next_b87 n x1 x2 x3 x4 x5 c x7 (s1 + s0)) else (some (c, (0 : Int32)))))
set_option maxRecDepth 100000 in
set_option maxHeartbeats 4000000 in
theorem w_L_next_b56 {E : zE} {X : zX} {h0 : Hp} {x : Nat} {n : Nat} {x1 : Int32} {x2 : Int32} {x3 : Int32} {x4 : Int32} {x5 : Int32}  (C : zC E X RL cL_next 9 (some .boolean) 17) (hst : (xl X).stackTraces = false) (hR1 : 3 ≤ (xR X).cells) (hR2 : 18 ≤ (xR X).slots)  {c : CS} {x6 : Int32} {x7 : Int32} {s0 : Int32} {s1 : Int32} {r : (CS × Int32)} {k n9 : Nat} (hk : (k + 2 ≤ 3 ∧ n9 + 12 ≤ 18)) (hf : f_L_next_b56 n x1 x2 x3 x4 x5 c x6 x7 s0 s1 = some r) : zW E X 9 k n9 (MQ (xb X) (zQ E (some (.int r.2)) (pC E h0 x r.1)) (xa X) (xs X) 3 18 (zA E)) 56 (pC E h0 x c) [(0, .ref x), (1, .int x1), (4, .int x4), (5, .int x5), (6, .int x6), (7, .int x7)] [.int s0, .int s1] := by
  obtain ⟨hk1, hk2⟩ := hk
  unfold f_L_next_b56 at hf
  refine z_iadd C dL_next_56 ?_
  refine z_istore (lv' := [(8, .int (s1 + s0)), (0, .ref x), (1, .int x1), (4, .int x4), (5, .int x5), (6, .int x6), (7, .int x7)]) C dL_next_57 (by decide) rfl ?_
  refine z_iload C dL_next_59 4 rfl ?_
  refine z_if_eq C 80 dL_next_61 (by decide) (fun c61 => ?_) (fun c61 => ?_)
  · replace hf := ip c61 hf
    refine z_iload C dL_next_80 5 rfl ?_
    refine z_iload C dL_next_82 3 rfl ?_
    refine z_icmp_ne C 117 dL_next_84 (by decide) (fun c84 => ?_) (fun c84 => ?_)
    · replace hf := iN c84 hf
      refine z_iconst C (0 : Int32) dL_next_117 (by decide) ?_
      obtain rfl := Option.some.inj hf
      exact z_zretK (R := (0 : Int32)) C (by decide) (by omega) (by omega) dL_next_118 rfl
    · replace hf := ip c84 hf
      exact z_sub [1, 2, 6, 0] rfl (w_L_next_b87 C hst hR1 hR2 ⟨by omega, by omega⟩ hf)
  · replace hf := iN c61 hf
    refine z_iload C dL_next_64 5 rfl ?_
    refine z_iload C dL_next_66 3 rfl ?_
    refine z_isub C dL_next_68 ?_
    refine z_iconst C (4 : Int32) dL_next_69 (by decide) ?_
    refine z_iadd C dL_next_70 ?_
    refine z_iconst C (2 : Int32) dL_next_71 (by decide) ?_
    obtain ⟨c72, hf⟩ := chk_some hf
    refine z_irem C dL_next_72 c72 ?_
    refine z_iconst C (1 : Int32) dL_next_73 (by decide) ?_
    refine z_icmp_ne C 117 dL_next_74 (by decide) (fun c74 => ?_) (fun c74 => ?_)
    · replace hf := iN c74 hf
      refine z_iconst C (0 : Int32) dL_next_117 (by decide) ?_
      obtain rfl := Option.some.inj hf
      exact z_zretK (R := (0 : Int32)) C (by decide) (by omega) (by omega) dL_next_118 rfl
    · replace hf := ip c74 hf
      refine z_goto C 87 dL_next_77 (by decide) ?_
      exact z_sub [1, 2, 6, 0] rfl (w_L_next_b87 C hst hR1 hR2 ⟨by omega, by omega⟩ hf)
def f_L_next_b31 (n : Nat) (x1 : Int32) (x2 : Int32) (x3 : Int32) (x4 : Int32) (x5 : Int32)   (c : CS) (x6 : Int32) (s0 : Int32) (s1 : Int32) : Option (CS × Int32) :=
  if x6 = (1 : Int32) then (f_L_next_b56 n x1 x2 x3 x4 x5 c x6 (s1 + s0) (1 : Int32) x3) else (if x6 = (3 : Int32) then (f_L_next_b56 n x1 x2 x3 x4 x5 c x6 (s1 + s0) (-1 : Int32) x3) else (f_L_next_b56 n x1 x2 x3 x4 x5 c x6 (s1 + s0) (0 : Int32) x3))
set_option maxRecDepth 100000 in
set_option maxHeartbeats 4000000 in
theorem w_L_next_b31 {E : zE} {X : zX} {h0 : Hp} {x : Nat} {n : Nat} {x1 : Int32} {x2 : Int32} {x3 : Int32} {x4 : Int32} {x5 : Int32}  (C : zC E X RL cL_next 9 (some .boolean) 17) (hst : (xl X).stackTraces = false) (hR1 : 3 ≤ (xR X).cells) (hR2 : 18 ≤ (xR X).slots)  {c : CS} {x6 : Int32} {s0 : Int32} {s1 : Int32} {r : (CS × Int32)} {k n9 : Nat} (hk : (k + 2 ≤ 3 ∧ n9 + 12 ≤ 18)) (hf : f_L_next_b31 n x1 x2 x3 x4 x5 c x6 s0 s1 = some r) : zW E X 9 k n9 (MQ (xb X) (zQ E (some (.int r.2)) (pC E h0 x r.1)) (xa X) (xs X) 3 18 (zA E)) 31 (pC E h0 x c) [(0, .ref x), (1, .int x1), (3, .int x3), (4, .int x4), (5, .int x5), (6, .int x6)] [.int s0, .int s1] := by
  obtain ⟨hk1, hk2⟩ := hk
  unfold f_L_next_b31 at hf
  refine z_iadd C dL_next_31 ?_
  refine z_istore (lv' := [(7, .int (s1 + s0)), (0, .ref x), (1, .int x1), (3, .int x3), (4, .int x4), (5, .int x5), (6, .int x6)]) C dL_next_32 (by decide) rfl ?_
  refine z_iload_n C dL_next_34 3 rfl ?_
  refine z_iload C dL_next_35 6 rfl ?_
  refine z_iconst C (1 : Int32) dL_next_37 (by decide) ?_
  refine z_icmp_ne C 45 dL_next_38 (by decide) (fun c38 => ?_) (fun c38 => ?_)
  · replace hf := iN c38 hf
    refine z_iload C dL_next_45 6 rfl ?_
    refine z_iconst C (3 : Int32) dL_next_47 (by decide) ?_
    refine z_icmp_ne C 55 dL_next_48 (by decide) (fun c48 => ?_) (fun c48 => ?_)
    · replace hf := iN c48 hf
      refine z_iconst C (0 : Int32) dL_next_55 (by decide) ?_
      exact z_sub [1, 2, 4, 5, 6, 0] rfl (w_L_next_b56 C hst hR1 hR2 ⟨by omega, by omega⟩ hf)
    · replace hf := ip c48 hf
      refine z_iconst C (-1 : Int32) dL_next_51 (by decide) ?_
      refine z_goto C 56 dL_next_52 (by decide) ?_
      exact z_sub [1, 2, 4, 5, 6, 0] rfl (w_L_next_b56 C hst hR1 hR2 ⟨by omega, by omega⟩ hf)
  · replace hf := ip c38 hf
    refine z_iconst C (1 : Int32) dL_next_41 (by decide) ?_
    refine z_goto C 56 dL_next_42 (by decide) ?_
    exact z_sub [1, 2, 4, 5, 6, 0] rfl (w_L_next_b56 C hst hR1 hR2 ⟨by omega, by omega⟩ hf)
def f_L_next (n : Nat) (c : CS) (x1 : Int32) (x2 : Int32) (x3 : Int32) (x4 : Int32) (x5 : Int32) : Option (CS × Int32) :=
  (f_L_call n c (4 : Int32) x1 (3 : Int32) (0 : Int32)).bind (fun q5 => if q5.2 = 0 then (f_L_next_b31 n x1 x2 x3 x4 x5 q5.1 q5.2 (1 : Int32) x2) else (if q5.2 = (2 : Int32) then (f_L_next_b31 n x1 x2 x3 x4 x5 q5.1 q5.2 (-1 : Int32) x2) else (f_L_next_b31 n x1 x2 x3 x4 x5 q5.1 q5.2 (0 : Int32) x2)))
set_option maxRecDepth 100000 in
set_option maxHeartbeats 4000000 in
theorem ct_L_next {E : zE} {l : Launch} {h0 : Hp} {x : Nat} {n : Nat} {c : CS} {x1 : Int32} {x2 : Int32} {x3 : Int32} {x4 : Int32} {x5 : Int32} {r : (CS × Int32)} (hst : l.stackTraces = false) (hf : f_L_next n c x1 x2 x3 x4 x5 = some r) : zMK E l 17 3 yL_next cL_next 9 (some .boolean) [.ref x, .int x1, .int x2, .int x3, .int x4, .int x5] (pC E h0 x c) (some (.int r.2)) (pC E h0 x r.1) := by
  refine zMK_of (lv := [(0, .ref x), (1, .int x1), (2, .int x2), (3, .int x3), (4, .int x4), (5, .int x5)]) (by decide +kernel) (Nat.le_of_ble_eq_true rfl) rfl (fun X hX C hR => ?_)
  subst hX
  replace C : zC E X RL cL_next 9 (some .boolean) 17 := C
  have hR1 : 3 ≤ (xR X).cells := by rw [hR]; exact Nat.le_refl _
  have hR2 : 18 ≤ (xR X).slots := by rw [hR]; exact Nat.le_refl _
  obtain ⟨k, hk0⟩ : ∃ k : Nat, k = 0 := ⟨0, rfl⟩
  obtain ⟨n9, hn0⟩ : ∃ n9 : Nat, n9 = 0 := ⟨0, rfl⟩
  refine z_kn (k := k) (n := n9) hk0 hn0 ?_
  unfold f_L_next at hf
  refine z_aload_n C dL_next_0 0 rfl ?_
  refine z_iconst C (4 : Int32) dL_next_1 (by decide) ?_
  refine z_iload_n C dL_next_2 1 rfl ?_
  refine z_iconst C (3 : Int32) dL_next_3 (by decide) ?_
  refine z_iconst C (0 : Int32) dL_next_4 (by decide) ?_
  obtain ⟨q5, hq5, hf⟩ := bd_some hf
  refine z_callK (K := 1) C 8 [.ref x, .int (4 : Int32), .int x1, .int (3 : Int32), .int (0 : Int32)] [] (ct_L_call hst hq5) co_L_call ml_L_139 st_L_call ini_L ⟨by decide +kernel, by decide +kernel, by show _ = some 5; decide +kernel⟩ (by decide) (by decide) rfl (Nat.le_of_ble_eq_true rfl) ⟨by omega, by omega⟩ rfl dL_next_5 ?_
  refine z_istore (lv' := [(6, .int q5.2), (0, .ref x), (1, .int x1), (2, .int x2), (3, .int x3), (4, .int x4), (5, .int x5)]) C dL_next_8 (by decide) rfl ?_
  refine z_iload_n C dL_next_10 3 rfl ?_
  refine z_iload C dL_next_11 0 rfl ?_
  refine z_if_ne C 20 dL_next_13 (by decide) (fun c13 => ?_) (fun c13 => ?_)
  · replace hf := iN c13 hf
    refine z_iload C dL_next_20 0 rfl ?_
    refine z_iconst C (2 : Int32) dL_next_22 (by decide) ?_
    refine z_icmp_ne C 30 dL_next_23 (by decide) (fun c23 => ?_) (fun c23 => ?_)
    · replace hf := iN c23 hf
      refine z_iconst C (0 : Int32) dL_next_30 (by decide) ?_
      exact z_sub [1, 2, 4, 5, 6, 0] rfl (w_L_next_b31 C hst hR1 hR2 ⟨by omega, by omega⟩ hf)
    · replace hf := ip c23 hf
      refine z_iconst C (-1 : Int32) dL_next_26 (by decide) ?_
      refine z_goto C 31 dL_next_27 (by decide) ?_
      exact z_sub [1, 2, 4, 5, 6, 0] rfl (w_L_next_b31 C hst hR1 hR2 ⟨by omega, by omega⟩ hf)
  · replace hf := ip c13 hf
    refine z_iconst C (1 : Int32) dL_next_16 (by decide) ?_
    refine z_goto C 31 dL_next_17 (by decide) ?_
    exact z_sub [1, 2, 4, 5, 6, 0] rfl (w_L_next_b31 C hst hR1 hR2 ⟨by omega, by omega⟩ hf)
/-! L_refuses: depth 17, exceptions at most 29 -/
def f_L_refuses_b638 (n : Nat) (x1 : Int32)   (c : CS) : Option (CS × Int32) :=
  some (c, (1 : Int32))
set_option maxRecDepth 100000 in
set_option maxHeartbeats 4000000 in
theorem w_L_refuses_b638 {E : zE} {X : zX} {h0 : Hp} {x : Nat} {n : Nat} {x1 : Int32}  (C : zC E X RL cL_refuses 9 (some .boolean) 17) (hst : (xl X).stackTraces = false) (hR1 : 29 ≤ (xR X).cells) (hR2 : 174 ≤ (xR X).slots)  {c : CS} {r : (CS × Int32)} {k n9 : Nat} (hk : (k + 0 ≤ 29 ∧ n9 + 0 ≤ 174)) (hf : f_L_refuses_b638 n x1 c = some r) : zW E X 9 k n9 (MQ (xb X) (zQ E (some (.int r.2)) (pC E h0 x r.1)) (xa X) (xs X) 29 174 (zA E)) 638 (pC E h0 x c) [] [] := by
  obtain ⟨hk1, hk2⟩ := hk
  unfold f_L_refuses_b638 at hf
  refine z_iconst C (1 : Int32) dL_refuses_638 (by decide) ?_
  refine z_goto C 643 dL_refuses_639 (by decide) ?_
  obtain rfl := Option.some.inj hf
  exact z_zretK (R := (1 : Int32)) C (by decide) (by omega) (by omega) dL_refuses_643 rfl
def f_L_refuses_b596 (n : Nat) (x1 : Int32)   (c : CS) (x6 : Int32) (x7 : Int32) : Option (CS × Int32) :=
  if x6 = (1 : Int32) then (if x7 ≤ 0 then ((f_L_call n c (8 : Int32) (0 : Int32) (0 : Int32) (0 : Int32)).bind (fun q630 => if q630.2 = (-9999003 : Int32) then (f_L_refuses_b638 n x1 q630.1) else (some (q630.1, (0 : Int32))))) else ((f_L_call n c (9 : Int32) (0 : Int32) (0 : Int32) (0 : Int32)).bind (fun q613 => if q613.2 = (-9999003 : Int32) then (f_L_refuses_b638 n x1 q613.1) else (some (q613.1, (0 : Int32)))))) else (f_L_refuses_b638 n x1 c)
set_option maxRecDepth 100000 in
set_option maxHeartbeats 4000000 in
theorem w_L_refuses_b596 {E : zE} {X : zX} {h0 : Hp} {x : Nat} {n : Nat} {x1 : Int32}  (C : zC E X RL cL_refuses 9 (some .boolean) 17) (hst : (xl X).stackTraces = false) (hR1 : 29 ≤ (xR X).cells) (hR2 : 174 ≤ (xR X).slots)  {c : CS} {x6 : Int32} {x7 : Int32} {r : (CS × Int32)} {k n9 : Nat} (hk : (k + 1 ≤ 29 ∧ n9 + 6 ≤ 174)) (hf : f_L_refuses_b596 n x1 c x6 x7 = some r) : zW E X 9 k n9 (MQ (xb X) (zQ E (some (.int r.2)) (pC E h0 x r.1)) (xa X) (xs X) 29 174 (zA E)) 596 (pC E h0 x c) [(0, .ref x), (6, .int x6), (7, .int x7)] [] := by
  obtain ⟨hk1, hk2⟩ := hk
  unfold f_L_refuses_b596 at hf
  refine z_iload C dL_refuses_596 1 rfl ?_
  refine z_iconst C (1 : Int32) dL_refuses_598 (by decide) ?_
  refine z_icmp_ne C 638 dL_refuses_599 (by decide) (fun c599 => ?_) (fun c599 => ?_)
  · replace hf := iN c599 hf
    exact z_sub [] rfl (w_L_refuses_b638 C hst hR1 hR2 ⟨by omega, by omega⟩ hf)
  · replace hf := ip c599 hf
    refine z_iload C dL_refuses_602 2 rfl ?_
    refine z_if_le C 624 dL_refuses_604 (by decide) (fun c604 => ?_) (fun c604 => ?_)
    · replace hf := ip c604 hf
      refine z_aload_n C dL_refuses_624 0 rfl ?_
      refine z_bipush C (8 : Int32) dL_refuses_625 (by decide) ?_
      refine z_iconst C (0 : Int32) dL_refuses_627 (by decide) ?_
      refine z_iconst C (0 : Int32) dL_refuses_628 (by decide) ?_
      refine z_iconst C (0 : Int32) dL_refuses_629 (by decide) ?_
      obtain ⟨q630, hq630, hf⟩ := bd_some hf
      refine z_callK (K := 1) C 633 [.ref x, .int (8 : Int32), .int (0 : Int32), .int (0 : Int32), .int (0 : Int32)] [] (ct_L_call hst hq630) co_L_call ml_L_139 st_L_call ini_L ⟨by decide +kernel, by decide +kernel, by show _ = some 5; decide +kernel⟩ (by decide) (by decide) rfl (Nat.le_of_ble_eq_true rfl) ⟨by omega, by omega⟩ rfl dL_refuses_630 ?_
      refine z_ldc C (-9999003 : Int32) dL_refuses_633 cn_L_25 ?_
      refine z_icmp_ne C 642 dL_refuses_635 (by decide) (fun c635 => ?_) (fun c635 => ?_)
      · replace hf := iN c635 hf
        refine z_iconst C (0 : Int32) dL_refuses_642 (by decide) ?_
        obtain rfl := Option.some.inj hf
        exact z_zretK (R := (0 : Int32)) C (by decide) (by omega) (by omega) dL_refuses_643 rfl
      · replace hf := ip c635 hf
        exact z_sub [] rfl (w_L_refuses_b638 C hst hR1 hR2 ⟨by omega, by omega⟩ hf)
    · replace hf := iN c604 hf
      refine z_aload_n C dL_refuses_607 0 rfl ?_
      refine z_bipush C (9 : Int32) dL_refuses_608 (by decide) ?_
      refine z_iconst C (0 : Int32) dL_refuses_610 (by decide) ?_
      refine z_iconst C (0 : Int32) dL_refuses_611 (by decide) ?_
      refine z_iconst C (0 : Int32) dL_refuses_612 (by decide) ?_
      obtain ⟨q613, hq613, hf⟩ := bd_some hf
      refine z_callK (K := 1) C 616 [.ref x, .int (9 : Int32), .int (0 : Int32), .int (0 : Int32), .int (0 : Int32)] [] (ct_L_call hst hq613) co_L_call ml_L_139 st_L_call ini_L ⟨by decide +kernel, by decide +kernel, by show _ = some 5; decide +kernel⟩ (by decide) (by decide) rfl (Nat.le_of_ble_eq_true rfl) ⟨by omega, by omega⟩ rfl dL_refuses_613 ?_
      refine z_ldc C (-9999003 : Int32) dL_refuses_616 cn_L_25 ?_
      refine z_icmp_ne C 642 dL_refuses_618 (by decide) (fun c618 => ?_) (fun c618 => ?_)
      · replace hf := iN c618 hf
        refine z_iconst C (0 : Int32) dL_refuses_642 (by decide) ?_
        obtain rfl := Option.some.inj hf
        exact z_zretK (R := (0 : Int32)) C (by decide) (by omega) (by omega) dL_refuses_643 rfl
      · replace hf := ip c618 hf
        refine z_goto C 638 dL_refuses_621 (by decide) ?_
        exact z_sub [] rfl (w_L_refuses_b638 C hst hR1 hR2 ⟨by omega, by omega⟩ hf)
def f_L_refuses_b526 (n : Nat) (x1 : Int32)   (c : CS) (x6 : Int32) (x7 : Int32) (s0 : Int32) : Option (CS × Int32) :=
  if s0 = 0 then (some (c, (0 : Int32))) else (if x6 = (1 : Int32) then (f_L_refuses_b596 n x1 c x6 x7) else (chk (¬ (28 : Int32) = 0) ((f_L_plays n c (jrem x1 (28 : Int32)) (1 : Int32)).bind (fun q545 => if q545.2 = (-9999003 : Int32) then ((f_L_call n q545.1 (8 : Int32) (0 : Int32) (0 : Int32) (0 : Int32)).bind (fun q559 => if q559.2 = (-9999003 : Int32) then ((f_L_call n q559.1 (9 : Int32) (0 : Int32) (0 : Int32) (0 : Int32)).bind (fun q573 => if q573.2 = (-9999003 : Int32) then ((f_X5_legal n q573.1).bind (fun q582 => if q582 = 0 then ((f_X5_best n q573.1).bind (fun q589 => if q589 = (-1 : Int32) then (f_L_refuses_b596 n x1 q573.1 x6 x7) else (some (q573.1, (0 : Int32))))) else (some (q573.1, (0 : Int32))))) else (some (q573.1, (0 : Int32))))) else (some (q559.1, (0 : Int32))))) else (some (q545.1, (0 : Int32)))))))
set_option maxRecDepth 100000 in
set_option maxHeartbeats 4000000 in
theorem w_L_refuses_b526 {E : zE} {X : zX} {h0 : Hp} {x : Nat} {n : Nat} {x1 : Int32}  (C : zC E X RL cL_refuses 9 (some .boolean) 17) (hst : (xl X).stackTraces = false) (hR1 : 29 ≤ (xR X).cells) (hR2 : 174 ≤ (xR X).slots)  {c : CS} {x6 : Int32} {x7 : Int32} {s0 : Int32} {r : (CS × Int32)} {k n9 : Nat} (hk : (k + 4 ≤ 29 ∧ n9 + 24 ≤ 174)) (hf : f_L_refuses_b526 n x1 c x6 x7 s0 = some r) : zW E X 9 k n9 (MQ (xb X) (zQ E (some (.int r.2)) (pC E h0 x r.1)) (xa X) (xs X) 29 174 (zA E)) 526 (pC E h0 x c) [(0, .ref x), (1, .int x1), (6, .int x6), (7, .int x7)] [.int s0] := by
  obtain ⟨hk1, hk2⟩ := hk
  unfold f_L_refuses_b526 at hf
  refine z_istore (lv' := [(8, .int s0), (0, .ref x), (1, .int x1), (6, .int x6), (7, .int x7)]) C dL_refuses_526 (by decide) rfl ?_
  refine z_iload C dL_refuses_528 0 rfl ?_
  refine z_if_eq C 642 dL_refuses_530 (by decide) (fun c530 => ?_) (fun c530 => ?_)
  · replace hf := ip c530 hf
    refine z_iconst C (0 : Int32) dL_refuses_642 (by decide) ?_
    obtain rfl := Option.some.inj hf
    exact z_zretK (R := (0 : Int32)) C (by decide) (by omega) (by omega) dL_refuses_643 rfl
  · replace hf := iN c530 hf
    refine z_iload C dL_refuses_533 3 rfl ?_
    refine z_iconst C (1 : Int32) dL_refuses_535 (by decide) ?_
    refine z_icmp_eq C 596 dL_refuses_536 (by decide) (fun c536 => ?_) (fun c536 => ?_)
    · replace hf := ip c536 hf
      exact z_sub [1, 3, 4] rfl (w_L_refuses_b596 C hst hR1 hR2 ⟨by omega, by omega⟩ hf)
    · replace hf := iN c536 hf
      refine z_aload_n C dL_refuses_539 1 rfl ?_
      refine z_iload_n C dL_refuses_540 2 rfl ?_
      refine z_bipush C (28 : Int32) dL_refuses_541 (by decide) ?_
      obtain ⟨c543, hf⟩ := chk_some hf
      refine z_irem C dL_refuses_543 c543 ?_
      refine z_iconst C (1 : Int32) dL_refuses_544 (by decide) ?_
      obtain ⟨q545, hq545, hf⟩ := bd_some hf
      refine z_callSW C 548 [.ref x, .int (jrem x1 (28 : Int32)), .int (1 : Int32)] [] (ct_L_plays hst hq545) co_L_plays ml_L_147 st_L_plays ini_L ⟨by decide +kernel, by decide +kernel, by show _ = some 3; decide +kernel⟩ (by decide) (by decide) rfl (Nat.le_of_ble_eq_true rfl) ⟨by omega, by omega⟩ rfl dL_refuses_545 ?_
      refine z_ldc C (-9999003 : Int32) dL_refuses_548 cn_L_25 ?_
      refine z_icmp_ne C 642 dL_refuses_550 (by decide) (fun c550 => ?_) (fun c550 => ?_)
      · replace hf := iN c550 hf
        refine z_iconst C (0 : Int32) dL_refuses_642 (by decide) ?_
        obtain rfl := Option.some.inj hf
        exact z_zretK (R := (0 : Int32)) C (by decide) (by omega) (by omega) dL_refuses_643 rfl
      · replace hf := ip c550 hf
        refine z_aload_n C dL_refuses_553 1 rfl ?_
        refine z_bipush C (8 : Int32) dL_refuses_554 (by decide) ?_
        refine z_iconst C (0 : Int32) dL_refuses_556 (by decide) ?_
        refine z_iconst C (0 : Int32) dL_refuses_557 (by decide) ?_
        refine z_iconst C (0 : Int32) dL_refuses_558 (by decide) ?_
        obtain ⟨q559, hq559, hf⟩ := bd_some hf
        refine z_callK (K := 1) C 562 [.ref x, .int (8 : Int32), .int (0 : Int32), .int (0 : Int32), .int (0 : Int32)] [] (ct_L_call hst hq559) co_L_call ml_L_139 st_L_call ini_L ⟨by decide +kernel, by decide +kernel, by show _ = some 5; decide +kernel⟩ (by decide) (by decide) rfl (Nat.le_of_ble_eq_true rfl) ⟨by omega, by omega⟩ rfl dL_refuses_559 ?_
        refine z_ldc C (-9999003 : Int32) dL_refuses_562 cn_L_25 ?_
        refine z_icmp_ne C 642 dL_refuses_564 (by decide) (fun c564 => ?_) (fun c564 => ?_)
        · replace hf := iN c564 hf
          refine z_iconst C (0 : Int32) dL_refuses_642 (by decide) ?_
          obtain rfl := Option.some.inj hf
          exact z_zretK (R := (0 : Int32)) C (by decide) (by omega) (by omega) dL_refuses_643 rfl
        · replace hf := ip c564 hf
          refine z_aload_n C dL_refuses_567 1 rfl ?_
          refine z_bipush C (9 : Int32) dL_refuses_568 (by decide) ?_
          refine z_iconst C (0 : Int32) dL_refuses_570 (by decide) ?_
          refine z_iconst C (0 : Int32) dL_refuses_571 (by decide) ?_
          refine z_iconst C (0 : Int32) dL_refuses_572 (by decide) ?_
          obtain ⟨q573, hq573, hf⟩ := bd_some hf
          refine z_callK (K := 1) C 576 [.ref x, .int (9 : Int32), .int (0 : Int32), .int (0 : Int32), .int (0 : Int32)] [] (ct_L_call hst hq573) co_L_call ml_L_139 st_L_call ini_L ⟨by decide +kernel, by decide +kernel, by show _ = some 5; decide +kernel⟩ (by decide) (by decide) rfl (Nat.le_of_ble_eq_true rfl) ⟨by omega, by omega⟩ rfl dL_refuses_573 ?_
          refine z_ldc C (-9999003 : Int32) dL_refuses_576 cn_L_25 ?_
          refine z_icmp_ne C 642 dL_refuses_578 (by decide) (fun c578 => ?_) (fun c578 => ?_)
          · replace hf := iN c578 hf
            refine z_iconst C (0 : Int32) dL_refuses_642 (by decide) ?_
            obtain rfl := Option.some.inj hf
            exact z_zretK (R := (0 : Int32)) C (by decide) (by omega) (by omega) dL_refuses_643 rfl
          · replace hf := ip c578 hf
            refine z_aload_n C dL_refuses_581 1 rfl ?_
            obtain ⟨q582, hq582, hf⟩ := bd_some hf
            refine iv_L_160 C [] [] (ct_X5_legal hq582) pC_o rfl (by decide) rfl (Nat.le_of_ble_eq_true rfl) ⟨by omega, by omega⟩ dL_refuses_582 ?_
            refine z_if_ne C 642 dL_refuses_585 (by decide) (fun c585 => ?_) (fun c585 => ?_)
            · replace hf := iN c585 hf
              refine z_iconst C (0 : Int32) dL_refuses_642 (by decide) ?_
              obtain rfl := Option.some.inj hf
              exact z_zretK (R := (0 : Int32)) C (by decide) (by omega) (by omega) dL_refuses_643 rfl
            · replace hf := ip c585 hf
              refine z_aload_n C dL_refuses_588 1 rfl ?_
              obtain ⟨q589, hq589, hf⟩ := bd_some hf
              refine iv_L_163 C [] [] (ct_X5_best hq589) pC_o rfl (by decide) rfl (Nat.le_of_ble_eq_true rfl) ⟨by omega, by omega⟩ dL_refuses_589 ?_
              refine z_iconst C (-1 : Int32) dL_refuses_592 (by decide) ?_
              refine z_icmp_ne C 642 dL_refuses_593 (by decide) (fun c593 => ?_) (fun c593 => ?_)
              · replace hf := iN c593 hf
                refine z_iconst C (0 : Int32) dL_refuses_642 (by decide) ?_
                obtain rfl := Option.some.inj hf
                exact z_zretK (R := (0 : Int32)) C (by decide) (by omega) (by omega) dL_refuses_643 rfl
              · replace hf := ip c593 hf
                exact z_sub [1, 3, 4] rfl (w_L_refuses_b596 C hst hR1 hR2 ⟨by omega, by omega⟩ hf)
def f_L_refuses_b525 (n : Nat) (x1 : Int32)   (c : CS) (x6 : Int32) (x7 : Int32) : Option (CS × Int32) :=
  f_L_refuses_b526 n x1 c x6 x7 (0 : Int32)
set_option maxRecDepth 100000 in
set_option maxHeartbeats 4000000 in
theorem w_L_refuses_b525 {E : zE} {X : zX} {h0 : Hp} {x : Nat} {n : Nat} {x1 : Int32}  (C : zC E X RL cL_refuses 9 (some .boolean) 17) (hst : (xl X).stackTraces = false) (hR1 : 29 ≤ (xR X).cells) (hR2 : 174 ≤ (xR X).slots)  {c : CS} {x6 : Int32} {x7 : Int32} {r : (CS × Int32)} {k n9 : Nat} (hk : (k + 4 ≤ 29 ∧ n9 + 24 ≤ 174)) (hf : f_L_refuses_b525 n x1 c x6 x7 = some r) : zW E X 9 k n9 (MQ (xb X) (zQ E (some (.int r.2)) (pC E h0 x r.1)) (xa X) (xs X) 29 174 (zA E)) 525 (pC E h0 x c) [(0, .ref x), (1, .int x1), (6, .int x6), (7, .int x7)] [] := by
  obtain ⟨hk1, hk2⟩ := hk
  unfold f_L_refuses_b525 at hf
  refine z_iconst C (0 : Int32) dL_refuses_525 (by decide) ?_
  exact z_sub [0, 1, 2, 3] rfl (w_L_refuses_b526 C hst hR1 hR2 ⟨by omega, by omega⟩ hf)
def f_L_refuses_b408 (n : Nat) (x1 : Int32)   (c : CS) (x6 : Int32) (x7 : Int32) (s0 : Int32) (s1 : Int32) (s2 : Int32) : Option (CS × Int32) :=
  (f_L_call n c s2 s1 s0 (0 : Int32)).bind (fun q409 => if q409.2 = (-9999002 : Int32) then (chk (¬ (9 : Int32) = 0) ((f_L_call n q409.1 (13 : Int32) ((6 : Int32) + (jrem x1 (9 : Int32))) (0 : Int32) (0 : Int32)).bind (fun q429 => if q429.2 = (-9999002 : Int32) then (chk (¬ (50 : Int32) = 0) ((f_L_call n q429.1 (14 : Int32) ((2 : Int32) + (jrem x1 (50 : Int32))) (0 : Int32) (0 : Int32)).bind (fun q448 => if q448.2 = (-9999001 : Int32) then (chk (¬ (9 : Int32) = 0) ((f_L_call n q448.1 (15 : Int32) ((-1 : Int32) - (jrem x1 (9 : Int32))) (0 : Int32) (0 : Int32)).bind (fun q467 => if q467.2 = (-9999001 : Int32) then ((f_L_doScript n q467.1 (0 : Int32) (0 : Int64)).bind (fun q478 => if q478.2 = (-9999002 : Int32) then ((f_L_doScript n q478.1 (1 : Int32) ((10000 : Int64) + x1.toInt64)).bind (fun q494 => if q494.2 = (-9999002 : Int32) then (chk (¬ (9 : Int32) = 0) ((f_L_doSimulate n q494.1 x1.toInt64 ((201 : Int32) + (jrem x1 (9 : Int32)))).bind (fun q513 => if q513.2 = (-9999002 : Int32) then (f_L_refuses_b526 n x1 q513.1 x6 x7 (1 : Int32)) else (f_L_refuses_b525 n x1 q513.1 x6 x7)))) else (f_L_refuses_b525 n x1 q494.1 x6 x7))) else (f_L_refuses_b525 n x1 q478.1 x6 x7))) else (f_L_refuses_b525 n x1 q467.1 x6 x7)))) else (f_L_refuses_b525 n x1 q448.1 x6 x7)))) else (f_L_refuses_b525 n x1 q429.1 x6 x7)))) else (f_L_refuses_b525 n x1 q409.1 x6 x7))
set_option maxRecDepth 100000 in
set_option maxHeartbeats 4000000 in
theorem w_L_refuses_b408 {E : zE} {X : zX} {h0 : Hp} {x : Nat} {n : Nat} {x1 : Int32}  (C : zC E X RL cL_refuses 9 (some .boolean) 17) (hst : (xl X).stackTraces = false) (hR1 : 29 ≤ (xR X).cells) (hR2 : 174 ≤ (xR X).slots)  {c : CS} {x6 : Int32} {x7 : Int32} {s0 : Int32} {s1 : Int32} {s2 : Int32} {r : (CS × Int32)} {k n9 : Nat} (hk : (k + 11 ≤ 29 ∧ n9 + 66 ≤ 174)) (hf : f_L_refuses_b408 n x1 c x6 x7 s0 s1 s2 = some r) : zW E X 9 k n9 (MQ (xb X) (zQ E (some (.int r.2)) (pC E h0 x r.1)) (xa X) (xs X) 29 174 (zA E)) 408 (pC E h0 x c) [(0, .ref x), (1, .int x1), (6, .int x6), (7, .int x7)] [.int s0, .int s1, .int s2, .ref x] := by
  obtain ⟨hk1, hk2⟩ := hk
  unfold f_L_refuses_b408 at hf
  refine z_iconst C (0 : Int32) dL_refuses_408 (by decide) ?_
  obtain ⟨q409, hq409, hf⟩ := bd_some hf
  refine z_callK (K := 1) C 412 [.ref x, .int s2, .int s1, .int s0, .int (0 : Int32)] [] (ct_L_call hst hq409) co_L_call ml_L_139 st_L_call ini_L ⟨by decide +kernel, by decide +kernel, by show _ = some 5; decide +kernel⟩ (by decide) (by decide) rfl (Nat.le_of_ble_eq_true rfl) ⟨by omega, by omega⟩ rfl dL_refuses_409 ?_
  refine z_ldc C (-9999002 : Int32) dL_refuses_412 cn_L_15 ?_
  refine z_icmp_ne C 525 dL_refuses_414 (by decide) (fun c414 => ?_) (fun c414 => ?_)
  · replace hf := iN c414 hf
    exact z_sub [0, 1, 2, 3] rfl (w_L_refuses_b525 C hst hR1 hR2 ⟨by omega, by omega⟩ hf)
  · replace hf := ip c414 hf
    refine z_aload_n C dL_refuses_417 0 rfl ?_
    refine z_bipush C (13 : Int32) dL_refuses_418 (by decide) ?_
    refine z_bipush C (6 : Int32) dL_refuses_420 (by decide) ?_
    refine z_iload_n C dL_refuses_422 1 rfl ?_
    refine z_bipush C (9 : Int32) dL_refuses_423 (by decide) ?_
    obtain ⟨c425, hf⟩ := chk_some hf
    refine z_irem C dL_refuses_425 c425 ?_
    refine z_iadd C dL_refuses_426 ?_
    refine z_iconst C (0 : Int32) dL_refuses_427 (by decide) ?_
    refine z_iconst C (0 : Int32) dL_refuses_428 (by decide) ?_
    obtain ⟨q429, hq429, hf⟩ := bd_some hf
    refine z_callK (K := 1) C 432 [.ref x, .int (13 : Int32), .int ((6 : Int32) + (jrem x1 (9 : Int32))), .int (0 : Int32), .int (0 : Int32)] [] (ct_L_call hst hq429) co_L_call ml_L_139 st_L_call ini_L ⟨by decide +kernel, by decide +kernel, by show _ = some 5; decide +kernel⟩ (by decide) (by decide) rfl (Nat.le_of_ble_eq_true rfl) ⟨by omega, by omega⟩ rfl dL_refuses_429 ?_
    refine z_ldc C (-9999002 : Int32) dL_refuses_432 cn_L_15 ?_
    refine z_icmp_ne C 525 dL_refuses_434 (by decide) (fun c434 => ?_) (fun c434 => ?_)
    · replace hf := iN c434 hf
      exact z_sub [0, 1, 2, 3] rfl (w_L_refuses_b525 C hst hR1 hR2 ⟨by omega, by omega⟩ hf)
    · replace hf := ip c434 hf
      refine z_aload_n C dL_refuses_437 0 rfl ?_
      refine z_bipush C (14 : Int32) dL_refuses_438 (by decide) ?_
      refine z_iconst C (2 : Int32) dL_refuses_440 (by decide) ?_
      refine z_iload_n C dL_refuses_441 1 rfl ?_
      refine z_bipush C (50 : Int32) dL_refuses_442 (by decide) ?_
      obtain ⟨c444, hf⟩ := chk_some hf
      refine z_irem C dL_refuses_444 c444 ?_
      refine z_iadd C dL_refuses_445 ?_
      refine z_iconst C (0 : Int32) dL_refuses_446 (by decide) ?_
      refine z_iconst C (0 : Int32) dL_refuses_447 (by decide) ?_
      obtain ⟨q448, hq448, hf⟩ := bd_some hf
      refine z_callK (K := 1) C 451 [.ref x, .int (14 : Int32), .int ((2 : Int32) + (jrem x1 (50 : Int32))), .int (0 : Int32), .int (0 : Int32)] [] (ct_L_call hst hq448) co_L_call ml_L_139 st_L_call ini_L ⟨by decide +kernel, by decide +kernel, by show _ = some 5; decide +kernel⟩ (by decide) (by decide) rfl (Nat.le_of_ble_eq_true rfl) ⟨by omega, by omega⟩ rfl dL_refuses_448 ?_
      refine z_ldc C (-9999001 : Int32) dL_refuses_451 cn_L_22 ?_
      refine z_icmp_ne C 525 dL_refuses_453 (by decide) (fun c453 => ?_) (fun c453 => ?_)
      · replace hf := iN c453 hf
        exact z_sub [0, 1, 2, 3] rfl (w_L_refuses_b525 C hst hR1 hR2 ⟨by omega, by omega⟩ hf)
      · replace hf := ip c453 hf
        refine z_aload_n C dL_refuses_456 0 rfl ?_
        refine z_bipush C (15 : Int32) dL_refuses_457 (by decide) ?_
        refine z_iconst C (-1 : Int32) dL_refuses_459 (by decide) ?_
        refine z_iload_n C dL_refuses_460 1 rfl ?_
        refine z_bipush C (9 : Int32) dL_refuses_461 (by decide) ?_
        obtain ⟨c463, hf⟩ := chk_some hf
        refine z_irem C dL_refuses_463 c463 ?_
        refine z_isub C dL_refuses_464 ?_
        refine z_iconst C (0 : Int32) dL_refuses_465 (by decide) ?_
        refine z_iconst C (0 : Int32) dL_refuses_466 (by decide) ?_
        obtain ⟨q467, hq467, hf⟩ := bd_some hf
        refine z_callK (K := 1) C 470 [.ref x, .int (15 : Int32), .int ((-1 : Int32) - (jrem x1 (9 : Int32))), .int (0 : Int32), .int (0 : Int32)] [] (ct_L_call hst hq467) co_L_call ml_L_139 st_L_call ini_L ⟨by decide +kernel, by decide +kernel, by show _ = some 5; decide +kernel⟩ (by decide) (by decide) rfl (Nat.le_of_ble_eq_true rfl) ⟨by omega, by omega⟩ rfl dL_refuses_467 ?_
        refine z_ldc C (-9999001 : Int32) dL_refuses_470 cn_L_22 ?_
        refine z_icmp_ne C 525 dL_refuses_472 (by decide) (fun c472 => ?_) (fun c472 => ?_)
        · replace hf := iN c472 hf
          exact z_sub [0, 1, 2, 3] rfl (w_L_refuses_b525 C hst hR1 hR2 ⟨by omega, by omega⟩ hf)
        · replace hf := ip c472 hf
          refine z_aload_n C dL_refuses_475 0 rfl ?_
          refine z_iconst C (0 : Int32) dL_refuses_476 (by decide) ?_
          refine z_lconst C (0 : Int64) dL_refuses_477 (by decide) ?_
          obtain ⟨q478, hq478, hf⟩ := bd_some hf
          refine z_callSW C 481 [.ref x, .int (0 : Int32), .long (0 : Int64)] [] (ct_L_doScript hst hq478) co_L_doScript ml_L_151 st_L_doScript ini_L ⟨by decide +kernel, by decide +kernel, by show _ = some 3; decide +kernel⟩ (by decide) (by decide) rfl (Nat.le_of_ble_eq_true rfl) ⟨by omega, by omega⟩ rfl dL_refuses_478 ?_
          refine z_ldc C (-9999002 : Int32) dL_refuses_481 cn_L_15 ?_
          refine z_icmp_ne C 525 dL_refuses_483 (by decide) (fun c483 => ?_) (fun c483 => ?_)
          · replace hf := iN c483 hf
            exact z_sub [0, 1, 2, 3] rfl (w_L_refuses_b525 C hst hR1 hR2 ⟨by omega, by omega⟩ hf)
          · replace hf := ip c483 hf
            refine z_aload_n C dL_refuses_486 0 rfl ?_
            refine z_iconst C (1 : Int32) dL_refuses_487 (by decide) ?_
            refine z_ldc2 C (10000 : Int64) dL_refuses_488 cn_L_154 ?_
            refine z_iload_n C dL_refuses_491 1 rfl ?_
            refine z_i2l C dL_refuses_492 ?_
            refine z_ladd C dL_refuses_493 ?_
            obtain ⟨q494, hq494, hf⟩ := bd_some hf
            refine z_callSW C 497 [.ref x, .int (1 : Int32), .long ((10000 : Int64) + x1.toInt64)] [] (ct_L_doScript hst hq494) co_L_doScript ml_L_151 st_L_doScript ini_L ⟨by decide +kernel, by decide +kernel, by show _ = some 3; decide +kernel⟩ (by decide) (by decide) rfl (Nat.le_of_ble_eq_true rfl) ⟨by omega, by omega⟩ rfl dL_refuses_494 ?_
            refine z_ldc C (-9999002 : Int32) dL_refuses_497 cn_L_15 ?_
            refine z_icmp_ne C 525 dL_refuses_499 (by decide) (fun c499 => ?_) (fun c499 => ?_)
            · replace hf := iN c499 hf
              exact z_sub [0, 1, 2, 3] rfl (w_L_refuses_b525 C hst hR1 hR2 ⟨by omega, by omega⟩ hf)
            · replace hf := ip c499 hf
              refine z_aload_n C dL_refuses_502 0 rfl ?_
              refine z_iload_n C dL_refuses_503 1 rfl ?_
              refine z_i2l C dL_refuses_504 ?_
              refine z_sipush C (201 : Int32) dL_refuses_505 (by decide) ?_
              refine z_iload_n C dL_refuses_508 1 rfl ?_
              refine z_bipush C (9 : Int32) dL_refuses_509 (by decide) ?_
              obtain ⟨c511, hf⟩ := chk_some hf
              refine z_irem C dL_refuses_511 c511 ?_
              refine z_iadd C dL_refuses_512 ?_
              obtain ⟨q513, hq513, hf⟩ := bd_some hf
              refine z_callSW C 516 [.ref x, .long x1.toInt64, .int ((201 : Int32) + (jrem x1 (9 : Int32)))] [] (ct_L_doSimulate hst hq513) co_L_doSimulate ml_L_156 st_L_doSimulate ini_L ⟨by decide +kernel, by decide +kernel, by show _ = some 3; decide +kernel⟩ (by decide) (by decide) rfl (Nat.le_of_ble_eq_true rfl) ⟨by omega, by omega⟩ rfl dL_refuses_513 ?_
              refine z_ldc C (-9999002 : Int32) dL_refuses_516 cn_L_15 ?_
              refine z_icmp_ne C 525 dL_refuses_518 (by decide) (fun c518 => ?_) (fun c518 => ?_)
              · replace hf := iN c518 hf
                exact z_sub [0, 1, 2, 3] rfl (w_L_refuses_b525 C hst hR1 hR2 ⟨by omega, by omega⟩ hf)
              · replace hf := ip c518 hf
                refine z_iconst C (1 : Int32) dL_refuses_521 (by decide) ?_
                refine z_goto C 526 dL_refuses_522 (by decide) ?_
                exact z_sub [0, 1, 2, 3] rfl (w_L_refuses_b526 C hst hR1 hR2 ⟨by omega, by omega⟩ hf)
def f_L_refuses_b337 (n : Nat) (x1 : Int32)   (c : CS) (x2 : Int32) (x3 : Int32) (x6 : Int32) (x7 : Int32) (s0 : Int32) : Option (CS × Int32) :=
  (f_L_deals n c s0 x1.toInt64).bind (fun q339 => if q339.2 = (-9999002 : Int32) then ((f_L_plays n q339.1 x2 (1 : Int32)).bind (fun q350 => if q350.2 = (-9999001 : Int32) then ((f_L_call n q350.1 (11 : Int32) x2 (0 : Int32) (0 : Int32)).bind (fun q364 => if q364.2 = (-9999001 : Int32) then ((f_L_call n q364.1 (12 : Int32) x3 (99 : Int32) (0 : Int32)).bind (fun q379 => if q379.2 = (-9999001 : Int32) then (chk (¬ (2 : Int32) = 0) (if (jrem x1 (2 : Int32)) = 0 then (f_L_refuses_b408 n x1 q379.1 x6 x7 (0 : Int32) (0 : Int32) (12 : Int32)) else (chk (¬ (9 : Int32) = 0) (f_L_refuses_b408 n x1 q379.1 x6 x7 ((7 : Int32) + (jrem x1 (9 : Int32))) (0 : Int32) (12 : Int32))))) else (f_L_refuses_b525 n x1 q379.1 x6 x7))) else (f_L_refuses_b525 n x1 q364.1 x6 x7))) else (f_L_refuses_b525 n x1 q350.1 x6 x7))) else (f_L_refuses_b525 n x1 q339.1 x6 x7))
set_option maxRecDepth 100000 in
set_option maxHeartbeats 4000000 in
theorem w_L_refuses_b337 {E : zE} {X : zX} {h0 : Hp} {x : Nat} {n : Nat} {x1 : Int32}  (C : zC E X RL cL_refuses 9 (some .boolean) 17) (hst : (xl X).stackTraces = false) (hR1 : 29 ≤ (xR X).cells) (hR2 : 174 ≤ (xR X).slots)  {c : CS} {x2 : Int32} {x3 : Int32} {x6 : Int32} {x7 : Int32} {s0 : Int32} {r : (CS × Int32)} {k n9 : Nat} (hk : (k + 15 ≤ 29 ∧ n9 + 90 ≤ 174)) (hf : f_L_refuses_b337 n x1 c x2 x3 x6 x7 s0 = some r) : zW E X 9 k n9 (MQ (xb X) (zQ E (some (.int r.2)) (pC E h0 x r.1)) (xa X) (xs X) 29 174 (zA E)) 337 (pC E h0 x c) [(0, .ref x), (1, .int x1), (2, .int x2), (3, .int x3), (6, .int x6), (7, .int x7)] [.int s0, .ref x] := by
  obtain ⟨hk1, hk2⟩ := hk
  unfold f_L_refuses_b337 at hf
  refine z_iload_n C dL_refuses_337 1 rfl ?_
  refine z_i2l C dL_refuses_338 ?_
  obtain ⟨q339, hq339, hf⟩ := bd_some hf
  refine z_callSW C 342 [.ref x, .int s0, .long x1.toInt64] [] (ct_L_deals hst hq339) co_L_deals ml_L_143 st_L_deals ini_L ⟨by decide +kernel, by decide +kernel, by show _ = some 3; decide +kernel⟩ (by decide) (by decide) rfl (Nat.le_of_ble_eq_true rfl) ⟨by omega, by omega⟩ rfl dL_refuses_339 ?_
  refine z_ldc C (-9999002 : Int32) dL_refuses_342 cn_L_15 ?_
  refine z_icmp_ne C 525 dL_refuses_344 (by decide) (fun c344 => ?_) (fun c344 => ?_)
  · replace hf := iN c344 hf
    exact z_sub [0, 1, 4, 5] rfl (w_L_refuses_b525 C hst hR1 hR2 ⟨by omega, by omega⟩ hf)
  · replace hf := ip c344 hf
    refine z_aload_n C dL_refuses_347 0 rfl ?_
    refine z_iload_n C dL_refuses_348 2 rfl ?_
    refine z_iconst C (1 : Int32) dL_refuses_349 (by decide) ?_
    obtain ⟨q350, hq350, hf⟩ := bd_some hf
    refine z_callSW C 353 [.ref x, .int x2, .int (1 : Int32)] [] (ct_L_plays hst hq350) co_L_plays ml_L_147 st_L_plays ini_L ⟨by decide +kernel, by decide +kernel, by show _ = some 3; decide +kernel⟩ (by decide) (by decide) rfl (Nat.le_of_ble_eq_true rfl) ⟨by omega, by omega⟩ rfl dL_refuses_350 ?_
    refine z_ldc C (-9999001 : Int32) dL_refuses_353 cn_L_22 ?_
    refine z_icmp_ne C 525 dL_refuses_355 (by decide) (fun c355 => ?_) (fun c355 => ?_)
    · replace hf := iN c355 hf
      exact z_sub [0, 1, 4, 5] rfl (w_L_refuses_b525 C hst hR1 hR2 ⟨by omega, by omega⟩ hf)
    · replace hf := ip c355 hf
      refine z_aload_n C dL_refuses_358 0 rfl ?_
      refine z_bipush C (11 : Int32) dL_refuses_359 (by decide) ?_
      refine z_iload_n C dL_refuses_361 2 rfl ?_
      refine z_iconst C (0 : Int32) dL_refuses_362 (by decide) ?_
      refine z_iconst C (0 : Int32) dL_refuses_363 (by decide) ?_
      obtain ⟨q364, hq364, hf⟩ := bd_some hf
      refine z_callK (K := 1) C 367 [.ref x, .int (11 : Int32), .int x2, .int (0 : Int32), .int (0 : Int32)] [] (ct_L_call hst hq364) co_L_call ml_L_139 st_L_call ini_L ⟨by decide +kernel, by decide +kernel, by show _ = some 5; decide +kernel⟩ (by decide) (by decide) rfl (Nat.le_of_ble_eq_true rfl) ⟨by omega, by omega⟩ rfl dL_refuses_364 ?_
      refine z_ldc C (-9999001 : Int32) dL_refuses_367 cn_L_22 ?_
      refine z_icmp_ne C 525 dL_refuses_369 (by decide) (fun c369 => ?_) (fun c369 => ?_)
      · replace hf := iN c369 hf
        exact z_sub [0, 1, 4, 5] rfl (w_L_refuses_b525 C hst hR1 hR2 ⟨by omega, by omega⟩ hf)
      · replace hf := ip c369 hf
        refine z_aload_n C dL_refuses_372 0 rfl ?_
        refine z_bipush C (12 : Int32) dL_refuses_373 (by decide) ?_
        refine z_iload_n C dL_refuses_375 3 rfl ?_
        refine z_bipush C (99 : Int32) dL_refuses_376 (by decide) ?_
        refine z_iconst C (0 : Int32) dL_refuses_378 (by decide) ?_
        obtain ⟨q379, hq379, hf⟩ := bd_some hf
        refine z_callK (K := 1) C 382 [.ref x, .int (12 : Int32), .int x3, .int (99 : Int32), .int (0 : Int32)] [] (ct_L_call hst hq379) co_L_call ml_L_139 st_L_call ini_L ⟨by decide +kernel, by decide +kernel, by show _ = some 5; decide +kernel⟩ (by decide) (by decide) rfl (Nat.le_of_ble_eq_true rfl) ⟨by omega, by omega⟩ rfl dL_refuses_379 ?_
        refine z_ldc C (-9999001 : Int32) dL_refuses_382 cn_L_22 ?_
        refine z_icmp_ne C 525 dL_refuses_384 (by decide) (fun c384 => ?_) (fun c384 => ?_)
        · replace hf := iN c384 hf
          exact z_sub [0, 1, 4, 5] rfl (w_L_refuses_b525 C hst hR1 hR2 ⟨by omega, by omega⟩ hf)
        · replace hf := ip c384 hf
          refine z_aload_n C dL_refuses_387 0 rfl ?_
          refine z_bipush C (12 : Int32) dL_refuses_388 (by decide) ?_
          refine z_iconst C (0 : Int32) dL_refuses_390 (by decide) ?_
          refine z_iload_n C dL_refuses_391 1 rfl ?_
          refine z_iconst C (2 : Int32) dL_refuses_392 (by decide) ?_
          obtain ⟨c393, hf⟩ := chk_some hf
          refine z_irem C dL_refuses_393 c393 ?_
          refine z_if_ne C 401 dL_refuses_394 (by decide) (fun c394 => ?_) (fun c394 => ?_)
          · replace hf := iN c394 hf
            refine z_bipush C (7 : Int32) dL_refuses_401 (by decide) ?_
            refine z_iload_n C dL_refuses_403 1 rfl ?_
            refine z_bipush C (9 : Int32) dL_refuses_404 (by decide) ?_
            obtain ⟨c406, hf⟩ := chk_some hf
            refine z_irem C dL_refuses_406 c406 ?_
            refine z_iadd C dL_refuses_407 ?_
            exact z_sub [0, 1, 4, 5] rfl (w_L_refuses_b408 C hst hR1 hR2 ⟨by omega, by omega⟩ hf)
          · replace hf := ip c394 hf
            refine z_iconst C (0 : Int32) dL_refuses_397 (by decide) ?_
            refine z_goto C 408 dL_refuses_398 (by decide) ?_
            exact z_sub [0, 1, 4, 5] rfl (w_L_refuses_b408 C hst hR1 hR2 ⟨by omega, by omega⟩ hf)
def f_L_refuses_b239 (n : Nat) (x1 : Int32)   (c : CS) (x2 : Int32) (x3 : Int32) (x4 : Int32) (x6 : Int32) (x7 : Int32) : Option (CS × Int32) :=
  (f_L_call n c (5 : Int32) x3 (99 : Int32) (0 : Int32)).bind (fun q245 => if q245.2 = (-9999001 : Int32) then (chk (¬ (9 : Int32) = 0) ((f_L_call n q245.1 (5 : Int32) (0 : Int32) ((4 : Int32) + (jrem x1 (9 : Int32))) (0 : Int32)).bind (fun q263 => if q263.2 = (-9999002 : Int32) then ((f_L_call n q263.1 (6 : Int32) x4 (0 : Int32) (0 : Int32)).bind (fun q278 => if q278.2 = (-9999001 : Int32) then ((f_L_call n q278.1 (6 : Int32) (0 : Int32) x4 (0 : Int32)).bind (fun q293 => if q293.2 = (-9999001 : Int32) then (chk (¬ (9 : Int32) = 0) ((f_L_call n q293.1 (7 : Int32) ((2 : Int32) + (jrem x1 (9 : Int32))) (0 : Int32) (0 : Int32)).bind (fun q312 => if q312.2 = (-9999002 : Int32) then (chk (¬ (2 : Int32) = 0) (if (jrem x1 (2 : Int32)) = 0 then (f_L_refuses_b337 n x1 q312.1 x2 x3 x6 x7 (1 : Int32)) else (chk (¬ (9 : Int32) = 0) (f_L_refuses_b337 n x1 q312.1 x2 x3 x6 x7 ((5 : Int32) + (jrem x1 (9 : Int32))))))) else (f_L_refuses_b525 n x1 q312.1 x6 x7)))) else (f_L_refuses_b525 n x1 q293.1 x6 x7))) else (f_L_refuses_b525 n x1 q278.1 x6 x7))) else (f_L_refuses_b525 n x1 q263.1 x6 x7)))) else (f_L_refuses_b525 n x1 q245.1 x6 x7))
set_option maxRecDepth 100000 in
set_option maxHeartbeats 4000000 in
theorem w_L_refuses_b239 {E : zE} {X : zX} {h0 : Hp} {x : Nat} {n : Nat} {x1 : Int32}  (C : zC E X RL cL_refuses 9 (some .boolean) 17) (hst : (xl X).stackTraces = false) (hR1 : 29 ≤ (xR X).cells) (hR2 : 174 ≤ (xR X).slots)  {c : CS} {x2 : Int32} {x3 : Int32} {x4 : Int32} {x6 : Int32} {x7 : Int32} {r : (CS × Int32)} {k n9 : Nat} (hk : (k + 20 ≤ 29 ∧ n9 + 120 ≤ 174)) (hf : f_L_refuses_b239 n x1 c x2 x3 x4 x6 x7 = some r) : zW E X 9 k n9 (MQ (xb X) (zQ E (some (.int r.2)) (pC E h0 x r.1)) (xa X) (xs X) 29 174 (zA E)) 239 (pC E h0 x c) [(0, .ref x), (1, .int x1), (2, .int x2), (3, .int x3), (4, .int x4), (6, .int x6), (7, .int x7)] [] := by
  obtain ⟨hk1, hk2⟩ := hk
  unfold f_L_refuses_b239 at hf
  refine z_aload_n C dL_refuses_239 0 rfl ?_
  refine z_iconst C (5 : Int32) dL_refuses_240 (by decide) ?_
  refine z_iload_n C dL_refuses_241 3 rfl ?_
  refine z_bipush C (99 : Int32) dL_refuses_242 (by decide) ?_
  refine z_iconst C (0 : Int32) dL_refuses_244 (by decide) ?_
  obtain ⟨q245, hq245, hf⟩ := bd_some hf
  refine z_callK (K := 1) C 248 [.ref x, .int (5 : Int32), .int x3, .int (99 : Int32), .int (0 : Int32)] [] (ct_L_call hst hq245) co_L_call ml_L_139 st_L_call ini_L ⟨by decide +kernel, by decide +kernel, by show _ = some 5; decide +kernel⟩ (by decide) (by decide) rfl (Nat.le_of_ble_eq_true rfl) ⟨by omega, by omega⟩ rfl dL_refuses_245 ?_
  refine z_ldc C (-9999001 : Int32) dL_refuses_248 cn_L_22 ?_
  refine z_icmp_ne C 525 dL_refuses_250 (by decide) (fun c250 => ?_) (fun c250 => ?_)
  · replace hf := iN c250 hf
    exact z_sub [0, 1, 5, 6] rfl (w_L_refuses_b525 C hst hR1 hR2 ⟨by omega, by omega⟩ hf)
  · replace hf := ip c250 hf
    refine z_aload_n C dL_refuses_253 0 rfl ?_
    refine z_iconst C (5 : Int32) dL_refuses_254 (by decide) ?_
    refine z_iconst C (0 : Int32) dL_refuses_255 (by decide) ?_
    refine z_iconst C (4 : Int32) dL_refuses_256 (by decide) ?_
    refine z_iload_n C dL_refuses_257 1 rfl ?_
    refine z_bipush C (9 : Int32) dL_refuses_258 (by decide) ?_
    obtain ⟨c260, hf⟩ := chk_some hf
    refine z_irem C dL_refuses_260 c260 ?_
    refine z_iadd C dL_refuses_261 ?_
    refine z_iconst C (0 : Int32) dL_refuses_262 (by decide) ?_
    obtain ⟨q263, hq263, hf⟩ := bd_some hf
    refine z_callK (K := 1) C 266 [.ref x, .int (5 : Int32), .int (0 : Int32), .int ((4 : Int32) + (jrem x1 (9 : Int32))), .int (0 : Int32)] [] (ct_L_call hst hq263) co_L_call ml_L_139 st_L_call ini_L ⟨by decide +kernel, by decide +kernel, by show _ = some 5; decide +kernel⟩ (by decide) (by decide) rfl (Nat.le_of_ble_eq_true rfl) ⟨by omega, by omega⟩ rfl dL_refuses_263 ?_
    refine z_ldc C (-9999002 : Int32) dL_refuses_266 cn_L_15 ?_
    refine z_icmp_ne C 525 dL_refuses_268 (by decide) (fun c268 => ?_) (fun c268 => ?_)
    · replace hf := iN c268 hf
      exact z_sub [0, 1, 5, 6] rfl (w_L_refuses_b525 C hst hR1 hR2 ⟨by omega, by omega⟩ hf)
    · replace hf := ip c268 hf
      refine z_aload_n C dL_refuses_271 0 rfl ?_
      refine z_bipush C (6 : Int32) dL_refuses_272 (by decide) ?_
      refine z_iload C dL_refuses_274 4 rfl ?_
      refine z_iconst C (0 : Int32) dL_refuses_276 (by decide) ?_
      refine z_iconst C (0 : Int32) dL_refuses_277 (by decide) ?_
      obtain ⟨q278, hq278, hf⟩ := bd_some hf
      refine z_callK (K := 1) C 281 [.ref x, .int (6 : Int32), .int x4, .int (0 : Int32), .int (0 : Int32)] [] (ct_L_call hst hq278) co_L_call ml_L_139 st_L_call ini_L ⟨by decide +kernel, by decide +kernel, by show _ = some 5; decide +kernel⟩ (by decide) (by decide) rfl (Nat.le_of_ble_eq_true rfl) ⟨by omega, by omega⟩ rfl dL_refuses_278 ?_
      refine z_ldc C (-9999001 : Int32) dL_refuses_281 cn_L_22 ?_
      refine z_icmp_ne C 525 dL_refuses_283 (by decide) (fun c283 => ?_) (fun c283 => ?_)
      · replace hf := iN c283 hf
        exact z_sub [0, 1, 5, 6] rfl (w_L_refuses_b525 C hst hR1 hR2 ⟨by omega, by omega⟩ hf)
      · replace hf := ip c283 hf
        refine z_aload_n C dL_refuses_286 0 rfl ?_
        refine z_bipush C (6 : Int32) dL_refuses_287 (by decide) ?_
        refine z_iconst C (0 : Int32) dL_refuses_289 (by decide) ?_
        refine z_iload C dL_refuses_290 4 rfl ?_
        refine z_iconst C (0 : Int32) dL_refuses_292 (by decide) ?_
        obtain ⟨q293, hq293, hf⟩ := bd_some hf
        refine z_callK (K := 1) C 296 [.ref x, .int (6 : Int32), .int (0 : Int32), .int x4, .int (0 : Int32)] [] (ct_L_call hst hq293) co_L_call ml_L_139 st_L_call ini_L ⟨by decide +kernel, by decide +kernel, by show _ = some 5; decide +kernel⟩ (by decide) (by decide) rfl (Nat.le_of_ble_eq_true rfl) ⟨by omega, by omega⟩ rfl dL_refuses_293 ?_
        refine z_ldc C (-9999001 : Int32) dL_refuses_296 cn_L_22 ?_
        refine z_icmp_ne C 525 dL_refuses_298 (by decide) (fun c298 => ?_) (fun c298 => ?_)
        · replace hf := iN c298 hf
          exact z_sub [0, 1, 5, 6] rfl (w_L_refuses_b525 C hst hR1 hR2 ⟨by omega, by omega⟩ hf)
        · replace hf := ip c298 hf
          refine z_aload_n C dL_refuses_301 0 rfl ?_
          refine z_bipush C (7 : Int32) dL_refuses_302 (by decide) ?_
          refine z_iconst C (2 : Int32) dL_refuses_304 (by decide) ?_
          refine z_iload_n C dL_refuses_305 1 rfl ?_
          refine z_bipush C (9 : Int32) dL_refuses_306 (by decide) ?_
          obtain ⟨c308, hf⟩ := chk_some hf
          refine z_irem C dL_refuses_308 c308 ?_
          refine z_iadd C dL_refuses_309 ?_
          refine z_iconst C (0 : Int32) dL_refuses_310 (by decide) ?_
          refine z_iconst C (0 : Int32) dL_refuses_311 (by decide) ?_
          obtain ⟨q312, hq312, hf⟩ := bd_some hf
          refine z_callK (K := 1) C 315 [.ref x, .int (7 : Int32), .int ((2 : Int32) + (jrem x1 (9 : Int32))), .int (0 : Int32), .int (0 : Int32)] [] (ct_L_call hst hq312) co_L_call ml_L_139 st_L_call ini_L ⟨by decide +kernel, by decide +kernel, by show _ = some 5; decide +kernel⟩ (by decide) (by decide) rfl (Nat.le_of_ble_eq_true rfl) ⟨by omega, by omega⟩ rfl dL_refuses_312 ?_
          refine z_ldc C (-9999002 : Int32) dL_refuses_315 cn_L_15 ?_
          refine z_icmp_ne C 525 dL_refuses_317 (by decide) (fun c317 => ?_) (fun c317 => ?_)
          · replace hf := iN c317 hf
            exact z_sub [0, 1, 5, 6] rfl (w_L_refuses_b525 C hst hR1 hR2 ⟨by omega, by omega⟩ hf)
          · replace hf := ip c317 hf
            refine z_aload_n C dL_refuses_320 0 rfl ?_
            refine z_iload_n C dL_refuses_321 1 rfl ?_
            refine z_iconst C (2 : Int32) dL_refuses_322 (by decide) ?_
            obtain ⟨c323, hf⟩ := chk_some hf
            refine z_irem C dL_refuses_323 c323 ?_
            refine z_if_ne C 331 dL_refuses_324 (by decide) (fun c324 => ?_) (fun c324 => ?_)
            · replace hf := iN c324 hf
              refine z_iconst C (5 : Int32) dL_refuses_331 (by decide) ?_
              refine z_iload_n C dL_refuses_332 1 rfl ?_
              refine z_bipush C (9 : Int32) dL_refuses_333 (by decide) ?_
              obtain ⟨c335, hf⟩ := chk_some hf
              refine z_irem C dL_refuses_335 c335 ?_
              refine z_iadd C dL_refuses_336 ?_
              exact z_sub [0, 1, 2, 3, 5, 6] rfl (w_L_refuses_b337 C hst hR1 hR2 ⟨by omega, by omega⟩ hf)
            · replace hf := ip c324 hf
              refine z_iconst C (1 : Int32) dL_refuses_327 (by decide) ?_
              refine z_goto C 337 dL_refuses_328 (by decide) ?_
              exact z_sub [0, 1, 2, 3, 5, 6] rfl (w_L_refuses_b337 C hst hR1 hR2 ⟨by omega, by omega⟩ hf)
def f_L_refuses_b204 (n : Nat) (x1 : Int32)   (c : CS) (x2 : Int32) (x3 : Int32) (x4 : Int32) (x5 : Int32) (x6 : Int32) (x7 : Int32) (s0 : Int32) (s1 : Int32) : Option (CS × Int32) :=
  (f_L_call n c s1 s0 (99 : Int32) (0 : Int32)).bind (fun q207 => if q207.2 = (-9999001 : Int32) then (if x5 = 0 then (f_L_refuses_b239 n x1 q207.1 x2 x3 x4 x6 x7) else (chk (¬ (9 : Int32) = 0) ((f_L_call n q207.1 (4 : Int32) (0 : Int32) ((6 : Int32) + (jrem x1 (9 : Int32))) (0 : Int32)).bind (fun q231 => if q231.2 = (-9999002 : Int32) then (f_L_refuses_b239 n x1 q231.1 x2 x3 x4 x6 x7) else (f_L_refuses_b525 n x1 q231.1 x6 x7))))) else (f_L_refuses_b525 n x1 q207.1 x6 x7))
set_option maxRecDepth 100000 in
set_option maxHeartbeats 4000000 in
theorem w_L_refuses_b204 {E : zE} {X : zX} {h0 : Hp} {x : Nat} {n : Nat} {x1 : Int32}  (C : zC E X RL cL_refuses 9 (some .boolean) 17) (hst : (xl X).stackTraces = false) (hR1 : 29 ≤ (xR X).cells) (hR2 : 174 ≤ (xR X).slots)  {c : CS} {x2 : Int32} {x3 : Int32} {x4 : Int32} {x5 : Int32} {x6 : Int32} {x7 : Int32} {s0 : Int32} {s1 : Int32} {r : (CS × Int32)} {k n9 : Nat} (hk : (k + 22 ≤ 29 ∧ n9 + 132 ≤ 174)) (hf : f_L_refuses_b204 n x1 c x2 x3 x4 x5 x6 x7 s0 s1 = some r) : zW E X 9 k n9 (MQ (xb X) (zQ E (some (.int r.2)) (pC E h0 x r.1)) (xa X) (xs X) 29 174 (zA E)) 204 (pC E h0 x c) [(0, .ref x), (1, .int x1), (2, .int x2), (3, .int x3), (4, .int x4), (5, .int x5), (6, .int x6), (7, .int x7)] [.int s0, .int s1, .ref x] := by
  obtain ⟨hk1, hk2⟩ := hk
  unfold f_L_refuses_b204 at hf
  refine z_bipush C (99 : Int32) dL_refuses_204 (by decide) ?_
  refine z_iconst C (0 : Int32) dL_refuses_206 (by decide) ?_
  obtain ⟨q207, hq207, hf⟩ := bd_some hf
  refine z_callK (K := 1) C 210 [.ref x, .int s1, .int s0, .int (99 : Int32), .int (0 : Int32)] [] (ct_L_call hst hq207) co_L_call ml_L_139 st_L_call ini_L ⟨by decide +kernel, by decide +kernel, by show _ = some 5; decide +kernel⟩ (by decide) (by decide) rfl (Nat.le_of_ble_eq_true rfl) ⟨by omega, by omega⟩ rfl dL_refuses_207 ?_
  refine z_ldc C (-9999001 : Int32) dL_refuses_210 cn_L_22 ?_
  refine z_icmp_ne C 525 dL_refuses_212 (by decide) (fun c212 => ?_) (fun c212 => ?_)
  · replace hf := iN c212 hf
    exact z_sub [0, 1, 6, 7] rfl (w_L_refuses_b525 C hst hR1 hR2 ⟨by omega, by omega⟩ hf)
  · replace hf := ip c212 hf
    refine z_iload C dL_refuses_215 5 rfl ?_
    refine z_if_eq C 239 dL_refuses_217 (by decide) (fun c217 => ?_) (fun c217 => ?_)
    · replace hf := ip c217 hf
      exact z_sub [0, 1, 2, 3, 4, 6, 7] rfl (w_L_refuses_b239 C hst hR1 hR2 ⟨by omega, by omega⟩ hf)
    · replace hf := iN c217 hf
      refine z_aload_n C dL_refuses_220 0 rfl ?_
      refine z_iconst C (4 : Int32) dL_refuses_221 (by decide) ?_
      refine z_iconst C (0 : Int32) dL_refuses_222 (by decide) ?_
      refine z_bipush C (6 : Int32) dL_refuses_223 (by decide) ?_
      refine z_iload_n C dL_refuses_225 1 rfl ?_
      refine z_bipush C (9 : Int32) dL_refuses_226 (by decide) ?_
      obtain ⟨c228, hf⟩ := chk_some hf
      refine z_irem C dL_refuses_228 c228 ?_
      refine z_iadd C dL_refuses_229 ?_
      refine z_iconst C (0 : Int32) dL_refuses_230 (by decide) ?_
      obtain ⟨q231, hq231, hf⟩ := bd_some hf
      refine z_callK (K := 1) C 234 [.ref x, .int (4 : Int32), .int (0 : Int32), .int ((6 : Int32) + (jrem x1 (9 : Int32))), .int (0 : Int32)] [] (ct_L_call hst hq231) co_L_call ml_L_139 st_L_call ini_L ⟨by decide +kernel, by decide +kernel, by show _ = some 5; decide +kernel⟩ (by decide) (by decide) rfl (Nat.le_of_ble_eq_true rfl) ⟨by omega, by omega⟩ rfl dL_refuses_231 ?_
      refine z_ldc C (-9999002 : Int32) dL_refuses_234 cn_L_15 ?_
      refine z_icmp_ne C 525 dL_refuses_236 (by decide) (fun c236 => ?_) (fun c236 => ?_)
      · replace hf := iN c236 hf
        exact z_sub [0, 1, 6, 7] rfl (w_L_refuses_b525 C hst hR1 hR2 ⟨by omega, by omega⟩ hf)
      · replace hf := ip c236 hf
        exact z_sub [0, 1, 2, 3, 4, 6, 7] rfl (w_L_refuses_b239 C hst hR1 hR2 ⟨by omega, by omega⟩ hf)
def f_L_refuses_b124 (n : Nat) (x1 : Int32)   (c : CS) (x2 : Int32) (x3 : Int32) (x4 : Int32) (x5 : Int32) (x6 : Int32) (x7 : Int32) (s0 : Int32) (s1 : Int32) : Option (CS × Int32) :=
  (f_L_call n c s1 s0 (0 : Int32) (0 : Int32)).bind (fun q126 => if q126.2 = (-9999002 : Int32) then (chk (¬ (50 : Int32) = 0) ((f_L_call n q126.1 (2 : Int32) ((12 : Int32) + (jrem x1 (50 : Int32))) (0 : Int32) (0 : Int32)).bind (fun q145 => if q145.2 = (-9999002 : Int32) then ((f_L_call n q145.1 (3 : Int32) x2 (99 : Int32) (0 : Int32)).bind (fun q159 => if q159.2 = (-9999001 : Int32) then (chk (¬ (9 : Int32) = 0) ((f_L_call n q159.1 (3 : Int32) (5 : Int32) ((5 : Int32) + (jrem x1 (9 : Int32))) (0 : Int32)).bind (fun q177 => if q177.2 = (-9999002 : Int32) then (chk (¬ (2 : Int32) = 0) (if (jrem x1 (2 : Int32)) = 0 then (f_L_refuses_b204 n x1 q177.1 x2 x3 x4 x5 x6 x7 (-1 : Int32) (4 : Int32)) else (chk (¬ (9 : Int32) = 0) (f_L_refuses_b204 n x1 q177.1 x2 x3 x4 x5 x6 x7 (x5 + (jrem x1 (9 : Int32))) (4 : Int32))))) else (f_L_refuses_b525 n x1 q177.1 x6 x7)))) else (f_L_refuses_b525 n x1 q159.1 x6 x7))) else (f_L_refuses_b525 n x1 q145.1 x6 x7)))) else (f_L_refuses_b525 n x1 q126.1 x6 x7))
set_option maxRecDepth 100000 in
set_option maxHeartbeats 4000000 in
theorem w_L_refuses_b124 {E : zE} {X : zX} {h0 : Hp} {x : Nat} {n : Nat} {x1 : Int32}  (C : zC E X RL cL_refuses 9 (some .boolean) 17) (hst : (xl X).stackTraces = false) (hR1 : 29 ≤ (xR X).cells) (hR2 : 174 ≤ (xR X).slots)  {c : CS} {x2 : Int32} {x3 : Int32} {x4 : Int32} {x5 : Int32} {x6 : Int32} {x7 : Int32} {s0 : Int32} {s1 : Int32} {r : (CS × Int32)} {k n9 : Nat} (hk : (k + 26 ≤ 29 ∧ n9 + 156 ≤ 174)) (hf : f_L_refuses_b124 n x1 c x2 x3 x4 x5 x6 x7 s0 s1 = some r) : zW E X 9 k n9 (MQ (xb X) (zQ E (some (.int r.2)) (pC E h0 x r.1)) (xa X) (xs X) 29 174 (zA E)) 124 (pC E h0 x c) [(0, .ref x), (1, .int x1), (2, .int x2), (3, .int x3), (4, .int x4), (5, .int x5), (6, .int x6), (7, .int x7)] [.int s0, .int s1, .ref x] := by
  obtain ⟨hk1, hk2⟩ := hk
  unfold f_L_refuses_b124 at hf
  refine z_iconst C (0 : Int32) dL_refuses_124 (by decide) ?_
  refine z_iconst C (0 : Int32) dL_refuses_125 (by decide) ?_
  obtain ⟨q126, hq126, hf⟩ := bd_some hf
  refine z_callK (K := 1) C 129 [.ref x, .int s1, .int s0, .int (0 : Int32), .int (0 : Int32)] [] (ct_L_call hst hq126) co_L_call ml_L_139 st_L_call ini_L ⟨by decide +kernel, by decide +kernel, by show _ = some 5; decide +kernel⟩ (by decide) (by decide) rfl (Nat.le_of_ble_eq_true rfl) ⟨by omega, by omega⟩ rfl dL_refuses_126 ?_
  refine z_ldc C (-9999002 : Int32) dL_refuses_129 cn_L_15 ?_
  refine z_icmp_ne C 525 dL_refuses_131 (by decide) (fun c131 => ?_) (fun c131 => ?_)
  · replace hf := iN c131 hf
    exact z_sub [0, 1, 6, 7] rfl (w_L_refuses_b525 C hst hR1 hR2 ⟨by omega, by omega⟩ hf)
  · replace hf := ip c131 hf
    refine z_aload_n C dL_refuses_134 0 rfl ?_
    refine z_iconst C (2 : Int32) dL_refuses_135 (by decide) ?_
    refine z_bipush C (12 : Int32) dL_refuses_136 (by decide) ?_
    refine z_iload_n C dL_refuses_138 1 rfl ?_
    refine z_bipush C (50 : Int32) dL_refuses_139 (by decide) ?_
    obtain ⟨c141, hf⟩ := chk_some hf
    refine z_irem C dL_refuses_141 c141 ?_
    refine z_iadd C dL_refuses_142 ?_
    refine z_iconst C (0 : Int32) dL_refuses_143 (by decide) ?_
    refine z_iconst C (0 : Int32) dL_refuses_144 (by decide) ?_
    obtain ⟨q145, hq145, hf⟩ := bd_some hf
    refine z_callK (K := 1) C 148 [.ref x, .int (2 : Int32), .int ((12 : Int32) + (jrem x1 (50 : Int32))), .int (0 : Int32), .int (0 : Int32)] [] (ct_L_call hst hq145) co_L_call ml_L_139 st_L_call ini_L ⟨by decide +kernel, by decide +kernel, by show _ = some 5; decide +kernel⟩ (by decide) (by decide) rfl (Nat.le_of_ble_eq_true rfl) ⟨by omega, by omega⟩ rfl dL_refuses_145 ?_
    refine z_ldc C (-9999002 : Int32) dL_refuses_148 cn_L_15 ?_
    refine z_icmp_ne C 525 dL_refuses_150 (by decide) (fun c150 => ?_) (fun c150 => ?_)
    · replace hf := iN c150 hf
      exact z_sub [0, 1, 6, 7] rfl (w_L_refuses_b525 C hst hR1 hR2 ⟨by omega, by omega⟩ hf)
    · replace hf := ip c150 hf
      refine z_aload_n C dL_refuses_153 0 rfl ?_
      refine z_iconst C (3 : Int32) dL_refuses_154 (by decide) ?_
      refine z_iload_n C dL_refuses_155 2 rfl ?_
      refine z_bipush C (99 : Int32) dL_refuses_156 (by decide) ?_
      refine z_iconst C (0 : Int32) dL_refuses_158 (by decide) ?_
      obtain ⟨q159, hq159, hf⟩ := bd_some hf
      refine z_callK (K := 1) C 162 [.ref x, .int (3 : Int32), .int x2, .int (99 : Int32), .int (0 : Int32)] [] (ct_L_call hst hq159) co_L_call ml_L_139 st_L_call ini_L ⟨by decide +kernel, by decide +kernel, by show _ = some 5; decide +kernel⟩ (by decide) (by decide) rfl (Nat.le_of_ble_eq_true rfl) ⟨by omega, by omega⟩ rfl dL_refuses_159 ?_
      refine z_ldc C (-9999001 : Int32) dL_refuses_162 cn_L_22 ?_
      refine z_icmp_ne C 525 dL_refuses_164 (by decide) (fun c164 => ?_) (fun c164 => ?_)
      · replace hf := iN c164 hf
        exact z_sub [0, 1, 6, 7] rfl (w_L_refuses_b525 C hst hR1 hR2 ⟨by omega, by omega⟩ hf)
      · replace hf := ip c164 hf
        refine z_aload_n C dL_refuses_167 0 rfl ?_
        refine z_iconst C (3 : Int32) dL_refuses_168 (by decide) ?_
        refine z_iconst C (5 : Int32) dL_refuses_169 (by decide) ?_
        refine z_iconst C (5 : Int32) dL_refuses_170 (by decide) ?_
        refine z_iload_n C dL_refuses_171 1 rfl ?_
        refine z_bipush C (9 : Int32) dL_refuses_172 (by decide) ?_
        obtain ⟨c174, hf⟩ := chk_some hf
        refine z_irem C dL_refuses_174 c174 ?_
        refine z_iadd C dL_refuses_175 ?_
        refine z_iconst C (0 : Int32) dL_refuses_176 (by decide) ?_
        obtain ⟨q177, hq177, hf⟩ := bd_some hf
        refine z_callK (K := 1) C 180 [.ref x, .int (3 : Int32), .int (5 : Int32), .int ((5 : Int32) + (jrem x1 (9 : Int32))), .int (0 : Int32)] [] (ct_L_call hst hq177) co_L_call ml_L_139 st_L_call ini_L ⟨by decide +kernel, by decide +kernel, by show _ = some 5; decide +kernel⟩ (by decide) (by decide) rfl (Nat.le_of_ble_eq_true rfl) ⟨by omega, by omega⟩ rfl dL_refuses_177 ?_
        refine z_ldc C (-9999002 : Int32) dL_refuses_180 cn_L_15 ?_
        refine z_icmp_ne C 525 dL_refuses_182 (by decide) (fun c182 => ?_) (fun c182 => ?_)
        · replace hf := iN c182 hf
          exact z_sub [0, 1, 6, 7] rfl (w_L_refuses_b525 C hst hR1 hR2 ⟨by omega, by omega⟩ hf)
        · replace hf := ip c182 hf
          refine z_aload_n C dL_refuses_185 0 rfl ?_
          refine z_iconst C (4 : Int32) dL_refuses_186 (by decide) ?_
          refine z_iload_n C dL_refuses_187 1 rfl ?_
          refine z_iconst C (2 : Int32) dL_refuses_188 (by decide) ?_
          obtain ⟨c189, hf⟩ := chk_some hf
          refine z_irem C dL_refuses_189 c189 ?_
          refine z_if_ne C 197 dL_refuses_190 (by decide) (fun c190 => ?_) (fun c190 => ?_)
          · replace hf := iN c190 hf
            refine z_iload C dL_refuses_197 5 rfl ?_
            refine z_iload_n C dL_refuses_199 1 rfl ?_
            refine z_bipush C (9 : Int32) dL_refuses_200 (by decide) ?_
            obtain ⟨c202, hf⟩ := chk_some hf
            refine z_irem C dL_refuses_202 c202 ?_
            refine z_iadd C dL_refuses_203 ?_
            exact z_sub [0, 1, 2, 3, 4, 5, 6, 7] rfl (w_L_refuses_b204 C hst hR1 hR2 ⟨by omega, by omega⟩ hf)
          · replace hf := ip c190 hf
            refine z_iconst C (-1 : Int32) dL_refuses_193 (by decide) ?_
            refine z_goto C 204 dL_refuses_194 (by decide) ?_
            exact z_sub [0, 1, 2, 3, 4, 5, 6, 7] rfl (w_L_refuses_b204 C hst hR1 hR2 ⟨by omega, by omega⟩ hf)
def f_L_refuses_b67 (n : Nat) (x1 : Int32)   (c : CS) (x2 : Int32) (x3 : Int32) (s0 : Int32) : Option (CS × Int32) :=
  (f_L_call n c (2 : Int32) (5 : Int32) (0 : Int32) (0 : Int32)).bind (fun q74 => (f_L_call n q74.1 (2 : Int32) (1 : Int32) (0 : Int32) (0 : Int32)).bind (fun q84 => (f_L_call n q84.1 (2 : Int32) (4 : Int32) (0 : Int32) (0 : Int32)).bind (fun q94 => chk (¬ (2 : Int32) = 0) (if (jrem x1 (2 : Int32)) = 0 then (chk (¬ (9 : Int32) = 0) (f_L_refuses_b124 n x1 q94.1 x2 x3 s0 q74.2 q84.2 q94.2 ((-1 : Int32) - (jrem x1 (9 : Int32))) (0 : Int32))) else (chk (¬ (9 : Int32) = 0) (f_L_refuses_b124 n x1 q94.1 x2 x3 s0 q74.2 q84.2 q94.2 ((256 : Int32) + (jrem x1 (9 : Int32))) (0 : Int32)))))))
set_option maxRecDepth 100000 in
set_option maxHeartbeats 4000000 in
theorem w_L_refuses_b67 {E : zE} {X : zX} {h0 : Hp} {x : Nat} {n : Nat} {x1 : Int32}  (C : zC E X RL cL_refuses 9 (some .boolean) 17) (hst : (xl X).stackTraces = false) (hR1 : 29 ≤ (xR X).cells) (hR2 : 174 ≤ (xR X).slots)  {c : CS} {x2 : Int32} {x3 : Int32} {s0 : Int32} {r : (CS × Int32)} {k n9 : Nat} (hk : (k + 29 ≤ 29 ∧ n9 + 174 ≤ 174)) (hf : f_L_refuses_b67 n x1 c x2 x3 s0 = some r) : zW E X 9 k n9 (MQ (xb X) (zQ E (some (.int r.2)) (pC E h0 x r.1)) (xa X) (xs X) 29 174 (zA E)) 67 (pC E h0 x c) [(0, .ref x), (1, .int x1), (2, .int x2), (3, .int x3)] [.int s0] := by
  obtain ⟨hk1, hk2⟩ := hk
  unfold f_L_refuses_b67 at hf
  refine z_istore (lv' := [(4, .int s0), (0, .ref x), (1, .int x1), (2, .int x2), (3, .int x3)]) C dL_refuses_67 (by decide) rfl ?_
  refine z_aload_n C dL_refuses_69 1 rfl ?_
  refine z_iconst C (2 : Int32) dL_refuses_70 (by decide) ?_
  refine z_iconst C (5 : Int32) dL_refuses_71 (by decide) ?_
  refine z_iconst C (0 : Int32) dL_refuses_72 (by decide) ?_
  refine z_iconst C (0 : Int32) dL_refuses_73 (by decide) ?_
  obtain ⟨q74, hq74, hf⟩ := bd_some hf
  refine z_callK (K := 1) C 77 [.ref x, .int (2 : Int32), .int (5 : Int32), .int (0 : Int32), .int (0 : Int32)] [] (ct_L_call hst hq74) co_L_call ml_L_139 st_L_call ini_L ⟨by decide +kernel, by decide +kernel, by show _ = some 5; decide +kernel⟩ (by decide) (by decide) rfl (Nat.le_of_ble_eq_true rfl) ⟨by omega, by omega⟩ rfl dL_refuses_74 ?_
  refine z_istore (lv' := [(5, .int q74.2), (4, .int s0), (0, .ref x), (1, .int x1), (2, .int x2), (3, .int x3)]) C dL_refuses_77 (by decide) rfl ?_
  refine z_aload_n C dL_refuses_79 2 rfl ?_
  refine z_iconst C (2 : Int32) dL_refuses_80 (by decide) ?_
  refine z_iconst C (1 : Int32) dL_refuses_81 (by decide) ?_
  refine z_iconst C (0 : Int32) dL_refuses_82 (by decide) ?_
  refine z_iconst C (0 : Int32) dL_refuses_83 (by decide) ?_
  obtain ⟨q84, hq84, hf⟩ := bd_some hf
  refine z_callK (K := 1) C 87 [.ref x, .int (2 : Int32), .int (1 : Int32), .int (0 : Int32), .int (0 : Int32)] [] (ct_L_call hst hq84) co_L_call ml_L_139 st_L_call ini_L ⟨by decide +kernel, by decide +kernel, by show _ = some 5; decide +kernel⟩ (by decide) (by decide) rfl (Nat.le_of_ble_eq_true rfl) ⟨by omega, by omega⟩ rfl dL_refuses_84 ?_
  refine z_istore (lv' := [(6, .int q84.2), (5, .int q74.2), (4, .int s0), (0, .ref x), (1, .int x1), (2, .int x2), (3, .int x3)]) C dL_refuses_87 (by decide) rfl ?_
  refine z_aload_n C dL_refuses_89 3 rfl ?_
  refine z_iconst C (2 : Int32) dL_refuses_90 (by decide) ?_
  refine z_iconst C (4 : Int32) dL_refuses_91 (by decide) ?_
  refine z_iconst C (0 : Int32) dL_refuses_92 (by decide) ?_
  refine z_iconst C (0 : Int32) dL_refuses_93 (by decide) ?_
  obtain ⟨q94, hq94, hf⟩ := bd_some hf
  refine z_callK (K := 1) C 97 [.ref x, .int (2 : Int32), .int (4 : Int32), .int (0 : Int32), .int (0 : Int32)] [] (ct_L_call hst hq94) co_L_call ml_L_139 st_L_call ini_L ⟨by decide +kernel, by decide +kernel, by show _ = some 5; decide +kernel⟩ (by decide) (by decide) rfl (Nat.le_of_ble_eq_true rfl) ⟨by omega, by omega⟩ rfl dL_refuses_94 ?_
  refine z_istore (lv' := [(7, .int q94.2), (6, .int q84.2), (5, .int q74.2), (4, .int s0), (0, .ref x), (1, .int x1), (2, .int x2), (3, .int x3)]) C dL_refuses_97 (by decide) rfl ?_
  refine z_aload_n C dL_refuses_99 4 rfl ?_
  refine z_iconst C (0 : Int32) dL_refuses_100 (by decide) ?_
  refine z_iload_n C dL_refuses_101 5 rfl ?_
  refine z_iconst C (2 : Int32) dL_refuses_102 (by decide) ?_
  obtain ⟨c103, hf⟩ := chk_some hf
  refine z_irem C dL_refuses_103 c103 ?_
  refine z_if_ne C 116 dL_refuses_104 (by decide) (fun c104 => ?_) (fun c104 => ?_)
  · replace hf := iN c104 hf
    refine z_sipush C (256 : Int32) dL_refuses_116 (by decide) ?_
    refine z_iload_n C dL_refuses_119 5 rfl ?_
    refine z_bipush C (9 : Int32) dL_refuses_120 (by decide) ?_
    obtain ⟨c122, hf⟩ := chk_some hf
    refine z_irem C dL_refuses_122 c122 ?_
    refine z_iadd C dL_refuses_123 ?_
    exact z_sub [4, 5, 6, 7, 3, 2, 1, 0] rfl (w_L_refuses_b124 C hst hR1 hR2 ⟨by omega, by omega⟩ hf)
  · replace hf := ip c104 hf
    refine z_iconst C (-1 : Int32) dL_refuses_107 (by decide) ?_
    refine z_iload_n C dL_refuses_108 5 rfl ?_
    refine z_bipush C (9 : Int32) dL_refuses_109 (by decide) ?_
    obtain ⟨c111, hf⟩ := chk_some hf
    refine z_irem C dL_refuses_111 c111 ?_
    refine z_isub C dL_refuses_112 ?_
    refine z_goto C 124 dL_refuses_113 (by decide) ?_
    exact z_sub [4, 5, 6, 7, 3, 2, 1, 0] rfl (w_L_refuses_b124 C hst hR1 hR2 ⟨by omega, by omega⟩ hf)
def f_L_refuses_b44 (n : Nat) (x1 : Int32)   (c : CS) (x2 : Int32) (s0 : Int32) : Option (CS × Int32) :=
  chk (¬ (2 : Int32) = 0) (if (jrem x1 (2 : Int32)) = 0 then (chk (¬ (99 : Int32) = 0) (f_L_refuses_b67 n x1 c x2 s0 ((-1 : Int32) - (jrem x1 (99 : Int32))))) else (chk (¬ (99 : Int32) = 0) (f_L_refuses_b67 n x1 c x2 s0 ((25 : Int32) + (jrem x1 (99 : Int32))))))
set_option maxRecDepth 100000 in
set_option maxHeartbeats 4000000 in
theorem w_L_refuses_b44 {E : zE} {X : zX} {h0 : Hp} {x : Nat} {n : Nat} {x1 : Int32}  (C : zC E X RL cL_refuses 9 (some .boolean) 17) (hst : (xl X).stackTraces = false) (hR1 : 29 ≤ (xR X).cells) (hR2 : 174 ≤ (xR X).slots)  {c : CS} {x2 : Int32} {s0 : Int32} {r : (CS × Int32)} {k n9 : Nat} (hk : (k + 29 ≤ 29 ∧ n9 + 174 ≤ 174)) (hf : f_L_refuses_b44 n x1 c x2 s0 = some r) : zW E X 9 k n9 (MQ (xb X) (zQ E (some (.int r.2)) (pC E h0 x r.1)) (xa X) (xs X) 29 174 (zA E)) 44 (pC E h0 x c) [(0, .ref x), (1, .int x1), (2, .int x2)] [.int s0] := by
  obtain ⟨hk1, hk2⟩ := hk
  unfold f_L_refuses_b44 at hf
  refine z_istore_n (lv' := [(3, .int s0), (0, .ref x), (1, .int x1), (2, .int x2)]) C dL_refuses_44 (by decide) rfl ?_
  refine z_iload_n C dL_refuses_45 2 rfl ?_
  refine z_iconst C (2 : Int32) dL_refuses_46 (by decide) ?_
  obtain ⟨c47, hf⟩ := chk_some hf
  refine z_irem C dL_refuses_47 c47 ?_
  refine z_if_ne C 60 dL_refuses_48 (by decide) (fun c48 => ?_) (fun c48 => ?_)
  · replace hf := iN c48 hf
    refine z_bipush C (25 : Int32) dL_refuses_60 (by decide) ?_
    refine z_iload_n C dL_refuses_62 2 rfl ?_
    refine z_bipush C (99 : Int32) dL_refuses_63 (by decide) ?_
    obtain ⟨c65, hf⟩ := chk_some hf
    refine z_irem C dL_refuses_65 c65 ?_
    refine z_iadd C dL_refuses_66 ?_
    exact z_sub [1, 2, 3, 0] rfl (w_L_refuses_b67 C hst hR1 hR2 ⟨by omega, by omega⟩ hf)
  · replace hf := ip c48 hf
    refine z_iconst C (-1 : Int32) dL_refuses_51 (by decide) ?_
    refine z_iload_n C dL_refuses_52 2 rfl ?_
    refine z_bipush C (99 : Int32) dL_refuses_53 (by decide) ?_
    obtain ⟨c55, hf⟩ := chk_some hf
    refine z_irem C dL_refuses_55 c55 ?_
    refine z_isub C dL_refuses_56 ?_
    refine z_goto C 67 dL_refuses_57 (by decide) ?_
    exact z_sub [1, 2, 3, 0] rfl (w_L_refuses_b67 C hst hR1 hR2 ⟨by omega, by omega⟩ hf)
def f_L_refuses_b22 (n : Nat) (x1 : Int32)   (c : CS) (s0 : Int32) : Option (CS × Int32) :=
  chk (¬ (2 : Int32) = 0) (if (jrem x1 (2 : Int32)) = 0 then (chk (¬ (99 : Int32) = 0) (f_L_refuses_b44 n x1 c s0 ((-1 : Int32) - (jrem x1 (99 : Int32))))) else (chk (¬ (99 : Int32) = 0) (f_L_refuses_b44 n x1 c s0 ((4 : Int32) + (jrem x1 (99 : Int32))))))
set_option maxRecDepth 100000 in
set_option maxHeartbeats 4000000 in
theorem w_L_refuses_b22 {E : zE} {X : zX} {h0 : Hp} {x : Nat} {n : Nat} {x1 : Int32}  (C : zC E X RL cL_refuses 9 (some .boolean) 17) (hst : (xl X).stackTraces = false) (hR1 : 29 ≤ (xR X).cells) (hR2 : 174 ≤ (xR X).slots)  {c : CS} {s0 : Int32} {r : (CS × Int32)} {k n9 : Nat} (hk : (k + 29 ≤ 29 ∧ n9 + 174 ≤ 174)) (hf : f_L_refuses_b22 n x1 c s0 = some r) : zW E X 9 k n9 (MQ (xb X) (zQ E (some (.int r.2)) (pC E h0 x r.1)) (xa X) (xs X) 29 174 (zA E)) 22 (pC E h0 x c) [(0, .ref x), (1, .int x1)] [.int s0] := by
  obtain ⟨hk1, hk2⟩ := hk
  unfold f_L_refuses_b22 at hf
  refine z_istore_n (lv' := [(2, .int s0), (0, .ref x), (1, .int x1)]) C dL_refuses_22 (by decide) rfl ?_
  refine z_iload_n C dL_refuses_23 2 rfl ?_
  refine z_iconst C (2 : Int32) dL_refuses_24 (by decide) ?_
  obtain ⟨c25, hf⟩ := chk_some hf
  refine z_irem C dL_refuses_25 c25 ?_
  refine z_if_ne C 38 dL_refuses_26 (by decide) (fun c26 => ?_) (fun c26 => ?_)
  · replace hf := iN c26 hf
    refine z_iconst C (4 : Int32) dL_refuses_38 (by decide) ?_
    refine z_iload_n C dL_refuses_39 2 rfl ?_
    refine z_bipush C (99 : Int32) dL_refuses_40 (by decide) ?_
    obtain ⟨c42, hf⟩ := chk_some hf
    refine z_irem C dL_refuses_42 c42 ?_
    refine z_iadd C dL_refuses_43 ?_
    exact z_sub [1, 2, 0] rfl (w_L_refuses_b44 C hst hR1 hR2 ⟨by omega, by omega⟩ hf)
  · replace hf := ip c26 hf
    refine z_iconst C (-1 : Int32) dL_refuses_29 (by decide) ?_
    refine z_iload_n C dL_refuses_30 2 rfl ?_
    refine z_bipush C (99 : Int32) dL_refuses_31 (by decide) ?_
    obtain ⟨c33, hf⟩ := chk_some hf
    refine z_irem C dL_refuses_33 c33 ?_
    refine z_isub C dL_refuses_34 ?_
    refine z_goto C 44 dL_refuses_35 (by decide) ?_
    exact z_sub [1, 2, 0] rfl (w_L_refuses_b44 C hst hR1 hR2 ⟨by omega, by omega⟩ hf)
def f_L_refuses (n : Nat) (c : CS) (x1 : Int32) : Option (CS × Int32) :=
  chk (¬ (2 : Int32) = 0) (if (jrem x1 (2 : Int32)) = 0 then (chk (¬ (99 : Int32) = 0) (f_L_refuses_b22 n x1 c ((-1 : Int32) - (jrem x1 (99 : Int32))))) else (chk (¬ (99 : Int32) = 0) (f_L_refuses_b22 n x1 c ((28 : Int32) + (jrem x1 (99 : Int32))))))
set_option maxRecDepth 100000 in
set_option maxHeartbeats 4000000 in
theorem ct_L_refuses {E : zE} {l : Launch} {h0 : Hp} {x : Nat} {n : Nat} {c : CS} {x1 : Int32} {r : (CS × Int32)} (hst : l.stackTraces = false) (hf : f_L_refuses n c x1 = some r) : zMK E l 17 29 yL_refuses cL_refuses 9 (some .boolean) [.ref x, .int x1] (pC E h0 x c) (some (.int r.2)) (pC E h0 x r.1) := by
  refine zMK_of (lv := [(0, .ref x), (1, .int x1)]) (by decide +kernel) (Nat.le_of_ble_eq_true rfl) rfl (fun X hX C hR => ?_)
  subst hX
  replace C : zC E X RL cL_refuses 9 (some .boolean) 17 := C
  have hR1 : 29 ≤ (xR X).cells := by rw [hR]; exact Nat.le_refl _
  have hR2 : 174 ≤ (xR X).slots := by rw [hR]; exact Nat.le_refl _
  obtain ⟨k, hk0⟩ : ∃ k : Nat, k = 0 := ⟨0, rfl⟩
  obtain ⟨n9, hn0⟩ : ∃ n9 : Nat, n9 = 0 := ⟨0, rfl⟩
  refine z_kn (k := k) (n := n9) hk0 hn0 ?_
  unfold f_L_refuses at hf
  refine z_iload_n C dL_refuses_0 1 rfl ?_
  refine z_iconst C (2 : Int32) dL_refuses_1 (by decide) ?_
  obtain ⟨c2, hf⟩ := chk_some hf
  refine z_irem C dL_refuses_2 c2 ?_
  refine z_if_ne C 15 dL_refuses_3 (by decide) (fun c3 => ?_) (fun c3 => ?_)
  · replace hf := iN c3 hf
    refine z_bipush C (28 : Int32) dL_refuses_15 (by decide) ?_
    refine z_iload_n C dL_refuses_17 1 rfl ?_
    refine z_bipush C (99 : Int32) dL_refuses_18 (by decide) ?_
    obtain ⟨c20, hf⟩ := chk_some hf
    refine z_irem C dL_refuses_20 c20 ?_
    refine z_iadd C dL_refuses_21 ?_
    exact z_sub [0, 1] rfl (w_L_refuses_b22 C hst hR1 hR2 ⟨by omega, by omega⟩ hf)
  · replace hf := ip c3 hf
    refine z_iconst C (-1 : Int32) dL_refuses_6 (by decide) ?_
    refine z_iload_n C dL_refuses_7 1 rfl ?_
    refine z_bipush C (99 : Int32) dL_refuses_8 (by decide) ?_
    obtain ⟨c10, hf⟩ := chk_some hf
    refine z_irem C dL_refuses_10 c10 ?_
    refine z_isub C dL_refuses_11 ?_
    refine z_goto C 22 dL_refuses_12 (by decide) ?_
    exact z_sub [0, 1] rfl (w_L_refuses_b22 C hst hR1 hR2 ⟨by omega, by omega⟩ hf)
/-! L_holds: depth 18, exceptions at most 741 -/
def f_L_holds_b1142 (n : Nat) (x1 : Int32)   (c : CS) : Option (CS × Int32) :=
  some (c, (1 : Int32))
set_option maxRecDepth 100000 in
set_option maxHeartbeats 4000000 in
theorem w_L_holds_b1142 {E : zE} {X : zX} {h0 : Hp} {x : Nat} {n : Nat} {x1 : Int32}  (C : zC E X RL cL_holds 24 (some .boolean) 18) (hst : (xl X).stackTraces = false) (hR1 : 741 ≤ (xR X).cells) (hR2 : 4446 ≤ (xR X).slots)  {c : CS} {r : (CS × Int32)} {k n9 : Nat} (hk : (k + 0 ≤ 741 ∧ n9 + 0 ≤ 4446)) (hf : f_L_holds_b1142 n x1 c = some r) : zW E X 24 k n9 (MQ (xb X) (zQ E (some (.int r.2)) (pC E h0 x r.1)) (xa X) (xs X) 741 4446 (zA E)) 1142 (pC E h0 x c) [] [] := by
  obtain ⟨hk1, hk2⟩ := hk
  unfold f_L_holds_b1142 at hf
  refine z_iconst C (1 : Int32) dL_holds_1142 (by decide) ?_
  refine z_goto C 1147 dL_holds_1143 (by decide) ?_
  obtain rfl := Option.some.inj hf
  exact z_zretK (R := (1 : Int32)) C (by decide) (by omega) (by omega) dL_holds_1147 rfl
def f_L_holds_b1096 (n : Nat) (x1 : Int32)   (c : CS) (x3 : Int32) (s0 : Int32) (s1 : Int32) : Option (CS × Int32) :=
  if s1 = s0 then (if x3 = (2 : Int32) then ((f_L_call n c (5 : Int32) (0 : Int32) (3 : Int32) (0 : Int32)).bind (fun q1109 => (f_L_call n q1109.1 (5 : Int32) (1 : Int32) (3 : Int32) (0 : Int32)).bind (fun q1117 => (f_L_call n q1117.1 (5 : Int32) (2 : Int32) (3 : Int32) (0 : Int32)).bind (fun q1126 => (f_L_call n q1126.1 (5 : Int32) (3 : Int32) (3 : Int32) (0 : Int32)).bind (fun q1135 => if (((q1109.2 + q1117.2) + q1126.2) + q1135.2) ≤ 0 then (some (q1135.1, (0 : Int32))) else (f_L_holds_b1142 n x1 q1135.1)))))) else (f_L_holds_b1142 n x1 c)) else (some (c, (0 : Int32)))
set_option maxRecDepth 100000 in
set_option maxHeartbeats 4000000 in
theorem w_L_holds_b1096 {E : zE} {X : zX} {h0 : Hp} {x : Nat} {n : Nat} {x1 : Int32}  (C : zC E X RL cL_holds 24 (some .boolean) 18) (hst : (xl X).stackTraces = false) (hR1 : 741 ≤ (xR X).cells) (hR2 : 4446 ≤ (xR X).slots)  {c : CS} {x3 : Int32} {s0 : Int32} {s1 : Int32} {r : (CS × Int32)} {k n9 : Nat} (hk : (k + 4 ≤ 741 ∧ n9 + 24 ≤ 4446)) (hf : f_L_holds_b1096 n x1 c x3 s0 s1 = some r) : zW E X 24 k n9 (MQ (xb X) (zQ E (some (.int r.2)) (pC E h0 x r.1)) (xa X) (xs X) 741 4446 (zA E)) 1096 (pC E h0 x c) [(0, .ref x), (3, .int x3)] [.int s0, .int s1] := by
  obtain ⟨hk1, hk2⟩ := hk
  unfold f_L_holds_b1096 at hf
  refine z_icmp_ne C 1146 dL_holds_1096 (by decide) (fun c1096 => ?_) (fun c1096 => ?_)
  · replace hf := iN c1096 hf
    refine z_iconst C (0 : Int32) dL_holds_1146 (by decide) ?_
    obtain rfl := Option.some.inj hf
    exact z_zretK (R := (0 : Int32)) C (by decide) (by omega) (by omega) dL_holds_1147 rfl
  · replace hf := ip c1096 hf
    refine z_iload_n C dL_holds_1099 1 rfl ?_
    refine z_iconst C (2 : Int32) dL_holds_1100 (by decide) ?_
    refine z_icmp_ne C 1142 dL_holds_1101 (by decide) (fun c1101 => ?_) (fun c1101 => ?_)
    · replace hf := iN c1101 hf
      exact z_sub [] rfl (w_L_holds_b1142 C hst hR1 hR2 ⟨by omega, by omega⟩ hf)
    · replace hf := ip c1101 hf
      refine z_aload_n C dL_holds_1104 0 rfl ?_
      refine z_iconst C (5 : Int32) dL_holds_1105 (by decide) ?_
      refine z_iconst C (0 : Int32) dL_holds_1106 (by decide) ?_
      refine z_iconst C (3 : Int32) dL_holds_1107 (by decide) ?_
      refine z_iconst C (0 : Int32) dL_holds_1108 (by decide) ?_
      obtain ⟨q1109, hq1109, hf⟩ := bd_some hf
      refine z_callK (K := 1) C 1112 [.ref x, .int (5 : Int32), .int (0 : Int32), .int (3 : Int32), .int (0 : Int32)] [] (ct_L_call hst hq1109) co_L_call ml_L_139 st_L_call ini_L ⟨by decide +kernel, by decide +kernel, by show _ = some 5; decide +kernel⟩ (by decide) (by decide) rfl (Nat.le_of_ble_eq_true rfl) ⟨by omega, by omega⟩ rfl dL_holds_1109 ?_
      refine z_aload_n C dL_holds_1112 0 rfl ?_
      refine z_iconst C (5 : Int32) dL_holds_1113 (by decide) ?_
      refine z_iconst C (1 : Int32) dL_holds_1114 (by decide) ?_
      refine z_iconst C (3 : Int32) dL_holds_1115 (by decide) ?_
      refine z_iconst C (0 : Int32) dL_holds_1116 (by decide) ?_
      obtain ⟨q1117, hq1117, hf⟩ := bd_some hf
      refine z_callK (K := 1) C 1120 [.ref x, .int (5 : Int32), .int (1 : Int32), .int (3 : Int32), .int (0 : Int32)] [.int q1109.2] (ct_L_call hst hq1117) co_L_call ml_L_139 st_L_call ini_L ⟨by decide +kernel, by decide +kernel, by show _ = some 5; decide +kernel⟩ (by decide) (by decide) rfl (Nat.le_of_ble_eq_true rfl) ⟨by omega, by omega⟩ rfl dL_holds_1117 ?_
      refine z_iadd C dL_holds_1120 ?_
      refine z_aload_n C dL_holds_1121 0 rfl ?_
      refine z_iconst C (5 : Int32) dL_holds_1122 (by decide) ?_
      refine z_iconst C (2 : Int32) dL_holds_1123 (by decide) ?_
      refine z_iconst C (3 : Int32) dL_holds_1124 (by decide) ?_
      refine z_iconst C (0 : Int32) dL_holds_1125 (by decide) ?_
      obtain ⟨q1126, hq1126, hf⟩ := bd_some hf
      refine z_callK (K := 1) C 1129 [.ref x, .int (5 : Int32), .int (2 : Int32), .int (3 : Int32), .int (0 : Int32)] [.int (q1109.2 + q1117.2)] (ct_L_call hst hq1126) co_L_call ml_L_139 st_L_call ini_L ⟨by decide +kernel, by decide +kernel, by show _ = some 5; decide +kernel⟩ (by decide) (by decide) rfl (Nat.le_of_ble_eq_true rfl) ⟨by omega, by omega⟩ rfl dL_holds_1126 ?_
      refine z_iadd C dL_holds_1129 ?_
      refine z_aload_n C dL_holds_1130 0 rfl ?_
      refine z_iconst C (5 : Int32) dL_holds_1131 (by decide) ?_
      refine z_iconst C (3 : Int32) dL_holds_1132 (by decide) ?_
      refine z_iconst C (3 : Int32) dL_holds_1133 (by decide) ?_
      refine z_iconst C (0 : Int32) dL_holds_1134 (by decide) ?_
      obtain ⟨q1135, hq1135, hf⟩ := bd_some hf
      refine z_callK (K := 1) C 1138 [.ref x, .int (5 : Int32), .int (3 : Int32), .int (3 : Int32), .int (0 : Int32)] [.int ((q1109.2 + q1117.2) + q1126.2)] (ct_L_call hst hq1135) co_L_call ml_L_139 st_L_call ini_L ⟨by decide +kernel, by decide +kernel, by show _ = some 5; decide +kernel⟩ (by decide) (by decide) rfl (Nat.le_of_ble_eq_true rfl) ⟨by omega, by omega⟩ rfl dL_holds_1135 ?_
      refine z_iadd C dL_holds_1138 ?_
      refine z_if_le C 1146 dL_holds_1139 (by decide) (fun c1139 => ?_) (fun c1139 => ?_)
      · replace hf := ip c1139 hf
        refine z_iconst C (0 : Int32) dL_holds_1146 (by decide) ?_
        obtain rfl := Option.some.inj hf
        exact z_zretK (R := (0 : Int32)) C (by decide) (by omega) (by omega) dL_holds_1147 rfl
      · replace hf := iN c1139 hf
        exact z_sub [] rfl (w_L_holds_b1142 C hst hR1 hR2 ⟨by omega, by omega⟩ hf)
def f_L_holds_b1086 (n : Nat) (x1 : Int32)   (c : CS) (x3 : Int32) (x4 : Int32) (s0 : Int32) : Option (CS × Int32) :=
  if x4 = 0 then (f_L_holds_b1096 n x1 c x3 (1 : Int32) s0) else (f_L_holds_b1096 n x1 c x3 (0 : Int32) s0)
set_option maxRecDepth 100000 in
set_option maxHeartbeats 4000000 in
theorem w_L_holds_b1086 {E : zE} {X : zX} {h0 : Hp} {x : Nat} {n : Nat} {x1 : Int32}  (C : zC E X RL cL_holds 24 (some .boolean) 18) (hst : (xl X).stackTraces = false) (hR1 : 741 ≤ (xR X).cells) (hR2 : 4446 ≤ (xR X).slots)  {c : CS} {x3 : Int32} {x4 : Int32} {s0 : Int32} {r : (CS × Int32)} {k n9 : Nat} (hk : (k + 4 ≤ 741 ∧ n9 + 24 ≤ 4446)) (hf : f_L_holds_b1086 n x1 c x3 x4 s0 = some r) : zW E X 24 k n9 (MQ (xb X) (zQ E (some (.int r.2)) (pC E h0 x r.1)) (xa X) (xs X) 741 4446 (zA E)) 1086 (pC E h0 x c) [(0, .ref x), (3, .int x3), (4, .int x4)] [.int s0] := by
  obtain ⟨hk1, hk2⟩ := hk
  unfold f_L_holds_b1086 at hf
  refine z_iload C dL_holds_1086 2 rfl ?_
  refine z_if_ne C 1095 dL_holds_1088 (by decide) (fun c1088 => ?_) (fun c1088 => ?_)
  · replace hf := iN c1088 hf
    refine z_iconst C (0 : Int32) dL_holds_1095 (by decide) ?_
    exact z_sub [0, 1] rfl (w_L_holds_b1096 C hst hR1 hR2 ⟨by omega, by omega⟩ hf)
  · replace hf := ip c1088 hf
    refine z_iconst C (1 : Int32) dL_holds_1091 (by decide) ?_
    refine z_goto C 1096 dL_holds_1092 (by decide) ?_
    exact z_sub [0, 1] rfl (w_L_holds_b1096 C hst hR1 hR2 ⟨by omega, by omega⟩ hf)
def f_L_holds_b1065 (n : Nat) (x1 : Int32)   (c : CS) (x3 : Int32) (x4 : Int32) (s0 : Int32) (s1 : Int32) : Option (CS × Int32) :=
  if s1 = s0 then ((f_L_call n c (13 : Int32) (0 : Int32) (0 : Int32) (0 : Int32)).bind (fun q1074 => if q1074.2 = (-1 : Int32) then (f_L_holds_b1086 n x1 q1074.1 x3 x4 (1 : Int32)) else (f_L_holds_b1086 n x1 q1074.1 x3 x4 (0 : Int32)))) else (some (c, (0 : Int32)))
set_option maxRecDepth 100000 in
set_option maxHeartbeats 4000000 in
theorem w_L_holds_b1065 {E : zE} {X : zX} {h0 : Hp} {x : Nat} {n : Nat} {x1 : Int32}  (C : zC E X RL cL_holds 24 (some .boolean) 18) (hst : (xl X).stackTraces = false) (hR1 : 741 ≤ (xR X).cells) (hR2 : 4446 ≤ (xR X).slots)  {c : CS} {x3 : Int32} {x4 : Int32} {s0 : Int32} {s1 : Int32} {r : (CS × Int32)} {k n9 : Nat} (hk : (k + 5 ≤ 741 ∧ n9 + 30 ≤ 4446)) (hf : f_L_holds_b1065 n x1 c x3 x4 s0 s1 = some r) : zW E X 24 k n9 (MQ (xb X) (zQ E (some (.int r.2)) (pC E h0 x r.1)) (xa X) (xs X) 741 4446 (zA E)) 1065 (pC E h0 x c) [(0, .ref x), (3, .int x3), (4, .int x4)] [.int s0, .int s1] := by
  obtain ⟨hk1, hk2⟩ := hk
  unfold f_L_holds_b1065 at hf
  refine z_icmp_ne C 1146 dL_holds_1065 (by decide) (fun c1065 => ?_) (fun c1065 => ?_)
  · replace hf := iN c1065 hf
    refine z_iconst C (0 : Int32) dL_holds_1146 (by decide) ?_
    obtain rfl := Option.some.inj hf
    exact z_zretK (R := (0 : Int32)) C (by decide) (by omega) (by omega) dL_holds_1147 rfl
  · replace hf := ip c1065 hf
    refine z_aload_n C dL_holds_1068 0 rfl ?_
    refine z_bipush C (13 : Int32) dL_holds_1069 (by decide) ?_
    refine z_iconst C (0 : Int32) dL_holds_1071 (by decide) ?_
    refine z_iconst C (0 : Int32) dL_holds_1072 (by decide) ?_
    refine z_iconst C (0 : Int32) dL_holds_1073 (by decide) ?_
    obtain ⟨q1074, hq1074, hf⟩ := bd_some hf
    refine z_callK (K := 1) C 1077 [.ref x, .int (13 : Int32), .int (0 : Int32), .int (0 : Int32), .int (0 : Int32)] [] (ct_L_call hst hq1074) co_L_call ml_L_139 st_L_call ini_L ⟨by decide +kernel, by decide +kernel, by show _ = some 5; decide +kernel⟩ (by decide) (by decide) rfl (Nat.le_of_ble_eq_true rfl) ⟨by omega, by omega⟩ rfl dL_holds_1074 ?_
    refine z_iconst C (-1 : Int32) dL_holds_1077 (by decide) ?_
    refine z_icmp_ne C 1085 dL_holds_1078 (by decide) (fun c1078 => ?_) (fun c1078 => ?_)
    · replace hf := iN c1078 hf
      refine z_iconst C (0 : Int32) dL_holds_1085 (by decide) ?_
      exact z_sub [0, 1, 2] rfl (w_L_holds_b1086 C hst hR1 hR2 ⟨by omega, by omega⟩ hf)
    · replace hf := ip c1078 hf
      refine z_iconst C (1 : Int32) dL_holds_1081 (by decide) ?_
      refine z_goto C 1086 dL_holds_1082 (by decide) ?_
      exact z_sub [0, 1, 2] rfl (w_L_holds_b1086 C hst hR1 hR2 ⟨by omega, by omega⟩ hf)
def f_L_holds_b1055 (n : Nat) (x1 : Int32)   (c : CS) (x3 : Int32) (x4 : Int32) (x10 : Int32) (s0 : Int32) : Option (CS × Int32) :=
  if x10 = 0 then (f_L_holds_b1065 n x1 c x3 x4 (1 : Int32) s0) else (f_L_holds_b1065 n x1 c x3 x4 (0 : Int32) s0)
set_option maxRecDepth 100000 in
set_option maxHeartbeats 4000000 in
theorem w_L_holds_b1055 {E : zE} {X : zX} {h0 : Hp} {x : Nat} {n : Nat} {x1 : Int32}  (C : zC E X RL cL_holds 24 (some .boolean) 18) (hst : (xl X).stackTraces = false) (hR1 : 741 ≤ (xR X).cells) (hR2 : 4446 ≤ (xR X).slots)  {c : CS} {x3 : Int32} {x4 : Int32} {x10 : Int32} {s0 : Int32} {r : (CS × Int32)} {k n9 : Nat} (hk : (k + 5 ≤ 741 ∧ n9 + 30 ≤ 4446)) (hf : f_L_holds_b1055 n x1 c x3 x4 x10 s0 = some r) : zW E X 24 k n9 (MQ (xb X) (zQ E (some (.int r.2)) (pC E h0 x r.1)) (xa X) (xs X) 741 4446 (zA E)) 1055 (pC E h0 x c) [(0, .ref x), (3, .int x3), (4, .int x4), (10, .int x10)] [.int s0] := by
  obtain ⟨hk1, hk2⟩ := hk
  unfold f_L_holds_b1055 at hf
  refine z_iload C dL_holds_1055 3 rfl ?_
  refine z_if_ne C 1064 dL_holds_1057 (by decide) (fun c1057 => ?_) (fun c1057 => ?_)
  · replace hf := iN c1057 hf
    refine z_iconst C (0 : Int32) dL_holds_1064 (by decide) ?_
    exact z_sub [0, 1, 2] rfl (w_L_holds_b1065 C hst hR1 hR2 ⟨by omega, by omega⟩ hf)
  · replace hf := ip c1057 hf
    refine z_iconst C (1 : Int32) dL_holds_1060 (by decide) ?_
    refine z_goto C 1065 dL_holds_1061 (by decide) ?_
    exact z_sub [0, 1, 2] rfl (w_L_holds_b1065 C hst hR1 hR2 ⟨by omega, by omega⟩ hf)
def f_L_holds_b926 (n : Nat) (x1 : Int32)   (c : CS) (x3 : Int32) (x4 : Int32) (x5 : Int32) (x7 : Int32) (x8 : Int32) (x9 : Int32) (x10 : Int32) (x11 : Int32) (x12 : Int32) (x13 : Int32) (x14 : Int32) (x15 : Int32) (x17 : Int32) : Option (CS × Int32) :=
  if x12 = 0 then (some (c, (0 : Int32))) else (if x7 = x17 then (if x8 = x4 then (if x9 = x5 then ((f_L_call n c (2 : Int32) (9 : Int32) (0 : Int32) (0 : Int32)).bind (fun q960 => if x13 = q960.2 then ((f_L_call n q960.1 (2 : Int32) (6 : Int32) (0 : Int32) (0 : Int32)).bind (fun q974 => if x14 = q974.2 then ((f_L_call n q974.1 (13 : Int32) (4 : Int32) (0 : Int32) (0 : Int32)).bind (fun q988 => (f_L_call n q988.1 (13 : Int32) (5 : Int32) (0 : Int32) (0 : Int32)).bind (fun q997 => if x15 = (q988.2 + q997.2) then ((f_L_call n q997.1 (7 : Int32) (0 : Int32) (0 : Int32) (0 : Int32)).bind (fun q1010 => if q1010.2 = ((625 : Int32) - ((2 : Int32) * x4)) then ((f_L_call n q1010.1 (7 : Int32) (1 : Int32) (0 : Int32) (0 : Int32)).bind (fun q1030 => if q1030.2 = ((625 : Int32) - ((2 : Int32) * x4)) then (if x11 = (-1 : Int32) then (f_L_holds_b1055 n x1 q1030.1 x3 x4 x10 (1 : Int32)) else (f_L_holds_b1055 n x1 q1030.1 x3 x4 x10 (0 : Int32))) else (some (q1030.1, (0 : Int32))))) else (some (q1010.1, (0 : Int32))))) else (some (q997.1, (0 : Int32)))))) else (some (q974.1, (0 : Int32))))) else (some (q960.1, (0 : Int32))))) else (some (c, (0 : Int32)))) else (some (c, (0 : Int32)))) else (some (c, (0 : Int32))))
set_option maxRecDepth 100000 in
set_option maxHeartbeats 4000000 in
theorem w_L_holds_b926 {E : zE} {X : zX} {h0 : Hp} {x : Nat} {n : Nat} {x1 : Int32}  (C : zC E X RL cL_holds 24 (some .boolean) 18) (hst : (xl X).stackTraces = false) (hR1 : 741 ≤ (xR X).cells) (hR2 : 4446 ≤ (xR X).slots)  {c : CS} {x3 : Int32} {x4 : Int32} {x5 : Int32} {x7 : Int32} {x8 : Int32} {x9 : Int32} {x10 : Int32} {x11 : Int32} {x12 : Int32} {x13 : Int32} {x14 : Int32} {x15 : Int32} {x17 : Int32} {r : (CS × Int32)} {k n9 : Nat} (hk : (k + 11 ≤ 741 ∧ n9 + 66 ≤ 4446)) (hf : f_L_holds_b926 n x1 c x3 x4 x5 x7 x8 x9 x10 x11 x12 x13 x14 x15 x17 = some r) : zW E X 24 k n9 (MQ (xb X) (zQ E (some (.int r.2)) (pC E h0 x r.1)) (xa X) (xs X) 741 4446 (zA E)) 926 (pC E h0 x c) [(0, .ref x), (3, .int x3), (4, .int x4), (5, .int x5), (7, .int x7), (8, .int x8), (9, .int x9), (10, .int x10), (11, .int x11), (12, .int x12), (13, .int x13), (14, .int x14), (15, .int x15), (17, .int x17)] [] := by
  obtain ⟨hk1, hk2⟩ := hk
  unfold f_L_holds_b926 at hf
  refine z_iload C dL_holds_926 9 rfl ?_
  refine z_if_eq C 1146 dL_holds_928 (by decide) (fun c928 => ?_) (fun c928 => ?_)
  · replace hf := ip c928 hf
    refine z_iconst C (0 : Int32) dL_holds_1146 (by decide) ?_
    obtain rfl := Option.some.inj hf
    exact z_zretK (R := (0 : Int32)) C (by decide) (by omega) (by omega) dL_holds_1147 rfl
  · replace hf := iN c928 hf
    refine z_iload C dL_holds_931 4 rfl ?_
    refine z_iload C dL_holds_933 13 rfl ?_
    refine z_icmp_ne C 1146 dL_holds_935 (by decide) (fun c935 => ?_) (fun c935 => ?_)
    · replace hf := iN c935 hf
      refine z_iconst C (0 : Int32) dL_holds_1146 (by decide) ?_
      obtain rfl := Option.some.inj hf
      exact z_zretK (R := (0 : Int32)) C (by decide) (by omega) (by omega) dL_holds_1147 rfl
    · replace hf := ip c935 hf
      refine z_iload C dL_holds_938 5 rfl ?_
      refine z_iload C dL_holds_940 2 rfl ?_
      refine z_icmp_ne C 1146 dL_holds_942 (by decide) (fun c942 => ?_) (fun c942 => ?_)
      · replace hf := iN c942 hf
        refine z_iconst C (0 : Int32) dL_holds_1146 (by decide) ?_
        obtain rfl := Option.some.inj hf
        exact z_zretK (R := (0 : Int32)) C (by decide) (by omega) (by omega) dL_holds_1147 rfl
      · replace hf := ip c942 hf
        refine z_iload C dL_holds_945 6 rfl ?_
        refine z_iload C dL_holds_947 3 rfl ?_
        refine z_icmp_ne C 1146 dL_holds_949 (by decide) (fun c949 => ?_) (fun c949 => ?_)
        · replace hf := iN c949 hf
          refine z_iconst C (0 : Int32) dL_holds_1146 (by decide) ?_
          obtain rfl := Option.some.inj hf
          exact z_zretK (R := (0 : Int32)) C (by decide) (by omega) (by omega) dL_holds_1147 rfl
        · replace hf := ip c949 hf
          refine z_iload C dL_holds_952 10 rfl ?_
          refine z_aload_n C dL_holds_954 0 rfl ?_
          refine z_iconst C (2 : Int32) dL_holds_955 (by decide) ?_
          refine z_bipush C (9 : Int32) dL_holds_956 (by decide) ?_
          refine z_iconst C (0 : Int32) dL_holds_958 (by decide) ?_
          refine z_iconst C (0 : Int32) dL_holds_959 (by decide) ?_
          obtain ⟨q960, hq960, hf⟩ := bd_some hf
          refine z_callK (K := 1) C 963 [.ref x, .int (2 : Int32), .int (9 : Int32), .int (0 : Int32), .int (0 : Int32)] [.int x13] (ct_L_call hst hq960) co_L_call ml_L_139 st_L_call ini_L ⟨by decide +kernel, by decide +kernel, by show _ = some 5; decide +kernel⟩ (by decide) (by decide) rfl (Nat.le_of_ble_eq_true rfl) ⟨by omega, by omega⟩ rfl dL_holds_960 ?_
          refine z_icmp_ne C 1146 dL_holds_963 (by decide) (fun c963 => ?_) (fun c963 => ?_)
          · replace hf := iN c963 hf
            refine z_iconst C (0 : Int32) dL_holds_1146 (by decide) ?_
            obtain rfl := Option.some.inj hf
            exact z_zretK (R := (0 : Int32)) C (by decide) (by omega) (by omega) dL_holds_1147 rfl
          · replace hf := ip c963 hf
            refine z_iload C dL_holds_966 11 rfl ?_
            refine z_aload_n C dL_holds_968 0 rfl ?_
            refine z_iconst C (2 : Int32) dL_holds_969 (by decide) ?_
            refine z_bipush C (6 : Int32) dL_holds_970 (by decide) ?_
            refine z_iconst C (0 : Int32) dL_holds_972 (by decide) ?_
            refine z_iconst C (0 : Int32) dL_holds_973 (by decide) ?_
            obtain ⟨q974, hq974, hf⟩ := bd_some hf
            refine z_callK (K := 1) C 977 [.ref x, .int (2 : Int32), .int (6 : Int32), .int (0 : Int32), .int (0 : Int32)] [.int x14] (ct_L_call hst hq974) co_L_call ml_L_139 st_L_call ini_L ⟨by decide +kernel, by decide +kernel, by show _ = some 5; decide +kernel⟩ (by decide) (by decide) rfl (Nat.le_of_ble_eq_true rfl) ⟨by omega, by omega⟩ rfl dL_holds_974 ?_
            refine z_icmp_ne C 1146 dL_holds_977 (by decide) (fun c977 => ?_) (fun c977 => ?_)
            · replace hf := iN c977 hf
              refine z_iconst C (0 : Int32) dL_holds_1146 (by decide) ?_
              obtain rfl := Option.some.inj hf
              exact z_zretK (R := (0 : Int32)) C (by decide) (by omega) (by omega) dL_holds_1147 rfl
            · replace hf := ip c977 hf
              refine z_iload C dL_holds_980 12 rfl ?_
              refine z_aload_n C dL_holds_982 0 rfl ?_
              refine z_bipush C (13 : Int32) dL_holds_983 (by decide) ?_
              refine z_iconst C (4 : Int32) dL_holds_985 (by decide) ?_
              refine z_iconst C (0 : Int32) dL_holds_986 (by decide) ?_
              refine z_iconst C (0 : Int32) dL_holds_987 (by decide) ?_
              obtain ⟨q988, hq988, hf⟩ := bd_some hf
              refine z_callK (K := 1) C 991 [.ref x, .int (13 : Int32), .int (4 : Int32), .int (0 : Int32), .int (0 : Int32)] [.int x15] (ct_L_call hst hq988) co_L_call ml_L_139 st_L_call ini_L ⟨by decide +kernel, by decide +kernel, by show _ = some 5; decide +kernel⟩ (by decide) (by decide) rfl (Nat.le_of_ble_eq_true rfl) ⟨by omega, by omega⟩ rfl dL_holds_988 ?_
              refine z_aload_n C dL_holds_991 0 rfl ?_
              refine z_bipush C (13 : Int32) dL_holds_992 (by decide) ?_
              refine z_iconst C (5 : Int32) dL_holds_994 (by decide) ?_
              refine z_iconst C (0 : Int32) dL_holds_995 (by decide) ?_
              refine z_iconst C (0 : Int32) dL_holds_996 (by decide) ?_
              obtain ⟨q997, hq997, hf⟩ := bd_some hf
              refine z_callK (K := 1) C 1000 [.ref x, .int (13 : Int32), .int (5 : Int32), .int (0 : Int32), .int (0 : Int32)] [.int q988.2, .int x15] (ct_L_call hst hq997) co_L_call ml_L_139 st_L_call ini_L ⟨by decide +kernel, by decide +kernel, by show _ = some 5; decide +kernel⟩ (by decide) (by decide) rfl (Nat.le_of_ble_eq_true rfl) ⟨by omega, by omega⟩ rfl dL_holds_997 ?_
              refine z_iadd C dL_holds_1000 ?_
              refine z_icmp_ne C 1146 dL_holds_1001 (by decide) (fun c1001 => ?_) (fun c1001 => ?_)
              · replace hf := iN c1001 hf
                refine z_iconst C (0 : Int32) dL_holds_1146 (by decide) ?_
                obtain rfl := Option.some.inj hf
                exact z_zretK (R := (0 : Int32)) C (by decide) (by omega) (by omega) dL_holds_1147 rfl
              · replace hf := ip c1001 hf
                refine z_aload_n C dL_holds_1004 0 rfl ?_
                refine z_bipush C (7 : Int32) dL_holds_1005 (by decide) ?_
                refine z_iconst C (0 : Int32) dL_holds_1007 (by decide) ?_
                refine z_iconst C (0 : Int32) dL_holds_1008 (by decide) ?_
                refine z_iconst C (0 : Int32) dL_holds_1009 (by decide) ?_
                obtain ⟨q1010, hq1010, hf⟩ := bd_some hf
                refine z_callK (K := 1) C 1013 [.ref x, .int (7 : Int32), .int (0 : Int32), .int (0 : Int32), .int (0 : Int32)] [] (ct_L_call hst hq1010) co_L_call ml_L_139 st_L_call ini_L ⟨by decide +kernel, by decide +kernel, by show _ = some 5; decide +kernel⟩ (by decide) (by decide) rfl (Nat.le_of_ble_eq_true rfl) ⟨by omega, by omega⟩ rfl dL_holds_1010 ?_
                refine z_sipush C (625 : Int32) dL_holds_1013 (by decide) ?_
                refine z_iconst C (2 : Int32) dL_holds_1016 (by decide) ?_
                refine z_iload C dL_holds_1017 2 rfl ?_
                refine z_imul C dL_holds_1019 ?_
                refine z_isub C dL_holds_1020 ?_
                refine z_icmp_ne C 1146 dL_holds_1021 (by decide) (fun c1021 => ?_) (fun c1021 => ?_)
                · replace hf := iN c1021 hf
                  refine z_iconst C (0 : Int32) dL_holds_1146 (by decide) ?_
                  obtain rfl := Option.some.inj hf
                  exact z_zretK (R := (0 : Int32)) C (by decide) (by omega) (by omega) dL_holds_1147 rfl
                · replace hf := ip c1021 hf
                  refine z_aload_n C dL_holds_1024 0 rfl ?_
                  refine z_bipush C (7 : Int32) dL_holds_1025 (by decide) ?_
                  refine z_iconst C (1 : Int32) dL_holds_1027 (by decide) ?_
                  refine z_iconst C (0 : Int32) dL_holds_1028 (by decide) ?_
                  refine z_iconst C (0 : Int32) dL_holds_1029 (by decide) ?_
                  obtain ⟨q1030, hq1030, hf⟩ := bd_some hf
                  refine z_callK (K := 1) C 1033 [.ref x, .int (7 : Int32), .int (1 : Int32), .int (0 : Int32), .int (0 : Int32)] [] (ct_L_call hst hq1030) co_L_call ml_L_139 st_L_call ini_L ⟨by decide +kernel, by decide +kernel, by show _ = some 5; decide +kernel⟩ (by decide) (by decide) rfl (Nat.le_of_ble_eq_true rfl) ⟨by omega, by omega⟩ rfl dL_holds_1030 ?_
                  refine z_sipush C (625 : Int32) dL_holds_1033 (by decide) ?_
                  refine z_iconst C (2 : Int32) dL_holds_1036 (by decide) ?_
                  refine z_iload C dL_holds_1037 2 rfl ?_
                  refine z_imul C dL_holds_1039 ?_
                  refine z_isub C dL_holds_1040 ?_
                  refine z_icmp_ne C 1146 dL_holds_1041 (by decide) (fun c1041 => ?_) (fun c1041 => ?_)
                  · replace hf := iN c1041 hf
                    refine z_iconst C (0 : Int32) dL_holds_1146 (by decide) ?_
                    obtain rfl := Option.some.inj hf
                    exact z_zretK (R := (0 : Int32)) C (by decide) (by omega) (by omega) dL_holds_1147 rfl
                  · replace hf := ip c1041 hf
                    refine z_iload C dL_holds_1044 8 rfl ?_
                    refine z_iconst C (-1 : Int32) dL_holds_1046 (by decide) ?_
                    refine z_icmp_ne C 1054 dL_holds_1047 (by decide) (fun c1047 => ?_) (fun c1047 => ?_)
                    · replace hf := iN c1047 hf
                      refine z_iconst C (0 : Int32) dL_holds_1054 (by decide) ?_
                      exact z_sub [0, 1, 2, 7] rfl (w_L_holds_b1055 C hst hR1 hR2 ⟨by omega, by omega⟩ hf)
                    · replace hf := ip c1047 hf
                      refine z_iconst C (1 : Int32) dL_holds_1050 (by decide) ?_
                      refine z_goto C 1055 dL_holds_1051 (by decide) ?_
                      exact z_sub [0, 1, 2, 7] rfl (w_L_holds_b1055 C hst hR1 hR2 ⟨by omega, by omega⟩ hf)
def f_L_holds_b918 (n : Nat) (x1 : Int32) (x3 : Int32) (x4 : Int32) (x5 : Int32) (x6 : Int32) (x7 : Int32) (x8 : Int32) (x9 : Int32) (x10 : Int32) (x11 : Int32) (x13 : Int32) (x14 : Int32) (x15 : Int32) (x16 : Int32) (K779 : CS → Int32 → Int32 → Int32 → Option (CS × Int32))  (c : CS) (x17 : Int32) (x18 : Int32) (s0 : Int32) : Option (CS × Int32) :=
  K779 c s0 x17 (x18 + 1)
set_option maxRecDepth 100000 in
set_option maxHeartbeats 4000000 in
theorem w_L_holds_b918 {E : zE} {X : zX} {h0 : Hp} {x : Nat} {n : Nat} {x1 : Int32} {x3 : Int32} {x4 : Int32} {x5 : Int32} {x6 : Int32} {x7 : Int32} {x8 : Int32} {x9 : Int32} {x10 : Int32} {x11 : Int32} {x13 : Int32} {x14 : Int32} {x15 : Int32} {x16 : Int32} {K779 : CS → Int32 → Int32 → Int32 → Option (CS × Int32)} {fu : Nat} (C : zC E X RL cL_holds 24 (some .boolean) 18) (hst : (xl X).stackTraces = false) (hR1 : 741 ≤ (xR X).cells) (hR2 : 4446 ≤ (xR X).slots) (hK779 : ∀ (c : CS) (x12 : Int32) (x17 : Int32) (x18 : Int32) (r : (CS × Int32)) (k n9 : Nat), (k + (fu * 4 + 11) ≤ 741 ∧ n9 + (fu * 24 + 66) ≤ 4446) → K779 c x12 x17 x18 = some r → zW E X 24 k n9 (MQ (xb X) (zQ E (some (.int r.2)) (pC E h0 x r.1)) (xa X) (xs X) 741 4446 (zA E)) 779 (pC E h0 x c) [(0, .ref x), (3, .int x3), (4, .int x4), (5, .int x5), (6, .int x6), (7, .int x7), (8, .int x8), (9, .int x9), (10, .int x10), (11, .int x11), (12, .int x12), (13, .int x13), (14, .int x14), (15, .int x15), (16, .int x16), (17, .int x17), (18, .int x18)] []) {c : CS} {x17 : Int32} {x18 : Int32} {s0 : Int32} {r : (CS × Int32)} {k n9 : Nat} (hk : (k + (fu * 4 + 11) ≤ 741 ∧ n9 + (fu * 24 + 66) ≤ 4446)) (hf : f_L_holds_b918 n x1 x3 x4 x5 x6 x7 x8 x9 x10 x11 x13 x14 x15 x16 K779 c x17 x18 s0 = some r) : zW E X 24 k n9 (MQ (xb X) (zQ E (some (.int r.2)) (pC E h0 x r.1)) (xa X) (xs X) 741 4446 (zA E)) 918 (pC E h0 x c) [(0, .ref x), (3, .int x3), (4, .int x4), (5, .int x5), (6, .int x6), (7, .int x7), (8, .int x8), (9, .int x9), (10, .int x10), (11, .int x11), (13, .int x13), (14, .int x14), (15, .int x15), (16, .int x16), (17, .int x17), (18, .int x18)] [.int s0] := by
  obtain ⟨hk1, hk2⟩ := hk
  unfold f_L_holds_b918 at hf
  refine z_istore (lv' := [(12, .int s0), (0, .ref x), (3, .int x3), (4, .int x4), (5, .int x5), (6, .int x6), (7, .int x7), (8, .int x8), (9, .int x9), (10, .int x10), (11, .int x11), (13, .int x13), (14, .int x14), (15, .int x15), (16, .int x16), (17, .int x17), (18, .int x18)]) C dL_holds_918 (by decide) rfl ?_
  refine z_iinc (lv' := [(18, .int (x18 + 1)), (12, .int s0), (0, .ref x), (3, .int x3), (4, .int x4), (5, .int x5), (6, .int x6), (7, .int x7), (8, .int x8), (9, .int x9), (10, .int x10), (11, .int x11), (13, .int x13), (14, .int x14), (15, .int x15), (16, .int x16), (17, .int x17)]) C dL_holds_920 16 (x18 + 1) rfl rfl (by decide) rfl ?_
  refine z_goto C 779 dL_holds_923 (by decide) ?_
  exact z_sub [2, 3, 4, 5, 6, 7, 8, 9, 10, 11, 1, 12, 13, 14, 15, 16, 0] rfl (hK779 _ _ _ _ _ _ _ ⟨by omega, by omega⟩ hf)
def f_L_holds_b917 (n : Nat) (x1 : Int32) (x3 : Int32) (x4 : Int32) (x5 : Int32) (x6 : Int32) (x7 : Int32) (x8 : Int32) (x9 : Int32) (x10 : Int32) (x11 : Int32) (x13 : Int32) (x14 : Int32) (x15 : Int32) (x16 : Int32) (K779 : CS → Int32 → Int32 → Int32 → Option (CS × Int32))  (c : CS) (x17 : Int32) (x18 : Int32) : Option (CS × Int32) :=
  f_L_holds_b918 n x1 x3 x4 x5 x6 x7 x8 x9 x10 x11 x13 x14 x15 x16 K779 c x17 x18 (0 : Int32)
set_option maxRecDepth 100000 in
set_option maxHeartbeats 4000000 in
theorem w_L_holds_b917 {E : zE} {X : zX} {h0 : Hp} {x : Nat} {n : Nat} {x1 : Int32} {x3 : Int32} {x4 : Int32} {x5 : Int32} {x6 : Int32} {x7 : Int32} {x8 : Int32} {x9 : Int32} {x10 : Int32} {x11 : Int32} {x13 : Int32} {x14 : Int32} {x15 : Int32} {x16 : Int32} {K779 : CS → Int32 → Int32 → Int32 → Option (CS × Int32)} {fu : Nat} (C : zC E X RL cL_holds 24 (some .boolean) 18) (hst : (xl X).stackTraces = false) (hR1 : 741 ≤ (xR X).cells) (hR2 : 4446 ≤ (xR X).slots) (hK779 : ∀ (c : CS) (x12 : Int32) (x17 : Int32) (x18 : Int32) (r : (CS × Int32)) (k n9 : Nat), (k + (fu * 4 + 11) ≤ 741 ∧ n9 + (fu * 24 + 66) ≤ 4446) → K779 c x12 x17 x18 = some r → zW E X 24 k n9 (MQ (xb X) (zQ E (some (.int r.2)) (pC E h0 x r.1)) (xa X) (xs X) 741 4446 (zA E)) 779 (pC E h0 x c) [(0, .ref x), (3, .int x3), (4, .int x4), (5, .int x5), (6, .int x6), (7, .int x7), (8, .int x8), (9, .int x9), (10, .int x10), (11, .int x11), (12, .int x12), (13, .int x13), (14, .int x14), (15, .int x15), (16, .int x16), (17, .int x17), (18, .int x18)] []) {c : CS} {x17 : Int32} {x18 : Int32} {r : (CS × Int32)} {k n9 : Nat} (hk : (k + (fu * 4 + 11) ≤ 741 ∧ n9 + (fu * 24 + 66) ≤ 4446)) (hf : f_L_holds_b917 n x1 x3 x4 x5 x6 x7 x8 x9 x10 x11 x13 x14 x15 x16 K779 c x17 x18 = some r) : zW E X 24 k n9 (MQ (xb X) (zQ E (some (.int r.2)) (pC E h0 x r.1)) (xa X) (xs X) 741 4446 (zA E)) 917 (pC E h0 x c) [(0, .ref x), (3, .int x3), (4, .int x4), (5, .int x5), (6, .int x6), (7, .int x7), (8, .int x8), (9, .int x9), (10, .int x10), (11, .int x11), (13, .int x13), (14, .int x14), (15, .int x15), (16, .int x16), (17, .int x17), (18, .int x18)] [] := by
  obtain ⟨hk1, hk2⟩ := hk
  unfold f_L_holds_b917 at hf
  refine z_iconst C (0 : Int32) dL_holds_917 (by decide) ?_
  exact z_sub [0, 1, 2, 3, 4, 5, 6, 7, 8, 9, 10, 11, 12, 13, 14, 15] rfl (w_L_holds_b918 C hst hR1 hR2 hK779 ⟨by omega, by omega⟩ hf)
def f_L_holds_b913 (n : Nat) (x1 : Int32) (x3 : Int32) (x4 : Int32) (x5 : Int32) (x6 : Int32) (x7 : Int32) (x8 : Int32) (x9 : Int32) (x10 : Int32) (x11 : Int32) (x13 : Int32) (x14 : Int32) (x15 : Int32) (x16 : Int32) (K779 : CS → Int32 → Int32 → Int32 → Option (CS × Int32))  (c : CS) (x17 : Int32) (x18 : Int32) : Option (CS × Int32) :=
  f_L_holds_b918 n x1 x3 x4 x5 x6 x7 x8 x9 x10 x11 x13 x14 x15 x16 K779 c x17 x18 (1 : Int32)
set_option maxRecDepth 100000 in
set_option maxHeartbeats 4000000 in
theorem w_L_holds_b913 {E : zE} {X : zX} {h0 : Hp} {x : Nat} {n : Nat} {x1 : Int32} {x3 : Int32} {x4 : Int32} {x5 : Int32} {x6 : Int32} {x7 : Int32} {x8 : Int32} {x9 : Int32} {x10 : Int32} {x11 : Int32} {x13 : Int32} {x14 : Int32} {x15 : Int32} {x16 : Int32} {K779 : CS → Int32 → Int32 → Int32 → Option (CS × Int32)} {fu : Nat} (C : zC E X RL cL_holds 24 (some .boolean) 18) (hst : (xl X).stackTraces = false) (hR1 : 741 ≤ (xR X).cells) (hR2 : 4446 ≤ (xR X).slots) (hK779 : ∀ (c : CS) (x12 : Int32) (x17 : Int32) (x18 : Int32) (r : (CS × Int32)) (k n9 : Nat), (k + (fu * 4 + 11) ≤ 741 ∧ n9 + (fu * 24 + 66) ≤ 4446) → K779 c x12 x17 x18 = some r → zW E X 24 k n9 (MQ (xb X) (zQ E (some (.int r.2)) (pC E h0 x r.1)) (xa X) (xs X) 741 4446 (zA E)) 779 (pC E h0 x c) [(0, .ref x), (3, .int x3), (4, .int x4), (5, .int x5), (6, .int x6), (7, .int x7), (8, .int x8), (9, .int x9), (10, .int x10), (11, .int x11), (12, .int x12), (13, .int x13), (14, .int x14), (15, .int x15), (16, .int x16), (17, .int x17), (18, .int x18)] []) {c : CS} {x17 : Int32} {x18 : Int32} {r : (CS × Int32)} {k n9 : Nat} (hk : (k + (fu * 4 + 11) ≤ 741 ∧ n9 + (fu * 24 + 66) ≤ 4446)) (hf : f_L_holds_b913 n x1 x3 x4 x5 x6 x7 x8 x9 x10 x11 x13 x14 x15 x16 K779 c x17 x18 = some r) : zW E X 24 k n9 (MQ (xb X) (zQ E (some (.int r.2)) (pC E h0 x r.1)) (xa X) (xs X) 741 4446 (zA E)) 913 (pC E h0 x c) [(0, .ref x), (3, .int x3), (4, .int x4), (5, .int x5), (6, .int x6), (7, .int x7), (8, .int x8), (9, .int x9), (10, .int x10), (11, .int x11), (13, .int x13), (14, .int x14), (15, .int x15), (16, .int x16), (17, .int x17), (18, .int x18)] [] := by
  obtain ⟨hk1, hk2⟩ := hk
  unfold f_L_holds_b913 at hf
  refine z_iconst C (1 : Int32) dL_holds_913 (by decide) ?_
  refine z_goto C 918 dL_holds_914 (by decide) ?_
  exact z_sub [0, 1, 2, 3, 4, 5, 6, 7, 8, 9, 10, 11, 12, 13, 14, 15] rfl (w_L_holds_b918 C hst hR1 hR2 hK779 ⟨by omega, by omega⟩ hf)
def f_L_holds_b895 (n : Nat) (x1 : Int32) (x3 : Int32) (x4 : Int32) (x5 : Int32) (x6 : Int32) (x7 : Int32) (x8 : Int32) (x9 : Int32) (x10 : Int32) (x11 : Int32) (x13 : Int32) (x14 : Int32) (x15 : Int32) (x16 : Int32) (K779 : CS → Int32 → Int32 → Int32 → Option (CS × Int32))  (c : CS) (x17 : Int32) (x18 : Int32) (x19 : Int32) : Option (CS × Int32) :=
  (f_L_call n c (2 : Int32) (2 : Int32) (0 : Int32) (0 : Int32)).bind (fun q902 => if x18 < q902.2 then (f_L_holds_b913 n x1 x3 x4 x5 x6 x7 x8 x9 x10 x11 x13 x14 x15 x16 K779 q902.1 x17 x18) else (if x19 = 0 then (f_L_holds_b913 n x1 x3 x4 x5 x6 x7 x8 x9 x10 x11 x13 x14 x15 x16 K779 q902.1 x17 x18) else (f_L_holds_b917 n x1 x3 x4 x5 x6 x7 x8 x9 x10 x11 x13 x14 x15 x16 K779 q902.1 x17 x18)))
set_option maxRecDepth 100000 in
set_option maxHeartbeats 4000000 in
theorem w_L_holds_b895 {E : zE} {X : zX} {h0 : Hp} {x : Nat} {n : Nat} {x1 : Int32} {x3 : Int32} {x4 : Int32} {x5 : Int32} {x6 : Int32} {x7 : Int32} {x8 : Int32} {x9 : Int32} {x10 : Int32} {x11 : Int32} {x13 : Int32} {x14 : Int32} {x15 : Int32} {x16 : Int32} {K779 : CS → Int32 → Int32 → Int32 → Option (CS × Int32)} {fu : Nat} (C : zC E X RL cL_holds 24 (some .boolean) 18) (hst : (xl X).stackTraces = false) (hR1 : 741 ≤ (xR X).cells) (hR2 : 4446 ≤ (xR X).slots) (hK779 : ∀ (c : CS) (x12 : Int32) (x17 : Int32) (x18 : Int32) (r : (CS × Int32)) (k n9 : Nat), (k + (fu * 4 + 11) ≤ 741 ∧ n9 + (fu * 24 + 66) ≤ 4446) → K779 c x12 x17 x18 = some r → zW E X 24 k n9 (MQ (xb X) (zQ E (some (.int r.2)) (pC E h0 x r.1)) (xa X) (xs X) 741 4446 (zA E)) 779 (pC E h0 x c) [(0, .ref x), (3, .int x3), (4, .int x4), (5, .int x5), (6, .int x6), (7, .int x7), (8, .int x8), (9, .int x9), (10, .int x10), (11, .int x11), (12, .int x12), (13, .int x13), (14, .int x14), (15, .int x15), (16, .int x16), (17, .int x17), (18, .int x18)] []) {c : CS} {x17 : Int32} {x18 : Int32} {x19 : Int32} {r : (CS × Int32)} {k n9 : Nat} (hk : (k + (fu * 4 + 12) ≤ 741 ∧ n9 + (fu * 24 + 72) ≤ 4446)) (hf : f_L_holds_b895 n x1 x3 x4 x5 x6 x7 x8 x9 x10 x11 x13 x14 x15 x16 K779 c x17 x18 x19 = some r) : zW E X 24 k n9 (MQ (xb X) (zQ E (some (.int r.2)) (pC E h0 x r.1)) (xa X) (xs X) 741 4446 (zA E)) 895 (pC E h0 x c) [(0, .ref x), (3, .int x3), (4, .int x4), (5, .int x5), (6, .int x6), (7, .int x7), (8, .int x8), (9, .int x9), (10, .int x10), (11, .int x11), (13, .int x13), (14, .int x14), (15, .int x15), (16, .int x16), (17, .int x17), (18, .int x18), (19, .int x19)] [] := by
  obtain ⟨hk1, hk2⟩ := hk
  unfold f_L_holds_b895 at hf
  refine z_iload C dL_holds_895 15 rfl ?_
  refine z_aload_n C dL_holds_897 0 rfl ?_
  refine z_iconst C (2 : Int32) dL_holds_898 (by decide) ?_
  refine z_iconst C (2 : Int32) dL_holds_899 (by decide) ?_
  refine z_iconst C (0 : Int32) dL_holds_900 (by decide) ?_
  refine z_iconst C (0 : Int32) dL_holds_901 (by decide) ?_
  obtain ⟨q902, hq902, hf⟩ := bd_some hf
  refine z_callK (K := 1) C 905 [.ref x, .int (2 : Int32), .int (2 : Int32), .int (0 : Int32), .int (0 : Int32)] [.int x18] (ct_L_call hst hq902) co_L_call ml_L_139 st_L_call ini_L ⟨by decide +kernel, by decide +kernel, by show _ = some 5; decide +kernel⟩ (by decide) (by decide) rfl (Nat.le_of_ble_eq_true rfl) ⟨by omega, by omega⟩ rfl dL_holds_902 ?_
  refine z_icmp_lt C 913 dL_holds_905 (by decide) (fun c905 => ?_) (fun c905 => ?_)
  · replace hf := ip c905 hf
    exact z_sub [0, 1, 2, 3, 4, 5, 6, 7, 8, 9, 10, 11, 12, 13, 14, 15] rfl (w_L_holds_b913 C hst hR1 hR2 hK779 ⟨by omega, by omega⟩ hf)
  · replace hf := iN c905 hf
    refine z_iload C dL_holds_908 16 rfl ?_
    refine z_if_ne C 917 dL_holds_910 (by decide) (fun c910 => ?_) (fun c910 => ?_)
    · replace hf := iN c910 hf
      exact z_sub [0, 1, 2, 3, 4, 5, 6, 7, 8, 9, 10, 11, 12, 13, 14, 15] rfl (w_L_holds_b917 C hst hR1 hR2 hK779 ⟨by omega, by omega⟩ hf)
    · replace hf := ip c910 hf
      exact z_sub [0, 1, 2, 3, 4, 5, 6, 7, 8, 9, 10, 11, 12, 13, 14, 15] rfl (w_L_holds_b913 C hst hR1 hR2 hK779 ⟨by omega, by omega⟩ hf)
def f_L_holds_b878 (n : Nat) (x1 : Int32) (x3 : Int32) (x4 : Int32) (x5 : Int32) (x6 : Int32) (x7 : Int32) (x8 : Int32) (x9 : Int32) (x10 : Int32) (x11 : Int32) (x13 : Int32) (x14 : Int32) (x15 : Int32) (x16 : Int32) (K779 : CS → Int32 → Int32 → Int32 → Option (CS × Int32))  (c : CS) (x17 : Int32) (x18 : Int32) (x19 : Int32) (x20 : Int32) : Option (CS × Int32) :=
  if x18 = x6 then (if x10 = 0 then (f_L_holds_b895 n x1 x3 x4 x5 x6 x7 x8 x9 x10 x11 x13 x14 x15 x16 K779 c x17 x18 x19) else (if x20 ≤ 0 then (f_L_holds_b917 n x1 x3 x4 x5 x6 x7 x8 x9 x10 x11 x13 x14 x15 x16 K779 c x17 x18) else (f_L_holds_b895 n x1 x3 x4 x5 x6 x7 x8 x9 x10 x11 x13 x14 x15 x16 K779 c x17 x18 x19))) else (f_L_holds_b895 n x1 x3 x4 x5 x6 x7 x8 x9 x10 x11 x13 x14 x15 x16 K779 c x17 x18 x19)
set_option maxRecDepth 100000 in
set_option maxHeartbeats 4000000 in
theorem w_L_holds_b878 {E : zE} {X : zX} {h0 : Hp} {x : Nat} {n : Nat} {x1 : Int32} {x3 : Int32} {x4 : Int32} {x5 : Int32} {x6 : Int32} {x7 : Int32} {x8 : Int32} {x9 : Int32} {x10 : Int32} {x11 : Int32} {x13 : Int32} {x14 : Int32} {x15 : Int32} {x16 : Int32} {K779 : CS → Int32 → Int32 → Int32 → Option (CS × Int32)} {fu : Nat} (C : zC E X RL cL_holds 24 (some .boolean) 18) (hst : (xl X).stackTraces = false) (hR1 : 741 ≤ (xR X).cells) (hR2 : 4446 ≤ (xR X).slots) (hK779 : ∀ (c : CS) (x12 : Int32) (x17 : Int32) (x18 : Int32) (r : (CS × Int32)) (k n9 : Nat), (k + (fu * 4 + 11) ≤ 741 ∧ n9 + (fu * 24 + 66) ≤ 4446) → K779 c x12 x17 x18 = some r → zW E X 24 k n9 (MQ (xb X) (zQ E (some (.int r.2)) (pC E h0 x r.1)) (xa X) (xs X) 741 4446 (zA E)) 779 (pC E h0 x c) [(0, .ref x), (3, .int x3), (4, .int x4), (5, .int x5), (6, .int x6), (7, .int x7), (8, .int x8), (9, .int x9), (10, .int x10), (11, .int x11), (12, .int x12), (13, .int x13), (14, .int x14), (15, .int x15), (16, .int x16), (17, .int x17), (18, .int x18)] []) {c : CS} {x17 : Int32} {x18 : Int32} {x19 : Int32} {x20 : Int32} {r : (CS × Int32)} {k n9 : Nat} (hk : (k + (fu * 4 + 12) ≤ 741 ∧ n9 + (fu * 24 + 72) ≤ 4446)) (hf : f_L_holds_b878 n x1 x3 x4 x5 x6 x7 x8 x9 x10 x11 x13 x14 x15 x16 K779 c x17 x18 x19 x20 = some r) : zW E X 24 k n9 (MQ (xb X) (zQ E (some (.int r.2)) (pC E h0 x r.1)) (xa X) (xs X) 741 4446 (zA E)) 878 (pC E h0 x c) [(0, .ref x), (3, .int x3), (4, .int x4), (5, .int x5), (6, .int x6), (7, .int x7), (8, .int x8), (9, .int x9), (10, .int x10), (11, .int x11), (13, .int x13), (14, .int x14), (15, .int x15), (16, .int x16), (17, .int x17), (18, .int x18), (19, .int x19), (20, .int x20)] [] := by
  obtain ⟨hk1, hk2⟩ := hk
  unfold f_L_holds_b878 at hf
  refine z_iload C dL_holds_878 15 rfl ?_
  refine z_iload C dL_holds_880 4 rfl ?_
  refine z_icmp_ne C 895 dL_holds_882 (by decide) (fun c882 => ?_) (fun c882 => ?_)
  · replace hf := iN c882 hf
    exact z_sub [0, 1, 2, 3, 4, 5, 6, 7, 8, 9, 10, 11, 12, 13, 14, 15, 16] rfl (w_L_holds_b895 C hst hR1 hR2 hK779 ⟨by omega, by omega⟩ hf)
  · replace hf := ip c882 hf
    refine z_iload C dL_holds_885 8 rfl ?_
    refine z_if_eq C 895 dL_holds_887 (by decide) (fun c887 => ?_) (fun c887 => ?_)
    · replace hf := ip c887 hf
      exact z_sub [0, 1, 2, 3, 4, 5, 6, 7, 8, 9, 10, 11, 12, 13, 14, 15, 16] rfl (w_L_holds_b895 C hst hR1 hR2 hK779 ⟨by omega, by omega⟩ hf)
    · replace hf := iN c887 hf
      refine z_iload C dL_holds_890 17 rfl ?_
      refine z_if_le C 917 dL_holds_892 (by decide) (fun c892 => ?_) (fun c892 => ?_)
      · replace hf := ip c892 hf
        exact z_sub [0, 1, 2, 3, 4, 5, 6, 7, 8, 9, 10, 11, 12, 13, 14, 15] rfl (w_L_holds_b917 C hst hR1 hR2 hK779 ⟨by omega, by omega⟩ hf)
      · replace hf := iN c892 hf
        exact z_sub [0, 1, 2, 3, 4, 5, 6, 7, 8, 9, 10, 11, 12, 13, 14, 15, 16] rfl (w_L_holds_b895 C hst hR1 hR2 hK779 ⟨by omega, by omega⟩ hf)
def f_L_holds_b875 (n : Nat) (x1 : Int32) (x3 : Int32) (x4 : Int32) (x5 : Int32) (x6 : Int32) (x7 : Int32) (x8 : Int32) (x9 : Int32) (x10 : Int32) (x11 : Int32) (x13 : Int32) (x14 : Int32) (x15 : Int32) (x16 : Int32) (K779 : CS → Int32 → Int32 → Int32 → Option (CS × Int32))  (c : CS) (x17 : Int32) (x18 : Int32) (x19 : Int32) (x20 : Int32) (s0 : Int32) (s1 : Int32) : Option (CS × Int32) :=
  if s1 = s0 then (f_L_holds_b878 n x1 x3 x4 x5 x6 x7 x8 x9 x10 x11 x13 x14 x15 x16 K779 c x17 x18 x19 x20) else (f_L_holds_b917 n x1 x3 x4 x5 x6 x7 x8 x9 x10 x11 x13 x14 x15 x16 K779 c x17 x18)
set_option maxRecDepth 100000 in
set_option maxHeartbeats 4000000 in
theorem w_L_holds_b875 {E : zE} {X : zX} {h0 : Hp} {x : Nat} {n : Nat} {x1 : Int32} {x3 : Int32} {x4 : Int32} {x5 : Int32} {x6 : Int32} {x7 : Int32} {x8 : Int32} {x9 : Int32} {x10 : Int32} {x11 : Int32} {x13 : Int32} {x14 : Int32} {x15 : Int32} {x16 : Int32} {K779 : CS → Int32 → Int32 → Int32 → Option (CS × Int32)} {fu : Nat} (C : zC E X RL cL_holds 24 (some .boolean) 18) (hst : (xl X).stackTraces = false) (hR1 : 741 ≤ (xR X).cells) (hR2 : 4446 ≤ (xR X).slots) (hK779 : ∀ (c : CS) (x12 : Int32) (x17 : Int32) (x18 : Int32) (r : (CS × Int32)) (k n9 : Nat), (k + (fu * 4 + 11) ≤ 741 ∧ n9 + (fu * 24 + 66) ≤ 4446) → K779 c x12 x17 x18 = some r → zW E X 24 k n9 (MQ (xb X) (zQ E (some (.int r.2)) (pC E h0 x r.1)) (xa X) (xs X) 741 4446 (zA E)) 779 (pC E h0 x c) [(0, .ref x), (3, .int x3), (4, .int x4), (5, .int x5), (6, .int x6), (7, .int x7), (8, .int x8), (9, .int x9), (10, .int x10), (11, .int x11), (12, .int x12), (13, .int x13), (14, .int x14), (15, .int x15), (16, .int x16), (17, .int x17), (18, .int x18)] []) {c : CS} {x17 : Int32} {x18 : Int32} {x19 : Int32} {x20 : Int32} {s0 : Int32} {s1 : Int32} {r : (CS × Int32)} {k n9 : Nat} (hk : (k + (fu * 4 + 12) ≤ 741 ∧ n9 + (fu * 24 + 72) ≤ 4446)) (hf : f_L_holds_b875 n x1 x3 x4 x5 x6 x7 x8 x9 x10 x11 x13 x14 x15 x16 K779 c x17 x18 x19 x20 s0 s1 = some r) : zW E X 24 k n9 (MQ (xb X) (zQ E (some (.int r.2)) (pC E h0 x r.1)) (xa X) (xs X) 741 4446 (zA E)) 875 (pC E h0 x c) [(0, .ref x), (3, .int x3), (4, .int x4), (5, .int x5), (6, .int x6), (7, .int x7), (8, .int x8), (9, .int x9), (10, .int x10), (11, .int x11), (13, .int x13), (14, .int x14), (15, .int x15), (16, .int x16), (17, .int x17), (18, .int x18), (19, .int x19), (20, .int x20)] [.int s0, .int s1] := by
  obtain ⟨hk1, hk2⟩ := hk
  unfold f_L_holds_b875 at hf
  refine z_icmp_ne C 917 dL_holds_875 (by decide) (fun c875 => ?_) (fun c875 => ?_)
  · replace hf := iN c875 hf
    exact z_sub [0, 1, 2, 3, 4, 5, 6, 7, 8, 9, 10, 11, 12, 13, 14, 15] rfl (w_L_holds_b917 C hst hR1 hR2 hK779 ⟨by omega, by omega⟩ hf)
  · replace hf := ip c875 hf
    exact z_sub [0, 1, 2, 3, 4, 5, 6, 7, 8, 9, 10, 11, 12, 13, 14, 15, 16, 17] rfl (w_L_holds_b878 C hst hR1 hR2 hK779 ⟨by omega, by omega⟩ hf)
def f_L_holds_h779 (n : Nat) (x1 : Int32) (x3 : Int32) (x4 : Int32) (x5 : Int32) (x6 : Int32) (x7 : Int32) (x8 : Int32) (x9 : Int32) (x10 : Int32) (x11 : Int32) (x13 : Int32) (x14 : Int32) (x15 : Int32) (x16 : Int32)  (K779 : CS → Int32 → Int32 → Int32 → Option (CS × Int32)) (c : CS) (x12 : Int32) (x17 : Int32) (x18 : Int32) : Option (CS × Int32) :=
  if (4 : Int32) ≤ x18 then (f_L_holds_b926 n x1 c x3 x4 x5 x7 x8 x9 x10 x11 x12 x13 x14 x15 x17) else (if x12 = 0 then (f_L_holds_b926 n x1 c x3 x4 x5 x7 x8 x9 x10 x11 x12 x13 x14 x15 x17) else ((f_L_call n c (5 : Int32) x18 (0 : Int32) (0 : Int32)).bind (fun q796 => (f_L_call n q796.1 (12 : Int32) x18 x16 (0 : Int32)).bind (fun q809 => if q809.2 < 0 then (f_L_holds_b917 n x1 x3 x4 x5 x6 x7 x8 x9 x10 x11 x13 x14 x15 x16 K779 q809.1 (x17 + q796.2) x18) else (if x16 < q809.2 then (f_L_holds_b917 n x1 x3 x4 x5 x6 x7 x8 x9 x10 x11 x13 x14 x15 x16 K779 q809.1 (x17 + q796.2) x18) else (if q796.2 < q809.2 then (f_L_holds_b917 n x1 x3 x4 x5 x6 x7 x8 x9 x10 x11 x13 x14 x15 x16 K779 q809.1 (x17 + q796.2) x18) else (if x16 = (1 : Int32) then (f_L_holds_b878 n x1 x3 x4 x5 x6 x7 x8 x9 x10 x11 x13 x14 x15 x16 K779 q809.1 (x17 + q796.2) x18 q796.2 q809.2) else ((f_L_call n q809.1 (12 : Int32) x18 (x16 - (1 : Int32)) (0 : Int32)).bind (fun q856 => if x16 ≤ q809.2 then (f_L_holds_b875 n x1 x3 x4 x5 x6 x7 x8 x9 x10 x11 x13 x14 x15 x16 K779 q856.1 (x17 + q796.2) x18 q796.2 q809.2 (x16 - (1 : Int32)) q856.2) else (f_L_holds_b875 n x1 x3 x4 x5 x6 x7 x8 x9 x10 x11 x13 x14 x15 x16 K779 q856.1 (x17 + q796.2) x18 q796.2 q809.2 q809.2 q856.2))))))))))
set_option maxRecDepth 100000 in
set_option maxHeartbeats 4000000 in
theorem w_L_holds_h779 {E : zE} {X : zX} {h0 : Hp} {x : Nat} {n : Nat} {x1 : Int32} {x3 : Int32} {x4 : Int32} {x5 : Int32} {x6 : Int32} {x7 : Int32} {x8 : Int32} {x9 : Int32} {x10 : Int32} {x11 : Int32} {x13 : Int32} {x14 : Int32} {x15 : Int32} {x16 : Int32}  (C : zC E X RL cL_holds 24 (some .boolean) 18) (hst : (xl X).stackTraces = false) (hR1 : 741 ≤ (xR X).cells) (hR2 : 4446 ≤ (xR X).slots)  : ∀ (fu : Nat) (c : CS) (x12 : Int32) (x17 : Int32) (x18 : Int32) (r : (CS × Int32)), lo4 (f_L_holds_h779 n x1 x3 x4 x5 x6 x7 x8 x9 x10 x11 x13 x14 x15 x16) fu c x12 x17 x18 = some r → ∀ k n9 : Nat, (k + (fu * 4 + 11) ≤ 741 ∧ n9 + (fu * 24 + 66) ≤ 4446) → zW E X 24 k n9 (MQ (xb X) (zQ E (some (.int r.2)) (pC E h0 x r.1)) (xa X) (xs X) 741 4446 (zA E)) 779 (pC E h0 x c) [(0, .ref x), (3, .int x3), (4, .int x4), (5, .int x5), (6, .int x6), (7, .int x7), (8, .int x8), (9, .int x9), (10, .int x10), (11, .int x11), (12, .int x12), (13, .int x13), (14, .int x14), (15, .int x15), (16, .int x16), (17, .int x17), (18, .int x18)] [] := by
  refine lo4_indq (Z := fun (fu : Nat) (c : CS) (x12 : Int32) (x17 : Int32) (x18 : Int32) (r : (CS × Int32)) => ∀ k n9 : Nat, (k + (fu * 4 + 11) ≤ 741 ∧ n9 + (fu * 24 + 66) ≤ 4446) → zW E X 24 k n9 (MQ (xb X) (zQ E (some (.int r.2)) (pC E h0 x r.1)) (xa X) (xs X) 741 4446 (zA E)) 779 (pC E h0 x c) [(0, .ref x), (3, .int x3), (4, .int x4), (5, .int x5), (6, .int x6), (7, .int x7), (8, .int x8), (9, .int x9), (10, .int x10), (11, .int x11), (12, .int x12), (13, .int x13), (14, .int x14), (15, .int x15), (16, .int x16), (17, .int x17), (18, .int x18)] []) ?_
  intro fu K779 hK0 c x12 x17 x18 r hf k n9 hk
  have hK779 : ∀ (c : CS) (x12 : Int32) (x17 : Int32) (x18 : Int32) (r : (CS × Int32)) (k n9 : Nat), (k + (fu * 4 + 11) ≤ 741 ∧ n9 + (fu * 24 + 66) ≤ 4446) → K779 c x12 x17 x18 = some r → zW E X 24 k n9 (MQ (xb X) (zQ E (some (.int r.2)) (pC E h0 x r.1)) (xa X) (xs X) 741 4446 (zA E)) 779 (pC E h0 x c) [(0, .ref x), (3, .int x3), (4, .int x4), (5, .int x5), (6, .int x6), (7, .int x7), (8, .int x8), (9, .int x9), (10, .int x10), (11, .int x11), (12, .int x12), (13, .int x13), (14, .int x14), (15, .int x15), (16, .int x16), (17, .int x17), (18, .int x18)] [] := fun c x12 x17 x18 r k n9 hk hq => hK0 c x12 x17 x18 r hq k n9 hk
  clear hK0
  obtain ⟨hk1, hk2⟩ := hk
  unfold f_L_holds_h779 at hf
  refine z_iload C dL_holds_779 16 rfl ?_
  refine z_iconst C (4 : Int32) dL_holds_781 (by decide) ?_
  refine z_icmp_ge C 926 dL_holds_782 (by decide) (fun c782 => ?_) (fun c782 => ?_)
  · replace hf := ip c782 hf
    exact z_sub [0, 1, 2, 3, 5, 6, 7, 8, 9, 10, 11, 12, 13, 15] rfl (w_L_holds_b926 C hst hR1 hR2 ⟨by omega, by omega⟩ hf)
  · replace hf := iN c782 hf
    refine z_iload C dL_holds_785 10 rfl ?_
    refine z_if_eq C 926 dL_holds_787 (by decide) (fun c787 => ?_) (fun c787 => ?_)
    · replace hf := ip c787 hf
      exact z_sub [0, 1, 2, 3, 5, 6, 7, 8, 9, 10, 11, 12, 13, 15] rfl (w_L_holds_b926 C hst hR1 hR2 ⟨by omega, by omega⟩ hf)
    · replace hf := iN c787 hf
      refine z_aload_n C dL_holds_790 0 rfl ?_
      refine z_iconst C (5 : Int32) dL_holds_791 (by decide) ?_
      refine z_iload C dL_holds_792 16 rfl ?_
      refine z_iconst C (0 : Int32) dL_holds_794 (by decide) ?_
      refine z_iconst C (0 : Int32) dL_holds_795 (by decide) ?_
      obtain ⟨q796, hq796, hf⟩ := bd_some hf
      refine z_callK (K := 1) C 799 [.ref x, .int (5 : Int32), .int x18, .int (0 : Int32), .int (0 : Int32)] [] (ct_L_call hst hq796) co_L_call ml_L_139 st_L_call ini_L ⟨by decide +kernel, by decide +kernel, by show _ = some 5; decide +kernel⟩ (by decide) (by decide) rfl (Nat.le_of_ble_eq_true rfl) ⟨by omega, by omega⟩ rfl dL_holds_796 ?_
      refine z_istore (lv' := [(19, .int q796.2), (0, .ref x), (3, .int x3), (4, .int x4), (5, .int x5), (6, .int x6), (7, .int x7), (8, .int x8), (9, .int x9), (10, .int x10), (11, .int x11), (12, .int x12), (13, .int x13), (14, .int x14), (15, .int x15), (16, .int x16), (17, .int x17), (18, .int x18)]) C dL_holds_799 (by decide) rfl ?_
      refine z_aload_n C dL_holds_801 1 rfl ?_
      refine z_bipush C (12 : Int32) dL_holds_802 (by decide) ?_
      refine z_iload C dL_holds_804 17 rfl ?_
      refine z_iload C dL_holds_806 15 rfl ?_
      refine z_iconst C (0 : Int32) dL_holds_808 (by decide) ?_
      obtain ⟨q809, hq809, hf⟩ := bd_some hf
      refine z_callK (K := 1) C 812 [.ref x, .int (12 : Int32), .int x18, .int x16, .int (0 : Int32)] [] (ct_L_call hst hq809) co_L_call ml_L_139 st_L_call ini_L ⟨by decide +kernel, by decide +kernel, by show _ = some 5; decide +kernel⟩ (by decide) (by decide) rfl (Nat.le_of_ble_eq_true rfl) ⟨by omega, by omega⟩ rfl dL_holds_809 ?_
      refine z_istore (lv' := [(20, .int q809.2), (19, .int q796.2), (0, .ref x), (3, .int x3), (4, .int x4), (5, .int x5), (6, .int x6), (7, .int x7), (8, .int x8), (9, .int x9), (10, .int x10), (11, .int x11), (12, .int x12), (13, .int x13), (14, .int x14), (15, .int x15), (16, .int x16), (17, .int x17), (18, .int x18)]) C dL_holds_812 (by decide) rfl ?_
      refine z_iload C dL_holds_814 17 rfl ?_
      refine z_iload C dL_holds_816 1 rfl ?_
      refine z_iadd C dL_holds_818 ?_
      refine z_istore (lv' := [(17, .int (x17 + q796.2)), (20, .int q809.2), (19, .int q796.2), (0, .ref x), (3, .int x3), (4, .int x4), (5, .int x5), (6, .int x6), (7, .int x7), (8, .int x8), (9, .int x9), (10, .int x10), (11, .int x11), (12, .int x12), (13, .int x13), (14, .int x14), (15, .int x15), (16, .int x16), (18, .int x18)]) C dL_holds_819 (by decide) rfl ?_
      refine z_iload C dL_holds_821 1 rfl ?_
      refine z_if_lt C 917 dL_holds_823 (by decide) (fun c823 => ?_) (fun c823 => ?_)
      · replace hf := ip c823 hf
        exact z_sub [3, 4, 5, 6, 7, 8, 9, 10, 11, 12, 14, 15, 16, 17, 0, 18] rfl (w_L_holds_b917 C hst hR1 hR2 hK779 ⟨by omega, by omega⟩ hf)
      · replace hf := iN c823 hf
        refine z_iload C dL_holds_826 1 rfl ?_
        refine z_iload C dL_holds_828 17 rfl ?_
        refine z_icmp_gt C 917 dL_holds_830 (by decide) (fun c830 => ?_) (fun c830 => ?_)
        · replace hf := ip c830 hf
          exact z_sub [3, 4, 5, 6, 7, 8, 9, 10, 11, 12, 14, 15, 16, 17, 0, 18] rfl (w_L_holds_b917 C hst hR1 hR2 hK779 ⟨by omega, by omega⟩ hf)
        · replace hf := iN c830 hf
          refine z_iload C dL_holds_833 1 rfl ?_
          refine z_iload C dL_holds_835 2 rfl ?_
          refine z_icmp_gt C 917 dL_holds_837 (by decide) (fun c837 => ?_) (fun c837 => ?_)
          · replace hf := ip c837 hf
            exact z_sub [3, 4, 5, 6, 7, 8, 9, 10, 11, 12, 14, 15, 16, 17, 0, 18] rfl (w_L_holds_b917 C hst hR1 hR2 hK779 ⟨by omega, by omega⟩ hf)
          · replace hf := iN c837 hf
            refine z_iload C dL_holds_840 17 rfl ?_
            refine z_iconst C (1 : Int32) dL_holds_842 (by decide) ?_
            refine z_icmp_eq C 878 dL_holds_843 (by decide) (fun c843 => ?_) (fun c843 => ?_)
            · replace hf := ip c843 hf
              exact z_sub [3, 4, 5, 6, 7, 8, 9, 10, 11, 12, 14, 15, 16, 17, 0, 18, 2, 1] rfl (w_L_holds_b878 C hst hR1 hR2 hK779 ⟨by omega, by omega⟩ hf)
            · replace hf := iN c843 hf
              refine z_aload_n C dL_holds_846 3 rfl ?_
              refine z_bipush C (12 : Int32) dL_holds_847 (by decide) ?_
              refine z_iload C dL_holds_849 18 rfl ?_
              refine z_iload C dL_holds_851 17 rfl ?_
              refine z_iconst C (1 : Int32) dL_holds_853 (by decide) ?_
              refine z_isub C dL_holds_854 ?_
              refine z_iconst C (0 : Int32) dL_holds_855 (by decide) ?_
              obtain ⟨q856, hq856, hf⟩ := bd_some hf
              refine z_callK (K := 1) C 859 [.ref x, .int (12 : Int32), .int x18, .int (x16 - (1 : Int32)), .int (0 : Int32)] [] (ct_L_call hst hq856) co_L_call ml_L_139 st_L_call ini_L ⟨by decide +kernel, by decide +kernel, by show _ = some 5; decide +kernel⟩ (by decide) (by decide) rfl (Nat.le_of_ble_eq_true rfl) ⟨by omega, by omega⟩ rfl dL_holds_856 ?_
              refine z_iload C dL_holds_859 1 rfl ?_
              refine z_iload C dL_holds_861 17 rfl ?_
              refine z_icmp_ge C 871 dL_holds_863 (by decide) (fun c863 => ?_) (fun c863 => ?_)
              · replace hf := ip c863 hf
                refine z_iload C dL_holds_871 17 rfl ?_
                refine z_iconst C (1 : Int32) dL_holds_873 (by decide) ?_
                refine z_isub C dL_holds_874 ?_
                exact z_sub [3, 4, 5, 6, 7, 8, 9, 10, 11, 12, 14, 15, 16, 17, 0, 18, 2, 1] rfl (w_L_holds_b875 C hst hR1 hR2 hK779 ⟨by omega, by omega⟩ hf)
              · replace hf := iN c863 hf
                refine z_iload C dL_holds_866 1 rfl ?_
                refine z_goto C 875 dL_holds_868 (by decide) ?_
                exact z_sub [3, 4, 5, 6, 7, 8, 9, 10, 11, 12, 14, 15, 16, 17, 0, 18, 2, 1] rfl (w_L_holds_b875 C hst hR1 hR2 hK779 ⟨by omega, by omega⟩ hf)
def f_L_holds_b765 (n : Nat) (x1 : Int32)   (c : CS) (x3 : Int32) (x4 : Int32) (x5 : Int32) (x6 : Int32) (x7 : Int32) (x8 : Int32) (x9 : Int32) (x10 : Int32) (x11 : Int32) (x12 : Int32) (x13 : Int32) (x14 : Int32) (x15 : Int32) : Option (CS × Int32) :=
  chk (¬ (6 : Int32) = 0) (lo4 (f_L_holds_h779 n x1 x3 x4 x5 x6 x7 x8 x9 x10 x11 x13 x14 x15 ((1 : Int32) + (jrem x1 (6 : Int32)))) 29 c x12 (0 : Int32) (0 : Int32))
set_option maxRecDepth 100000 in
set_option maxHeartbeats 4000000 in
theorem w_L_holds_b765 {E : zE} {X : zX} {h0 : Hp} {x : Nat} {n : Nat} {x1 : Int32}  (C : zC E X RL cL_holds 24 (some .boolean) 18) (hst : (xl X).stackTraces = false) (hR1 : 741 ≤ (xR X).cells) (hR2 : 4446 ≤ (xR X).slots)  {c : CS} {x3 : Int32} {x4 : Int32} {x5 : Int32} {x6 : Int32} {x7 : Int32} {x8 : Int32} {x9 : Int32} {x10 : Int32} {x11 : Int32} {x12 : Int32} {x13 : Int32} {x14 : Int32} {x15 : Int32} {r : (CS × Int32)} {k n9 : Nat} (hk : (k + 127 ≤ 741 ∧ n9 + 762 ≤ 4446)) (hf : f_L_holds_b765 n x1 c x3 x4 x5 x6 x7 x8 x9 x10 x11 x12 x13 x14 x15 = some r) : zW E X 24 k n9 (MQ (xb X) (zQ E (some (.int r.2)) (pC E h0 x r.1)) (xa X) (xs X) 741 4446 (zA E)) 765 (pC E h0 x c) [(0, .ref x), (1, .int x1), (3, .int x3), (4, .int x4), (5, .int x5), (6, .int x6), (7, .int x7), (8, .int x8), (9, .int x9), (10, .int x10), (11, .int x11), (12, .int x12), (13, .int x13), (14, .int x14), (15, .int x15)] [] := by
  obtain ⟨hk1, hk2⟩ := hk
  unfold f_L_holds_b765 at hf
  refine z_iconst C (1 : Int32) dL_holds_765 (by decide) ?_
  refine z_iload_n C dL_holds_766 1 rfl ?_
  refine z_bipush C (6 : Int32) dL_holds_767 (by decide) ?_
  obtain ⟨c769, hf⟩ := chk_some hf
  refine z_irem C dL_holds_769 c769 ?_
  refine z_iadd C dL_holds_770 ?_
  refine z_istore (lv' := [(16, .int ((1 : Int32) + (jrem x1 (6 : Int32)))), (0, .ref x), (1, .int x1), (3, .int x3), (4, .int x4), (5, .int x5), (6, .int x6), (7, .int x7), (8, .int x8), (9, .int x9), (10, .int x10), (11, .int x11), (12, .int x12), (13, .int x13), (14, .int x14), (15, .int x15)]) C dL_holds_771 (by decide) rfl ?_
  refine z_iconst C (0 : Int32) dL_holds_773 (by decide) ?_
  refine z_istore (lv' := [(17, .int (0 : Int32)), (16, .int ((1 : Int32) + (jrem x1 (6 : Int32)))), (0, .ref x), (1, .int x1), (3, .int x3), (4, .int x4), (5, .int x5), (6, .int x6), (7, .int x7), (8, .int x8), (9, .int x9), (10, .int x10), (11, .int x11), (12, .int x12), (13, .int x13), (14, .int x14), (15, .int x15)]) C dL_holds_774 (by decide) rfl ?_
  refine z_iconst C (0 : Int32) dL_holds_776 (by decide) ?_
  refine z_istore (lv' := [(18, .int (0 : Int32)), (17, .int (0 : Int32)), (16, .int ((1 : Int32) + (jrem x1 (6 : Int32)))), (0, .ref x), (1, .int x1), (3, .int x3), (4, .int x4), (5, .int x5), (6, .int x6), (7, .int x7), (8, .int x8), (9, .int x9), (10, .int x10), (11, .int x11), (12, .int x12), (13, .int x13), (14, .int x14), (15, .int x15)]) C dL_holds_777 (by decide) rfl ?_
  exact z_sub [3, 5, 6, 7, 8, 9, 10, 11, 12, 13, 14, 15, 16, 17, 2, 1, 0] rfl (w_L_holds_h779 C hst hR1 hR2 29 _ _ _ _ _ hf _ _ ⟨by omega, by omega⟩)
def f_L_holds_b752 (n : Nat) (x1 : Int32) (x3 : Int32) (x4 : Int32) (x5 : Int32) (x6 : Int32) (x7 : Int32) (x8 : Int32) (x9 : Int32) (x10 : Int32) (x11 : Int32) (K491 : CS → Int32 → Int32 → Int32 → Int32 → Int32 → Option (CS × Int32))  (c : CS) (x12 : Int32) (x13 : Int32) (x16 : Int32) (x18 : Int32) (s0 : Int32) (s1 : Int32) : Option (CS × Int32) :=
  K491 c x12 x13 x18 (s1 + s0) (x16 + 1)
set_option maxRecDepth 100000 in
set_option maxHeartbeats 4000000 in
theorem w_L_holds_b752 {E : zE} {X : zX} {h0 : Hp} {x : Nat} {n : Nat} {x1 : Int32} {x3 : Int32} {x4 : Int32} {x5 : Int32} {x6 : Int32} {x7 : Int32} {x8 : Int32} {x9 : Int32} {x10 : Int32} {x11 : Int32} {K491 : CS → Int32 → Int32 → Int32 → Int32 → Int32 → Option (CS × Int32)} {fu : Nat} (C : zC E X RL cL_holds 24 (some .boolean) 18) (hst : (xl X).stackTraces = false) (hR1 : 741 ≤ (xR X).cells) (hR2 : 4446 ≤ (xR X).slots) (hK491 : ∀ (c : CS) (x12 : Int32) (x13 : Int32) (x14 : Int32) (x15 : Int32) (x16 : Int32) (r : (CS × Int32)) (k n9 : Nat), (k + (fu * 10 + 127) ≤ 741 ∧ n9 + (fu * 60 + 762) ≤ 4446) → K491 c x12 x13 x14 x15 x16 = some r → zW E X 24 k n9 (MQ (xb X) (zQ E (some (.int r.2)) (pC E h0 x r.1)) (xa X) (xs X) 741 4446 (zA E)) 491 (pC E h0 x c) [(0, .ref x), (1, .int x1), (3, .int x3), (4, .int x4), (5, .int x5), (6, .int x6), (7, .int x7), (8, .int x8), (9, .int x9), (10, .int x10), (11, .int x11), (12, .int x12), (13, .int x13), (14, .int x14), (15, .int x15), (16, .int x16)] []) {c : CS} {x12 : Int32} {x13 : Int32} {x16 : Int32} {x18 : Int32} {s0 : Int32} {s1 : Int32} {r : (CS × Int32)} {k n9 : Nat} (hk : (k + (fu * 10 + 127) ≤ 741 ∧ n9 + (fu * 60 + 762) ≤ 4446)) (hf : f_L_holds_b752 n x1 x3 x4 x5 x6 x7 x8 x9 x10 x11 K491 c x12 x13 x16 x18 s0 s1 = some r) : zW E X 24 k n9 (MQ (xb X) (zQ E (some (.int r.2)) (pC E h0 x r.1)) (xa X) (xs X) 741 4446 (zA E)) 752 (pC E h0 x c) [(0, .ref x), (1, .int x1), (3, .int x3), (4, .int x4), (5, .int x5), (6, .int x6), (7, .int x7), (8, .int x8), (9, .int x9), (10, .int x10), (11, .int x11), (12, .int x12), (13, .int x13), (16, .int x16), (18, .int x18)] [.int s0, .int s1] := by
  obtain ⟨hk1, hk2⟩ := hk
  unfold f_L_holds_b752 at hf
  refine z_iadd C dL_holds_752 ?_
  refine z_istore (lv' := [(15, .int (s1 + s0)), (0, .ref x), (1, .int x1), (3, .int x3), (4, .int x4), (5, .int x5), (6, .int x6), (7, .int x7), (8, .int x8), (9, .int x9), (10, .int x10), (11, .int x11), (12, .int x12), (13, .int x13), (16, .int x16), (18, .int x18)]) C dL_holds_753 (by decide) rfl ?_
  refine z_iload C dL_holds_755 15 rfl ?_
  refine z_istore (lv' := [(14, .int x18), (15, .int (s1 + s0)), (0, .ref x), (1, .int x1), (3, .int x3), (4, .int x4), (5, .int x5), (6, .int x6), (7, .int x7), (8, .int x8), (9, .int x9), (10, .int x10), (11, .int x11), (12, .int x12), (13, .int x13), (16, .int x16), (18, .int x18)]) C dL_holds_757 (by decide) rfl ?_
  refine z_iinc (lv' := [(16, .int (x16 + 1)), (14, .int x18), (15, .int (s1 + s0)), (0, .ref x), (1, .int x1), (3, .int x3), (4, .int x4), (5, .int x5), (6, .int x6), (7, .int x7), (8, .int x8), (9, .int x9), (10, .int x10), (11, .int x11), (12, .int x12), (13, .int x13), (18, .int x18)]) C dL_holds_759 15 (x16 + 1) rfl rfl (by decide) rfl ?_
  refine z_goto C 491 dL_holds_762 (by decide) ?_
  exact z_sub [3, 4, 5, 6, 7, 8, 9, 10, 11, 12, 13, 14, 15, 1, 2, 0] rfl (hK491 _ _ _ _ _ _ _ _ _ ⟨by omega, by omega⟩ hf)
def f_L_holds_b736 (n : Nat) (x1 : Int32) (x3 : Int32) (x4 : Int32) (x5 : Int32) (x6 : Int32) (x7 : Int32) (x8 : Int32) (x9 : Int32) (x10 : Int32) (x11 : Int32) (K491 : CS → Int32 → Int32 → Int32 → Int32 → Int32 → Option (CS × Int32))  (c : CS) (x13 : Int32) (x15 : Int32) (x16 : Int32) (x17 : Int32) (x18 : Int32) (s0 : Int32) : Option (CS × Int32) :=
  if x17 = x18 then (f_L_holds_b752 n x1 x3 x4 x5 x6 x7 x8 x9 x10 x11 K491 c s0 x13 x16 x18 (1 : Int32) x15) else (f_L_holds_b752 n x1 x3 x4 x5 x6 x7 x8 x9 x10 x11 K491 c s0 x13 x16 x18 (0 : Int32) x15)
set_option maxRecDepth 100000 in
set_option maxHeartbeats 4000000 in
theorem w_L_holds_b736 {E : zE} {X : zX} {h0 : Hp} {x : Nat} {n : Nat} {x1 : Int32} {x3 : Int32} {x4 : Int32} {x5 : Int32} {x6 : Int32} {x7 : Int32} {x8 : Int32} {x9 : Int32} {x10 : Int32} {x11 : Int32} {K491 : CS → Int32 → Int32 → Int32 → Int32 → Int32 → Option (CS × Int32)} {fu : Nat} (C : zC E X RL cL_holds 24 (some .boolean) 18) (hst : (xl X).stackTraces = false) (hR1 : 741 ≤ (xR X).cells) (hR2 : 4446 ≤ (xR X).slots) (hK491 : ∀ (c : CS) (x12 : Int32) (x13 : Int32) (x14 : Int32) (x15 : Int32) (x16 : Int32) (r : (CS × Int32)) (k n9 : Nat), (k + (fu * 10 + 127) ≤ 741 ∧ n9 + (fu * 60 + 762) ≤ 4446) → K491 c x12 x13 x14 x15 x16 = some r → zW E X 24 k n9 (MQ (xb X) (zQ E (some (.int r.2)) (pC E h0 x r.1)) (xa X) (xs X) 741 4446 (zA E)) 491 (pC E h0 x c) [(0, .ref x), (1, .int x1), (3, .int x3), (4, .int x4), (5, .int x5), (6, .int x6), (7, .int x7), (8, .int x8), (9, .int x9), (10, .int x10), (11, .int x11), (12, .int x12), (13, .int x13), (14, .int x14), (15, .int x15), (16, .int x16)] []) {c : CS} {x13 : Int32} {x15 : Int32} {x16 : Int32} {x17 : Int32} {x18 : Int32} {s0 : Int32} {r : (CS × Int32)} {k n9 : Nat} (hk : (k + (fu * 10 + 127) ≤ 741 ∧ n9 + (fu * 60 + 762) ≤ 4446)) (hf : f_L_holds_b736 n x1 x3 x4 x5 x6 x7 x8 x9 x10 x11 K491 c x13 x15 x16 x17 x18 s0 = some r) : zW E X 24 k n9 (MQ (xb X) (zQ E (some (.int r.2)) (pC E h0 x r.1)) (xa X) (xs X) 741 4446 (zA E)) 736 (pC E h0 x c) [(0, .ref x), (1, .int x1), (3, .int x3), (4, .int x4), (5, .int x5), (6, .int x6), (7, .int x7), (8, .int x8), (9, .int x9), (10, .int x10), (11, .int x11), (13, .int x13), (15, .int x15), (16, .int x16), (17, .int x17), (18, .int x18)] [.int s0] := by
  obtain ⟨hk1, hk2⟩ := hk
  unfold f_L_holds_b736 at hf
  refine z_istore (lv' := [(12, .int s0), (0, .ref x), (1, .int x1), (3, .int x3), (4, .int x4), (5, .int x5), (6, .int x6), (7, .int x7), (8, .int x8), (9, .int x9), (10, .int x10), (11, .int x11), (13, .int x13), (15, .int x15), (16, .int x16), (17, .int x17), (18, .int x18)]) C dL_holds_736 (by decide) rfl ?_
  refine z_iload C dL_holds_738 13 rfl ?_
  refine z_iload C dL_holds_740 15 rfl ?_
  refine z_iload C dL_holds_742 16 rfl ?_
  refine z_icmp_ne C 751 dL_holds_744 (by decide) (fun c744 => ?_) (fun c744 => ?_)
  · replace hf := iN c744 hf
    refine z_iconst C (0 : Int32) dL_holds_751 (by decide) ?_
    exact z_sub [1, 2, 3, 4, 5, 6, 7, 8, 9, 10, 11, 0, 12, 14, 16] rfl (w_L_holds_b752 C hst hR1 hR2 hK491 ⟨by omega, by omega⟩ hf)
  · replace hf := ip c744 hf
    refine z_iconst C (1 : Int32) dL_holds_747 (by decide) ?_
    refine z_goto C 752 dL_holds_748 (by decide) ?_
    exact z_sub [1, 2, 3, 4, 5, 6, 7, 8, 9, 10, 11, 0, 12, 14, 16] rfl (w_L_holds_b752 C hst hR1 hR2 hK491 ⟨by omega, by omega⟩ hf)
def f_L_holds_b735 (n : Nat) (x1 : Int32) (x3 : Int32) (x4 : Int32) (x5 : Int32) (x6 : Int32) (x7 : Int32) (x8 : Int32) (x9 : Int32) (x10 : Int32) (x11 : Int32) (K491 : CS → Int32 → Int32 → Int32 → Int32 → Int32 → Option (CS × Int32))  (c : CS) (x13 : Int32) (x15 : Int32) (x16 : Int32) (x17 : Int32) (x18 : Int32) : Option (CS × Int32) :=
  f_L_holds_b736 n x1 x3 x4 x5 x6 x7 x8 x9 x10 x11 K491 c x13 x15 x16 x17 x18 (0 : Int32)
set_option maxRecDepth 100000 in
set_option maxHeartbeats 4000000 in
theorem w_L_holds_b735 {E : zE} {X : zX} {h0 : Hp} {x : Nat} {n : Nat} {x1 : Int32} {x3 : Int32} {x4 : Int32} {x5 : Int32} {x6 : Int32} {x7 : Int32} {x8 : Int32} {x9 : Int32} {x10 : Int32} {x11 : Int32} {K491 : CS → Int32 → Int32 → Int32 → Int32 → Int32 → Option (CS × Int32)} {fu : Nat} (C : zC E X RL cL_holds 24 (some .boolean) 18) (hst : (xl X).stackTraces = false) (hR1 : 741 ≤ (xR X).cells) (hR2 : 4446 ≤ (xR X).slots) (hK491 : ∀ (c : CS) (x12 : Int32) (x13 : Int32) (x14 : Int32) (x15 : Int32) (x16 : Int32) (r : (CS × Int32)) (k n9 : Nat), (k + (fu * 10 + 127) ≤ 741 ∧ n9 + (fu * 60 + 762) ≤ 4446) → K491 c x12 x13 x14 x15 x16 = some r → zW E X 24 k n9 (MQ (xb X) (zQ E (some (.int r.2)) (pC E h0 x r.1)) (xa X) (xs X) 741 4446 (zA E)) 491 (pC E h0 x c) [(0, .ref x), (1, .int x1), (3, .int x3), (4, .int x4), (5, .int x5), (6, .int x6), (7, .int x7), (8, .int x8), (9, .int x9), (10, .int x10), (11, .int x11), (12, .int x12), (13, .int x13), (14, .int x14), (15, .int x15), (16, .int x16)] []) {c : CS} {x13 : Int32} {x15 : Int32} {x16 : Int32} {x17 : Int32} {x18 : Int32} {r : (CS × Int32)} {k n9 : Nat} (hk : (k + (fu * 10 + 127) ≤ 741 ∧ n9 + (fu * 60 + 762) ≤ 4446)) (hf : f_L_holds_b735 n x1 x3 x4 x5 x6 x7 x8 x9 x10 x11 K491 c x13 x15 x16 x17 x18 = some r) : zW E X 24 k n9 (MQ (xb X) (zQ E (some (.int r.2)) (pC E h0 x r.1)) (xa X) (xs X) 741 4446 (zA E)) 735 (pC E h0 x c) [(0, .ref x), (1, .int x1), (3, .int x3), (4, .int x4), (5, .int x5), (6, .int x6), (7, .int x7), (8, .int x8), (9, .int x9), (10, .int x10), (11, .int x11), (13, .int x13), (15, .int x15), (16, .int x16), (17, .int x17), (18, .int x18)] [] := by
  obtain ⟨hk1, hk2⟩ := hk
  unfold f_L_holds_b735 at hf
  refine z_iconst C (0 : Int32) dL_holds_735 (by decide) ?_
  exact z_sub [0, 1, 2, 3, 4, 5, 6, 7, 8, 9, 10, 11, 12, 13, 14, 15] rfl (w_L_holds_b736 C hst hR1 hR2 hK491 ⟨by omega, by omega⟩ hf)
def f_L_holds_b731 (n : Nat) (x1 : Int32) (x3 : Int32) (x4 : Int32) (x5 : Int32) (x6 : Int32) (x7 : Int32) (x8 : Int32) (x9 : Int32) (x10 : Int32) (x11 : Int32) (K491 : CS → Int32 → Int32 → Int32 → Int32 → Int32 → Option (CS × Int32))  (c : CS) (x13 : Int32) (x15 : Int32) (x16 : Int32) (x17 : Int32) (x18 : Int32) : Option (CS × Int32) :=
  f_L_holds_b736 n x1 x3 x4 x5 x6 x7 x8 x9 x10 x11 K491 c x13 x15 x16 x17 x18 (1 : Int32)
set_option maxRecDepth 100000 in
set_option maxHeartbeats 4000000 in
theorem w_L_holds_b731 {E : zE} {X : zX} {h0 : Hp} {x : Nat} {n : Nat} {x1 : Int32} {x3 : Int32} {x4 : Int32} {x5 : Int32} {x6 : Int32} {x7 : Int32} {x8 : Int32} {x9 : Int32} {x10 : Int32} {x11 : Int32} {K491 : CS → Int32 → Int32 → Int32 → Int32 → Int32 → Option (CS × Int32)} {fu : Nat} (C : zC E X RL cL_holds 24 (some .boolean) 18) (hst : (xl X).stackTraces = false) (hR1 : 741 ≤ (xR X).cells) (hR2 : 4446 ≤ (xR X).slots) (hK491 : ∀ (c : CS) (x12 : Int32) (x13 : Int32) (x14 : Int32) (x15 : Int32) (x16 : Int32) (r : (CS × Int32)) (k n9 : Nat), (k + (fu * 10 + 127) ≤ 741 ∧ n9 + (fu * 60 + 762) ≤ 4446) → K491 c x12 x13 x14 x15 x16 = some r → zW E X 24 k n9 (MQ (xb X) (zQ E (some (.int r.2)) (pC E h0 x r.1)) (xa X) (xs X) 741 4446 (zA E)) 491 (pC E h0 x c) [(0, .ref x), (1, .int x1), (3, .int x3), (4, .int x4), (5, .int x5), (6, .int x6), (7, .int x7), (8, .int x8), (9, .int x9), (10, .int x10), (11, .int x11), (12, .int x12), (13, .int x13), (14, .int x14), (15, .int x15), (16, .int x16)] []) {c : CS} {x13 : Int32} {x15 : Int32} {x16 : Int32} {x17 : Int32} {x18 : Int32} {r : (CS × Int32)} {k n9 : Nat} (hk : (k + (fu * 10 + 127) ≤ 741 ∧ n9 + (fu * 60 + 762) ≤ 4446)) (hf : f_L_holds_b731 n x1 x3 x4 x5 x6 x7 x8 x9 x10 x11 K491 c x13 x15 x16 x17 x18 = some r) : zW E X 24 k n9 (MQ (xb X) (zQ E (some (.int r.2)) (pC E h0 x r.1)) (xa X) (xs X) 741 4446 (zA E)) 731 (pC E h0 x c) [(0, .ref x), (1, .int x1), (3, .int x3), (4, .int x4), (5, .int x5), (6, .int x6), (7, .int x7), (8, .int x8), (9, .int x9), (10, .int x10), (11, .int x11), (13, .int x13), (15, .int x15), (16, .int x16), (17, .int x17), (18, .int x18)] [] := by
  obtain ⟨hk1, hk2⟩ := hk
  unfold f_L_holds_b731 at hf
  refine z_iconst C (1 : Int32) dL_holds_731 (by decide) ?_
  refine z_goto C 736 dL_holds_732 (by decide) ?_
  exact z_sub [0, 1, 2, 3, 4, 5, 6, 7, 8, 9, 10, 11, 12, 13, 14, 15] rfl (w_L_holds_b736 C hst hR1 hR2 hK491 ⟨by omega, by omega⟩ hf)
def f_L_holds_b725 (n : Nat) (x1 : Int32) (x3 : Int32) (x4 : Int32) (x5 : Int32) (x6 : Int32) (x7 : Int32) (x8 : Int32) (x9 : Int32) (x10 : Int32) (x11 : Int32) (K491 : CS → Int32 → Int32 → Int32 → Int32 → Int32 → Option (CS × Int32))  (c : CS) (x13 : Int32) (x15 : Int32) (x16 : Int32) (x17 : Int32) (x18 : Int32) (s0 : Int32) (s1 : Int32) (s2 : Int32) (s3 : Int32) (s4 : Int32) : Option (CS × Int32) :=
  (f_L_next n c s4 s3 s2 s1 s0).bind (fun q725 => if q725.2 = 0 then (f_L_holds_b735 n x1 x3 x4 x5 x6 x7 x8 x9 x10 x11 K491 q725.1 x13 x15 x16 x17 x18) else (f_L_holds_b731 n x1 x3 x4 x5 x6 x7 x8 x9 x10 x11 K491 q725.1 x13 x15 x16 x17 x18))
set_option maxRecDepth 100000 in
set_option maxHeartbeats 4000000 in
theorem w_L_holds_b725 {E : zE} {X : zX} {h0 : Hp} {x : Nat} {n : Nat} {x1 : Int32} {x3 : Int32} {x4 : Int32} {x5 : Int32} {x6 : Int32} {x7 : Int32} {x8 : Int32} {x9 : Int32} {x10 : Int32} {x11 : Int32} {K491 : CS → Int32 → Int32 → Int32 → Int32 → Int32 → Option (CS × Int32)} {fu : Nat} (C : zC E X RL cL_holds 24 (some .boolean) 18) (hst : (xl X).stackTraces = false) (hR1 : 741 ≤ (xR X).cells) (hR2 : 4446 ≤ (xR X).slots) (hK491 : ∀ (c : CS) (x12 : Int32) (x13 : Int32) (x14 : Int32) (x15 : Int32) (x16 : Int32) (r : (CS × Int32)) (k n9 : Nat), (k + (fu * 10 + 127) ≤ 741 ∧ n9 + (fu * 60 + 762) ≤ 4446) → K491 c x12 x13 x14 x15 x16 = some r → zW E X 24 k n9 (MQ (xb X) (zQ E (some (.int r.2)) (pC E h0 x r.1)) (xa X) (xs X) 741 4446 (zA E)) 491 (pC E h0 x c) [(0, .ref x), (1, .int x1), (3, .int x3), (4, .int x4), (5, .int x5), (6, .int x6), (7, .int x7), (8, .int x8), (9, .int x9), (10, .int x10), (11, .int x11), (12, .int x12), (13, .int x13), (14, .int x14), (15, .int x15), (16, .int x16)] []) {c : CS} {x13 : Int32} {x15 : Int32} {x16 : Int32} {x17 : Int32} {x18 : Int32} {s0 : Int32} {s1 : Int32} {s2 : Int32} {s3 : Int32} {s4 : Int32} {r : (CS × Int32)} {k n9 : Nat} (hk : (k + (fu * 10 + 130) ≤ 741 ∧ n9 + (fu * 60 + 780) ≤ 4446)) (hf : f_L_holds_b725 n x1 x3 x4 x5 x6 x7 x8 x9 x10 x11 K491 c x13 x15 x16 x17 x18 s0 s1 s2 s3 s4 = some r) : zW E X 24 k n9 (MQ (xb X) (zQ E (some (.int r.2)) (pC E h0 x r.1)) (xa X) (xs X) 741 4446 (zA E)) 725 (pC E h0 x c) [(0, .ref x), (1, .int x1), (3, .int x3), (4, .int x4), (5, .int x5), (6, .int x6), (7, .int x7), (8, .int x8), (9, .int x9), (10, .int x10), (11, .int x11), (13, .int x13), (15, .int x15), (16, .int x16), (17, .int x17), (18, .int x18)] [.int s0, .int s1, .int s2, .int s3, .int s4, .ref x] := by
  obtain ⟨hk1, hk2⟩ := hk
  unfold f_L_holds_b725 at hf
  obtain ⟨q725, hq725, hf⟩ := bd_some hf
  refine z_callK (K := 3) C 728 [.ref x, .int s4, .int s3, .int s2, .int s1, .int s0] [] (ct_L_next hst hq725) co_L_next ml_L_166 st_L_next ini_L ⟨by decide +kernel, by decide +kernel, by show _ = some 6; decide +kernel⟩ (by decide) (by decide) rfl (Nat.le_of_ble_eq_true rfl) ⟨by omega, by omega⟩ rfl dL_holds_725 ?_
  refine z_if_eq C 735 dL_holds_728 (by decide) (fun c728 => ?_) (fun c728 => ?_)
  · replace hf := ip c728 hf
    exact z_sub [0, 1, 2, 3, 4, 5, 6, 7, 8, 9, 10, 11, 12, 13, 14, 15] rfl (w_L_holds_b735 C hst hR1 hR2 hK491 ⟨by omega, by omega⟩ hf)
  · replace hf := iN c728 hf
    exact z_sub [0, 1, 2, 3, 4, 5, 6, 7, 8, 9, 10, 11, 12, 13, 14, 15] rfl (w_L_holds_b731 C hst hR1 hR2 hK491 ⟨by omega, by omega⟩ hf)
def f_L_holds_b661 (n : Nat) (x1 : Int32) (x3 : Int32) (x4 : Int32) (x5 : Int32) (x6 : Int32) (x7 : Int32) (x8 : Int32) (x9 : Int32) (x10 : Int32) (x11 : Int32) (K491 : CS → Int32 → Int32 → Int32 → Int32 → Int32 → Option (CS × Int32))  (c : CS) (x13 : Int32) (x15 : Int32) (x16 : Int32) (x17 : Int32) (x18 : Int32) (x19 : Int32) (x20 : Int32) (x21 : Int32) (x22 : Int32) (x23 : Int32) : Option (CS × Int32) :=
  (f_L_call n c (6 : Int32) x20 x21 (0 : Int32)).bind (fun q669 => if q669.2 = x17 then ((f_L_call n q669.1 (6 : Int32) x22 x23 (0 : Int32)).bind (fun q685 => if q685.2 = x18 then (if (x16 + (1 : Int32)) = x4 then (f_L_holds_b731 n x1 x3 x4 x5 x6 x7 x8 x9 x10 x11 K491 q685.1 x13 x15 x16 x17 x18) else (if x17 = x18 then (f_L_holds_b725 n x1 x3 x4 x5 x6 x7 x8 x9 x10 x11 K491 q685.1 x13 x15 x16 x17 x18 (1 : Int32) x19 x23 x22 (x16 + (1 : Int32))) else (f_L_holds_b725 n x1 x3 x4 x5 x6 x7 x8 x9 x10 x11 K491 q685.1 x13 x15 x16 x17 x18 (0 : Int32) x19 x23 x22 (x16 + (1 : Int32))))) else (f_L_holds_b735 n x1 x3 x4 x5 x6 x7 x8 x9 x10 x11 K491 q685.1 x13 x15 x16 x17 x18))) else (f_L_holds_b735 n x1 x3 x4 x5 x6 x7 x8 x9 x10 x11 K491 q669.1 x13 x15 x16 x17 x18))
set_option maxRecDepth 100000 in
set_option maxHeartbeats 4000000 in
theorem w_L_holds_b661 {E : zE} {X : zX} {h0 : Hp} {x : Nat} {n : Nat} {x1 : Int32} {x3 : Int32} {x4 : Int32} {x5 : Int32} {x6 : Int32} {x7 : Int32} {x8 : Int32} {x9 : Int32} {x10 : Int32} {x11 : Int32} {K491 : CS → Int32 → Int32 → Int32 → Int32 → Int32 → Option (CS × Int32)} {fu : Nat} (C : zC E X RL cL_holds 24 (some .boolean) 18) (hst : (xl X).stackTraces = false) (hR1 : 741 ≤ (xR X).cells) (hR2 : 4446 ≤ (xR X).slots) (hK491 : ∀ (c : CS) (x12 : Int32) (x13 : Int32) (x14 : Int32) (x15 : Int32) (x16 : Int32) (r : (CS × Int32)) (k n9 : Nat), (k + (fu * 10 + 127) ≤ 741 ∧ n9 + (fu * 60 + 762) ≤ 4446) → K491 c x12 x13 x14 x15 x16 = some r → zW E X 24 k n9 (MQ (xb X) (zQ E (some (.int r.2)) (pC E h0 x r.1)) (xa X) (xs X) 741 4446 (zA E)) 491 (pC E h0 x c) [(0, .ref x), (1, .int x1), (3, .int x3), (4, .int x4), (5, .int x5), (6, .int x6), (7, .int x7), (8, .int x8), (9, .int x9), (10, .int x10), (11, .int x11), (12, .int x12), (13, .int x13), (14, .int x14), (15, .int x15), (16, .int x16)] []) {c : CS} {x13 : Int32} {x15 : Int32} {x16 : Int32} {x17 : Int32} {x18 : Int32} {x19 : Int32} {x20 : Int32} {x21 : Int32} {x22 : Int32} {x23 : Int32} {r : (CS × Int32)} {k n9 : Nat} (hk : (k + (fu * 10 + 132) ≤ 741 ∧ n9 + (fu * 60 + 792) ≤ 4446)) (hf : f_L_holds_b661 n x1 x3 x4 x5 x6 x7 x8 x9 x10 x11 K491 c x13 x15 x16 x17 x18 x19 x20 x21 x22 x23 = some r) : zW E X 24 k n9 (MQ (xb X) (zQ E (some (.int r.2)) (pC E h0 x r.1)) (xa X) (xs X) 741 4446 (zA E)) 661 (pC E h0 x c) [(0, .ref x), (1, .int x1), (3, .int x3), (4, .int x4), (5, .int x5), (6, .int x6), (7, .int x7), (8, .int x8), (9, .int x9), (10, .int x10), (11, .int x11), (13, .int x13), (15, .int x15), (16, .int x16), (17, .int x17), (18, .int x18), (19, .int x19), (20, .int x20), (21, .int x21), (22, .int x22), (23, .int x23)] [] := by
  obtain ⟨hk1, hk2⟩ := hk
  unfold f_L_holds_b661 at hf
  refine z_aload_n C dL_holds_661 0 rfl ?_
  refine z_bipush C (6 : Int32) dL_holds_662 (by decide) ?_
  refine z_iload C dL_holds_664 17 rfl ?_
  refine z_iload C dL_holds_666 18 rfl ?_
  refine z_iconst C (0 : Int32) dL_holds_668 (by decide) ?_
  obtain ⟨q669, hq669, hf⟩ := bd_some hf
  refine z_callK (K := 1) C 672 [.ref x, .int (6 : Int32), .int x20, .int x21, .int (0 : Int32)] [] (ct_L_call hst hq669) co_L_call ml_L_139 st_L_call ini_L ⟨by decide +kernel, by decide +kernel, by show _ = some 5; decide +kernel⟩ (by decide) (by decide) rfl (Nat.le_of_ble_eq_true rfl) ⟨by omega, by omega⟩ rfl dL_holds_669 ?_
  refine z_iload C dL_holds_672 14 rfl ?_
  refine z_icmp_ne C 735 dL_holds_674 (by decide) (fun c674 => ?_) (fun c674 => ?_)
  · replace hf := iN c674 hf
    exact z_sub [0, 1, 2, 3, 4, 5, 6, 7, 8, 9, 10, 11, 12, 13, 14, 15] rfl (w_L_holds_b735 C hst hR1 hR2 hK491 ⟨by omega, by omega⟩ hf)
  · replace hf := ip c674 hf
    refine z_aload_n C dL_holds_677 0 rfl ?_
    refine z_bipush C (6 : Int32) dL_holds_678 (by decide) ?_
    refine z_iload C dL_holds_680 19 rfl ?_
    refine z_iload C dL_holds_682 20 rfl ?_
    refine z_iconst C (0 : Int32) dL_holds_684 (by decide) ?_
    obtain ⟨q685, hq685, hf⟩ := bd_some hf
    refine z_callK (K := 1) C 688 [.ref x, .int (6 : Int32), .int x22, .int x23, .int (0 : Int32)] [] (ct_L_call hst hq685) co_L_call ml_L_139 st_L_call ini_L ⟨by decide +kernel, by decide +kernel, by show _ = some 5; decide +kernel⟩ (by decide) (by decide) rfl (Nat.le_of_ble_eq_true rfl) ⟨by omega, by omega⟩ rfl dL_holds_685 ?_
    refine z_iload C dL_holds_688 15 rfl ?_
    refine z_icmp_ne C 735 dL_holds_690 (by decide) (fun c690 => ?_) (fun c690 => ?_)
    · replace hf := iN c690 hf
      exact z_sub [0, 1, 2, 3, 4, 5, 6, 7, 8, 9, 10, 11, 12, 13, 14, 15] rfl (w_L_holds_b735 C hst hR1 hR2 hK491 ⟨by omega, by omega⟩ hf)
    · replace hf := ip c690 hf
      refine z_iload C dL_holds_693 13 rfl ?_
      refine z_iconst C (1 : Int32) dL_holds_695 (by decide) ?_
      refine z_iadd C dL_holds_696 ?_
      refine z_iload C dL_holds_697 3 rfl ?_
      refine z_icmp_eq C 731 dL_holds_699 (by decide) (fun c699 => ?_) (fun c699 => ?_)
      · replace hf := ip c699 hf
        exact z_sub [0, 1, 2, 3, 4, 5, 6, 7, 8, 9, 10, 11, 12, 13, 14, 15] rfl (w_L_holds_b731 C hst hR1 hR2 hK491 ⟨by omega, by omega⟩ hf)
      · replace hf := iN c699 hf
        refine z_aload_n C dL_holds_702 0 rfl ?_
        refine z_iload C dL_holds_703 13 rfl ?_
        refine z_iconst C (1 : Int32) dL_holds_705 (by decide) ?_
        refine z_iadd C dL_holds_706 ?_
        refine z_iload C dL_holds_707 19 rfl ?_
        refine z_iload C dL_holds_709 20 rfl ?_
        refine z_iload C dL_holds_711 16 rfl ?_
        refine z_iload C dL_holds_713 14 rfl ?_
        refine z_iload C dL_holds_715 15 rfl ?_
        refine z_icmp_ne C 724 dL_holds_717 (by decide) (fun c717 => ?_) (fun c717 => ?_)
        · replace hf := iN c717 hf
          refine z_iconst C (0 : Int32) dL_holds_724 (by decide) ?_
          exact z_sub [0, 1, 2, 3, 4, 5, 6, 7, 8, 9, 10, 11, 12, 13, 14, 15] rfl (w_L_holds_b725 C hst hR1 hR2 hK491 ⟨by omega, by omega⟩ hf)
        · replace hf := ip c717 hf
          refine z_iconst C (1 : Int32) dL_holds_720 (by decide) ?_
          refine z_goto C 725 dL_holds_721 (by decide) ?_
          exact z_sub [0, 1, 2, 3, 4, 5, 6, 7, 8, 9, 10, 11, 12, 13, 14, 15] rfl (w_L_holds_b725 C hst hR1 hR2 hK491 ⟨by omega, by omega⟩ hf)
def f_L_holds_b606 (n : Nat) (x1 : Int32) (x3 : Int32) (x4 : Int32) (x5 : Int32) (x6 : Int32) (x7 : Int32) (x8 : Int32) (x9 : Int32) (x10 : Int32) (x11 : Int32) (K491 : CS → Int32 → Int32 → Int32 → Int32 → Int32 → Option (CS × Int32))  (c : CS) (x13 : Int32) (x14 : Int32) (x15 : Int32) (x16 : Int32) (x17 : Int32) (x18 : Int32) (x19 : Int32) (x20 : Int32) (x21 : Int32) (x22 : Int32) (s0 : Int32) (s1 : Int32) : Option (CS × Int32) :=
  if x14 = (-1 : Int32) then (if x20 = (12 : Int32) then (if x21 = (12 : Int32) then (if x19 = 0 then (if x18 < x17 then (f_L_holds_b735 n x1 x3 x4 x5 x6 x7 x8 x9 x10 x11 K491 c (x13 + (x17 + x18)) x15 x16 x17 x18) else (f_L_holds_b661 n x1 x3 x4 x5 x6 x7 x8 x9 x10 x11 K491 c (x13 + (x17 + x18)) x15 x16 x17 x18 x19 x20 x21 x22 (s1 + s0))) else (f_L_holds_b735 n x1 x3 x4 x5 x6 x7 x8 x9 x10 x11 K491 c (x13 + (x17 + x18)) x15 x16 x17 x18)) else (f_L_holds_b735 n x1 x3 x4 x5 x6 x7 x8 x9 x10 x11 K491 c (x13 + (x17 + x18)) x15 x16 x17 x18)) else (f_L_holds_b735 n x1 x3 x4 x5 x6 x7 x8 x9 x10 x11 K491 c (x13 + (x17 + x18)) x15 x16 x17 x18)) else (if x17 = x14 then (f_L_holds_b661 n x1 x3 x4 x5 x6 x7 x8 x9 x10 x11 K491 c (x13 + (x17 + x18)) x15 x16 x17 x18 x19 x20 x21 x22 (s1 + s0)) else (f_L_holds_b735 n x1 x3 x4 x5 x6 x7 x8 x9 x10 x11 K491 c (x13 + (x17 + x18)) x15 x16 x17 x18))
set_option maxRecDepth 100000 in
set_option maxHeartbeats 4000000 in
theorem w_L_holds_b606 {E : zE} {X : zX} {h0 : Hp} {x : Nat} {n : Nat} {x1 : Int32} {x3 : Int32} {x4 : Int32} {x5 : Int32} {x6 : Int32} {x7 : Int32} {x8 : Int32} {x9 : Int32} {x10 : Int32} {x11 : Int32} {K491 : CS → Int32 → Int32 → Int32 → Int32 → Int32 → Option (CS × Int32)} {fu : Nat} (C : zC E X RL cL_holds 24 (some .boolean) 18) (hst : (xl X).stackTraces = false) (hR1 : 741 ≤ (xR X).cells) (hR2 : 4446 ≤ (xR X).slots) (hK491 : ∀ (c : CS) (x12 : Int32) (x13 : Int32) (x14 : Int32) (x15 : Int32) (x16 : Int32) (r : (CS × Int32)) (k n9 : Nat), (k + (fu * 10 + 127) ≤ 741 ∧ n9 + (fu * 60 + 762) ≤ 4446) → K491 c x12 x13 x14 x15 x16 = some r → zW E X 24 k n9 (MQ (xb X) (zQ E (some (.int r.2)) (pC E h0 x r.1)) (xa X) (xs X) 741 4446 (zA E)) 491 (pC E h0 x c) [(0, .ref x), (1, .int x1), (3, .int x3), (4, .int x4), (5, .int x5), (6, .int x6), (7, .int x7), (8, .int x8), (9, .int x9), (10, .int x10), (11, .int x11), (12, .int x12), (13, .int x13), (14, .int x14), (15, .int x15), (16, .int x16)] []) {c : CS} {x13 : Int32} {x14 : Int32} {x15 : Int32} {x16 : Int32} {x17 : Int32} {x18 : Int32} {x19 : Int32} {x20 : Int32} {x21 : Int32} {x22 : Int32} {s0 : Int32} {s1 : Int32} {r : (CS × Int32)} {k n9 : Nat} (hk : (k + (fu * 10 + 132) ≤ 741 ∧ n9 + (fu * 60 + 792) ≤ 4446)) (hf : f_L_holds_b606 n x1 x3 x4 x5 x6 x7 x8 x9 x10 x11 K491 c x13 x14 x15 x16 x17 x18 x19 x20 x21 x22 s0 s1 = some r) : zW E X 24 k n9 (MQ (xb X) (zQ E (some (.int r.2)) (pC E h0 x r.1)) (xa X) (xs X) 741 4446 (zA E)) 606 (pC E h0 x c) [(0, .ref x), (1, .int x1), (3, .int x3), (4, .int x4), (5, .int x5), (6, .int x6), (7, .int x7), (8, .int x8), (9, .int x9), (10, .int x10), (11, .int x11), (13, .int x13), (14, .int x14), (15, .int x15), (16, .int x16), (17, .int x17), (18, .int x18), (19, .int x19), (20, .int x20), (21, .int x21), (22, .int x22)] [.int s0, .int s1] := by
  obtain ⟨hk1, hk2⟩ := hk
  unfold f_L_holds_b606 at hf
  refine z_iadd C dL_holds_606 ?_
  refine z_istore (lv' := [(23, .int (s1 + s0)), (0, .ref x), (1, .int x1), (3, .int x3), (4, .int x4), (5, .int x5), (6, .int x6), (7, .int x7), (8, .int x8), (9, .int x9), (10, .int x10), (11, .int x11), (13, .int x13), (14, .int x14), (15, .int x15), (16, .int x16), (17, .int x17), (18, .int x18), (19, .int x19), (20, .int x20), (21, .int x21), (22, .int x22)]) C dL_holds_607 (by decide) rfl ?_
  refine z_iload C dL_holds_609 12 rfl ?_
  refine z_iload C dL_holds_611 16 rfl ?_
  refine z_iload C dL_holds_613 17 rfl ?_
  refine z_iadd C dL_holds_615 ?_
  refine z_iadd C dL_holds_616 ?_
  refine z_istore (lv' := [(13, .int (x13 + (x17 + x18))), (23, .int (s1 + s0)), (0, .ref x), (1, .int x1), (3, .int x3), (4, .int x4), (5, .int x5), (6, .int x6), (7, .int x7), (8, .int x8), (9, .int x9), (10, .int x10), (11, .int x11), (14, .int x14), (15, .int x15), (16, .int x16), (17, .int x17), (18, .int x18), (19, .int x19), (20, .int x20), (21, .int x21), (22, .int x22)]) C dL_holds_617 (by decide) rfl ?_
  refine z_iload C dL_holds_619 13 rfl ?_
  refine z_iconst C (-1 : Int32) dL_holds_621 (by decide) ?_
  refine z_icmp_ne C 654 dL_holds_622 (by decide) (fun c622 => ?_) (fun c622 => ?_)
  · replace hf := iN c622 hf
    refine z_iload C dL_holds_654 16 rfl ?_
    refine z_iload C dL_holds_656 13 rfl ?_
    refine z_icmp_ne C 735 dL_holds_658 (by decide) (fun c658 => ?_) (fun c658 => ?_)
    · replace hf := iN c658 hf
      exact z_sub [2, 3, 4, 5, 6, 7, 8, 9, 10, 11, 12, 0, 14, 15, 16, 17] rfl (w_L_holds_b735 C hst hR1 hR2 hK491 ⟨by omega, by omega⟩ hf)
    · replace hf := ip c658 hf
      exact z_sub [2, 3, 4, 5, 6, 7, 8, 9, 10, 11, 12, 0, 14, 15, 16, 17, 18, 19, 20, 21, 1] rfl (w_L_holds_b661 C hst hR1 hR2 hK491 ⟨by omega, by omega⟩ hf)
  · replace hf := ip c622 hf
    refine z_iload C dL_holds_625 19 rfl ?_
    refine z_bipush C (12 : Int32) dL_holds_627 (by decide) ?_
    refine z_icmp_ne C 735 dL_holds_629 (by decide) (fun c629 => ?_) (fun c629 => ?_)
    · replace hf := iN c629 hf
      exact z_sub [2, 3, 4, 5, 6, 7, 8, 9, 10, 11, 12, 0, 14, 15, 16, 17] rfl (w_L_holds_b735 C hst hR1 hR2 hK491 ⟨by omega, by omega⟩ hf)
    · replace hf := ip c629 hf
      refine z_iload C dL_holds_632 20 rfl ?_
      refine z_bipush C (12 : Int32) dL_holds_634 (by decide) ?_
      refine z_icmp_ne C 735 dL_holds_636 (by decide) (fun c636 => ?_) (fun c636 => ?_)
      · replace hf := iN c636 hf
        exact z_sub [2, 3, 4, 5, 6, 7, 8, 9, 10, 11, 12, 0, 14, 15, 16, 17] rfl (w_L_holds_b735 C hst hR1 hR2 hK491 ⟨by omega, by omega⟩ hf)
      · replace hf := ip c636 hf
        refine z_iload C dL_holds_639 18 rfl ?_
        refine z_if_ne C 735 dL_holds_641 (by decide) (fun c641 => ?_) (fun c641 => ?_)
        · replace hf := iN c641 hf
          exact z_sub [2, 3, 4, 5, 6, 7, 8, 9, 10, 11, 12, 0, 14, 15, 16, 17] rfl (w_L_holds_b735 C hst hR1 hR2 hK491 ⟨by omega, by omega⟩ hf)
        · replace hf := ip c641 hf
          refine z_iload C dL_holds_644 16 rfl ?_
          refine z_iload C dL_holds_646 17 rfl ?_
          refine z_icmp_gt C 735 dL_holds_648 (by decide) (fun c648 => ?_) (fun c648 => ?_)
          · replace hf := ip c648 hf
            exact z_sub [2, 3, 4, 5, 6, 7, 8, 9, 10, 11, 12, 0, 14, 15, 16, 17] rfl (w_L_holds_b735 C hst hR1 hR2 hK491 ⟨by omega, by omega⟩ hf)
          · replace hf := iN c648 hf
            refine z_goto C 661 dL_holds_651 (by decide) ?_
            exact z_sub [2, 3, 4, 5, 6, 7, 8, 9, 10, 11, 12, 0, 14, 15, 16, 17, 18, 19, 20, 21, 1] rfl (w_L_holds_b661 C hst hR1 hR2 hK491 ⟨by omega, by omega⟩ hf)
def f_L_holds_b580 (n : Nat) (x1 : Int32) (x3 : Int32) (x4 : Int32) (x5 : Int32) (x6 : Int32) (x7 : Int32) (x8 : Int32) (x9 : Int32) (x10 : Int32) (x11 : Int32) (K491 : CS → Int32 → Int32 → Int32 → Int32 → Int32 → Option (CS × Int32))  (c : CS) (x13 : Int32) (x14 : Int32) (x15 : Int32) (x16 : Int32) (x17 : Int32) (x18 : Int32) (x19 : Int32) (x20 : Int32) (x21 : Int32) (s0 : Int32) (s1 : Int32) : Option (CS × Int32) :=
  if x19 = (1 : Int32) then (f_L_holds_b606 n x1 x3 x4 x5 x6 x7 x8 x9 x10 x11 K491 c x13 x14 x15 x16 x17 x18 x19 x20 x21 (s1 + s0) (1 : Int32) x21) else (if x19 = (3 : Int32) then (f_L_holds_b606 n x1 x3 x4 x5 x6 x7 x8 x9 x10 x11 K491 c x13 x14 x15 x16 x17 x18 x19 x20 x21 (s1 + s0) (-1 : Int32) x21) else (f_L_holds_b606 n x1 x3 x4 x5 x6 x7 x8 x9 x10 x11 K491 c x13 x14 x15 x16 x17 x18 x19 x20 x21 (s1 + s0) (0 : Int32) x21))
set_option maxRecDepth 100000 in
set_option maxHeartbeats 4000000 in
theorem w_L_holds_b580 {E : zE} {X : zX} {h0 : Hp} {x : Nat} {n : Nat} {x1 : Int32} {x3 : Int32} {x4 : Int32} {x5 : Int32} {x6 : Int32} {x7 : Int32} {x8 : Int32} {x9 : Int32} {x10 : Int32} {x11 : Int32} {K491 : CS → Int32 → Int32 → Int32 → Int32 → Int32 → Option (CS × Int32)} {fu : Nat} (C : zC E X RL cL_holds 24 (some .boolean) 18) (hst : (xl X).stackTraces = false) (hR1 : 741 ≤ (xR X).cells) (hR2 : 4446 ≤ (xR X).slots) (hK491 : ∀ (c : CS) (x12 : Int32) (x13 : Int32) (x14 : Int32) (x15 : Int32) (x16 : Int32) (r : (CS × Int32)) (k n9 : Nat), (k + (fu * 10 + 127) ≤ 741 ∧ n9 + (fu * 60 + 762) ≤ 4446) → K491 c x12 x13 x14 x15 x16 = some r → zW E X 24 k n9 (MQ (xb X) (zQ E (some (.int r.2)) (pC E h0 x r.1)) (xa X) (xs X) 741 4446 (zA E)) 491 (pC E h0 x c) [(0, .ref x), (1, .int x1), (3, .int x3), (4, .int x4), (5, .int x5), (6, .int x6), (7, .int x7), (8, .int x8), (9, .int x9), (10, .int x10), (11, .int x11), (12, .int x12), (13, .int x13), (14, .int x14), (15, .int x15), (16, .int x16)] []) {c : CS} {x13 : Int32} {x14 : Int32} {x15 : Int32} {x16 : Int32} {x17 : Int32} {x18 : Int32} {x19 : Int32} {x20 : Int32} {x21 : Int32} {s0 : Int32} {s1 : Int32} {r : (CS × Int32)} {k n9 : Nat} (hk : (k + (fu * 10 + 132) ≤ 741 ∧ n9 + (fu * 60 + 792) ≤ 4446)) (hf : f_L_holds_b580 n x1 x3 x4 x5 x6 x7 x8 x9 x10 x11 K491 c x13 x14 x15 x16 x17 x18 x19 x20 x21 s0 s1 = some r) : zW E X 24 k n9 (MQ (xb X) (zQ E (some (.int r.2)) (pC E h0 x r.1)) (xa X) (xs X) 741 4446 (zA E)) 580 (pC E h0 x c) [(0, .ref x), (1, .int x1), (3, .int x3), (4, .int x4), (5, .int x5), (6, .int x6), (7, .int x7), (8, .int x8), (9, .int x9), (10, .int x10), (11, .int x11), (13, .int x13), (14, .int x14), (15, .int x15), (16, .int x16), (17, .int x17), (18, .int x18), (19, .int x19), (20, .int x20), (21, .int x21)] [.int s0, .int s1] := by
  obtain ⟨hk1, hk2⟩ := hk
  unfold f_L_holds_b580 at hf
  refine z_iadd C dL_holds_580 ?_
  refine z_istore (lv' := [(22, .int (s1 + s0)), (0, .ref x), (1, .int x1), (3, .int x3), (4, .int x4), (5, .int x5), (6, .int x6), (7, .int x7), (8, .int x8), (9, .int x9), (10, .int x10), (11, .int x11), (13, .int x13), (14, .int x14), (15, .int x15), (16, .int x16), (17, .int x17), (18, .int x18), (19, .int x19), (20, .int x20), (21, .int x21)]) C dL_holds_581 (by decide) rfl ?_
  refine z_iload C dL_holds_583 20 rfl ?_
  refine z_iload C dL_holds_585 18 rfl ?_
  refine z_iconst C (1 : Int32) dL_holds_587 (by decide) ?_
  refine z_icmp_ne C 595 dL_holds_588 (by decide) (fun c588 => ?_) (fun c588 => ?_)
  · replace hf := iN c588 hf
    refine z_iload C dL_holds_595 18 rfl ?_
    refine z_iconst C (3 : Int32) dL_holds_597 (by decide) ?_
    refine z_icmp_ne C 605 dL_holds_598 (by decide) (fun c598 => ?_) (fun c598 => ?_)
    · replace hf := iN c598 hf
      refine z_iconst C (0 : Int32) dL_holds_605 (by decide) ?_
      exact z_sub [1, 2, 3, 4, 5, 6, 7, 8, 9, 10, 11, 12, 13, 14, 15, 16, 17, 18, 19, 20, 0] rfl (w_L_holds_b606 C hst hR1 hR2 hK491 ⟨by omega, by omega⟩ hf)
    · replace hf := ip c598 hf
      refine z_iconst C (-1 : Int32) dL_holds_601 (by decide) ?_
      refine z_goto C 606 dL_holds_602 (by decide) ?_
      exact z_sub [1, 2, 3, 4, 5, 6, 7, 8, 9, 10, 11, 12, 13, 14, 15, 16, 17, 18, 19, 20, 0] rfl (w_L_holds_b606 C hst hR1 hR2 hK491 ⟨by omega, by omega⟩ hf)
  · replace hf := ip c588 hf
    refine z_iconst C (1 : Int32) dL_holds_591 (by decide) ?_
    refine z_goto C 606 dL_holds_592 (by decide) ?_
    exact z_sub [1, 2, 3, 4, 5, 6, 7, 8, 9, 10, 11, 12, 13, 14, 15, 16, 17, 18, 19, 20, 0] rfl (w_L_holds_b606 C hst hR1 hR2 hK491 ⟨by omega, by omega⟩ hf)
def f_L_holds_h491 (n : Nat) (x1 : Int32) (x3 : Int32) (x4 : Int32) (x5 : Int32) (x6 : Int32) (x7 : Int32) (x8 : Int32) (x9 : Int32) (x10 : Int32) (x11 : Int32)  (K491 : CS → Int32 → Int32 → Int32 → Int32 → Int32 → Option (CS × Int32)) (c : CS) (x12 : Int32) (x13 : Int32) (x14 : Int32) (x15 : Int32) (x16 : Int32) : Option (CS × Int32) :=
  if x4 ≤ x16 then (f_L_holds_b765 n x1 c x3 x4 x5 x6 x7 x8 x9 x10 x11 x12 x13 x14 x15) else (if x12 = 0 then (f_L_holds_b765 n x1 c x3 x4 x5 x6 x7 x8 x9 x10 x11 x12 x13 x14 x15) else ((f_L_call n c (4 : Int32) x16 (4 : Int32) (0 : Int32)).bind (fun q509 => (f_L_call n q509.1 (4 : Int32) x16 (5 : Int32) (0 : Int32)).bind (fun q520 => (f_L_call n q520.1 (4 : Int32) x16 (3 : Int32) (0 : Int32)).bind (fun q531 => (f_L_call n q531.1 (4 : Int32) x16 (1 : Int32) (0 : Int32)).bind (fun q542 => (f_L_call n q542.1 (4 : Int32) x16 (2 : Int32) (0 : Int32)).bind (fun q553 => if q531.2 = 0 then (f_L_holds_b580 n x1 x3 x4 x5 x6 x7 x8 x9 x10 x11 K491 q553.1 x13 x14 x15 x16 q509.2 q520.2 q531.2 q542.2 q553.2 (1 : Int32) q542.2) else (if q531.2 = (2 : Int32) then (f_L_holds_b580 n x1 x3 x4 x5 x6 x7 x8 x9 x10 x11 K491 q553.1 x13 x14 x15 x16 q509.2 q520.2 q531.2 q542.2 q553.2 (-1 : Int32) q542.2) else (f_L_holds_b580 n x1 x3 x4 x5 x6 x7 x8 x9 x10 x11 K491 q553.1 x13 x14 x15 x16 q509.2 q520.2 q531.2 q542.2 q553.2 (0 : Int32) q542.2)))))))))
set_option maxRecDepth 100000 in
set_option maxHeartbeats 4000000 in
theorem w_L_holds_h491 {E : zE} {X : zX} {h0 : Hp} {x : Nat} {n : Nat} {x1 : Int32} {x3 : Int32} {x4 : Int32} {x5 : Int32} {x6 : Int32} {x7 : Int32} {x8 : Int32} {x9 : Int32} {x10 : Int32} {x11 : Int32}  (C : zC E X RL cL_holds 24 (some .boolean) 18) (hst : (xl X).stackTraces = false) (hR1 : 741 ≤ (xR X).cells) (hR2 : 4446 ≤ (xR X).slots)  : ∀ (fu : Nat) (c : CS) (x12 : Int32) (x13 : Int32) (x14 : Int32) (x15 : Int32) (x16 : Int32) (r : (CS × Int32)), lo6 (f_L_holds_h491 n x1 x3 x4 x5 x6 x7 x8 x9 x10 x11) fu c x12 x13 x14 x15 x16 = some r → ∀ k n9 : Nat, (k + (fu * 10 + 127) ≤ 741 ∧ n9 + (fu * 60 + 762) ≤ 4446) → zW E X 24 k n9 (MQ (xb X) (zQ E (some (.int r.2)) (pC E h0 x r.1)) (xa X) (xs X) 741 4446 (zA E)) 491 (pC E h0 x c) [(0, .ref x), (1, .int x1), (3, .int x3), (4, .int x4), (5, .int x5), (6, .int x6), (7, .int x7), (8, .int x8), (9, .int x9), (10, .int x10), (11, .int x11), (12, .int x12), (13, .int x13), (14, .int x14), (15, .int x15), (16, .int x16)] [] := by
  refine lo6_indq (Z := fun (fu : Nat) (c : CS) (x12 : Int32) (x13 : Int32) (x14 : Int32) (x15 : Int32) (x16 : Int32) (r : (CS × Int32)) => ∀ k n9 : Nat, (k + (fu * 10 + 127) ≤ 741 ∧ n9 + (fu * 60 + 762) ≤ 4446) → zW E X 24 k n9 (MQ (xb X) (zQ E (some (.int r.2)) (pC E h0 x r.1)) (xa X) (xs X) 741 4446 (zA E)) 491 (pC E h0 x c) [(0, .ref x), (1, .int x1), (3, .int x3), (4, .int x4), (5, .int x5), (6, .int x6), (7, .int x7), (8, .int x8), (9, .int x9), (10, .int x10), (11, .int x11), (12, .int x12), (13, .int x13), (14, .int x14), (15, .int x15), (16, .int x16)] []) ?_
  intro fu K491 hK0 c x12 x13 x14 x15 x16 r hf k n9 hk
  have hK491 : ∀ (c : CS) (x12 : Int32) (x13 : Int32) (x14 : Int32) (x15 : Int32) (x16 : Int32) (r : (CS × Int32)) (k n9 : Nat), (k + (fu * 10 + 127) ≤ 741 ∧ n9 + (fu * 60 + 762) ≤ 4446) → K491 c x12 x13 x14 x15 x16 = some r → zW E X 24 k n9 (MQ (xb X) (zQ E (some (.int r.2)) (pC E h0 x r.1)) (xa X) (xs X) 741 4446 (zA E)) 491 (pC E h0 x c) [(0, .ref x), (1, .int x1), (3, .int x3), (4, .int x4), (5, .int x5), (6, .int x6), (7, .int x7), (8, .int x8), (9, .int x9), (10, .int x10), (11, .int x11), (12, .int x12), (13, .int x13), (14, .int x14), (15, .int x15), (16, .int x16)] [] := fun c x12 x13 x14 x15 x16 r k n9 hk hq => hK0 c x12 x13 x14 x15 x16 r hq k n9 hk
  clear hK0
  obtain ⟨hk1, hk2⟩ := hk
  unfold f_L_holds_h491 at hf
  refine z_iload C dL_holds_491 15 rfl ?_
  refine z_iload C dL_holds_493 3 rfl ?_
  refine z_icmp_ge C 765 dL_holds_495 (by decide) (fun c495 => ?_) (fun c495 => ?_)
  · replace hf := ip c495 hf
    exact z_sub [0, 1, 2, 3, 4, 5, 6, 7, 8, 9, 10, 11, 12, 13, 14] rfl (w_L_holds_b765 C hst hR1 hR2 ⟨by omega, by omega⟩ hf)
  · replace hf := iN c495 hf
    refine z_iload C dL_holds_498 11 rfl ?_
    refine z_if_eq C 765 dL_holds_500 (by decide) (fun c500 => ?_) (fun c500 => ?_)
    · replace hf := ip c500 hf
      exact z_sub [0, 1, 2, 3, 4, 5, 6, 7, 8, 9, 10, 11, 12, 13, 14] rfl (w_L_holds_b765 C hst hR1 hR2 ⟨by omega, by omega⟩ hf)
    · replace hf := iN c500 hf
      refine z_aload_n C dL_holds_503 0 rfl ?_
      refine z_iconst C (4 : Int32) dL_holds_504 (by decide) ?_
      refine z_iload C dL_holds_505 15 rfl ?_
      refine z_iconst C (4 : Int32) dL_holds_507 (by decide) ?_
      refine z_iconst C (0 : Int32) dL_holds_508 (by decide) ?_
      obtain ⟨q509, hq509, hf⟩ := bd_some hf
      refine z_callK (K := 1) C 512 [.ref x, .int (4 : Int32), .int x16, .int (4 : Int32), .int (0 : Int32)] [] (ct_L_call hst hq509) co_L_call ml_L_139 st_L_call ini_L ⟨by decide +kernel, by decide +kernel, by show _ = some 5; decide +kernel⟩ (by decide) (by decide) rfl (Nat.le_of_ble_eq_true rfl) ⟨by omega, by omega⟩ rfl dL_holds_509 ?_
      refine z_istore (lv' := [(17, .int q509.2), (0, .ref x), (1, .int x1), (3, .int x3), (4, .int x4), (5, .int x5), (6, .int x6), (7, .int x7), (8, .int x8), (9, .int x9), (10, .int x10), (11, .int x11), (12, .int x12), (13, .int x13), (14, .int x14), (15, .int x15), (16, .int x16)]) C dL_holds_512 (by decide) rfl ?_
      refine z_aload_n C dL_holds_514 1 rfl ?_
      refine z_iconst C (4 : Int32) dL_holds_515 (by decide) ?_
      refine z_iload C dL_holds_516 16 rfl ?_
      refine z_iconst C (5 : Int32) dL_holds_518 (by decide) ?_
      refine z_iconst C (0 : Int32) dL_holds_519 (by decide) ?_
      obtain ⟨q520, hq520, hf⟩ := bd_some hf
      refine z_callK (K := 1) C 523 [.ref x, .int (4 : Int32), .int x16, .int (5 : Int32), .int (0 : Int32)] [] (ct_L_call hst hq520) co_L_call ml_L_139 st_L_call ini_L ⟨by decide +kernel, by decide +kernel, by show _ = some 5; decide +kernel⟩ (by decide) (by decide) rfl (Nat.le_of_ble_eq_true rfl) ⟨by omega, by omega⟩ rfl dL_holds_520 ?_
      refine z_istore (lv' := [(18, .int q520.2), (17, .int q509.2), (0, .ref x), (1, .int x1), (3, .int x3), (4, .int x4), (5, .int x5), (6, .int x6), (7, .int x7), (8, .int x8), (9, .int x9), (10, .int x10), (11, .int x11), (12, .int x12), (13, .int x13), (14, .int x14), (15, .int x15), (16, .int x16)]) C dL_holds_523 (by decide) rfl ?_
      refine z_aload_n C dL_holds_525 2 rfl ?_
      refine z_iconst C (4 : Int32) dL_holds_526 (by decide) ?_
      refine z_iload C dL_holds_527 17 rfl ?_
      refine z_iconst C (3 : Int32) dL_holds_529 (by decide) ?_
      refine z_iconst C (0 : Int32) dL_holds_530 (by decide) ?_
      obtain ⟨q531, hq531, hf⟩ := bd_some hf
      refine z_callK (K := 1) C 534 [.ref x, .int (4 : Int32), .int x16, .int (3 : Int32), .int (0 : Int32)] [] (ct_L_call hst hq531) co_L_call ml_L_139 st_L_call ini_L ⟨by decide +kernel, by decide +kernel, by show _ = some 5; decide +kernel⟩ (by decide) (by decide) rfl (Nat.le_of_ble_eq_true rfl) ⟨by omega, by omega⟩ rfl dL_holds_531 ?_
      refine z_istore (lv' := [(19, .int q531.2), (18, .int q520.2), (17, .int q509.2), (0, .ref x), (1, .int x1), (3, .int x3), (4, .int x4), (5, .int x5), (6, .int x6), (7, .int x7), (8, .int x8), (9, .int x9), (10, .int x10), (11, .int x11), (12, .int x12), (13, .int x13), (14, .int x14), (15, .int x15), (16, .int x16)]) C dL_holds_534 (by decide) rfl ?_
      refine z_aload_n C dL_holds_536 3 rfl ?_
      refine z_iconst C (4 : Int32) dL_holds_537 (by decide) ?_
      refine z_iload C dL_holds_538 18 rfl ?_
      refine z_iconst C (1 : Int32) dL_holds_540 (by decide) ?_
      refine z_iconst C (0 : Int32) dL_holds_541 (by decide) ?_
      obtain ⟨q542, hq542, hf⟩ := bd_some hf
      refine z_callK (K := 1) C 545 [.ref x, .int (4 : Int32), .int x16, .int (1 : Int32), .int (0 : Int32)] [] (ct_L_call hst hq542) co_L_call ml_L_139 st_L_call ini_L ⟨by decide +kernel, by decide +kernel, by show _ = some 5; decide +kernel⟩ (by decide) (by decide) rfl (Nat.le_of_ble_eq_true rfl) ⟨by omega, by omega⟩ rfl dL_holds_542 ?_
      refine z_istore (lv' := [(20, .int q542.2), (19, .int q531.2), (18, .int q520.2), (17, .int q509.2), (0, .ref x), (1, .int x1), (3, .int x3), (4, .int x4), (5, .int x5), (6, .int x6), (7, .int x7), (8, .int x8), (9, .int x9), (10, .int x10), (11, .int x11), (12, .int x12), (13, .int x13), (14, .int x14), (15, .int x15), (16, .int x16)]) C dL_holds_545 (by decide) rfl ?_
      refine z_aload_n C dL_holds_547 4 rfl ?_
      refine z_iconst C (4 : Int32) dL_holds_548 (by decide) ?_
      refine z_iload C dL_holds_549 19 rfl ?_
      refine z_iconst C (2 : Int32) dL_holds_551 (by decide) ?_
      refine z_iconst C (0 : Int32) dL_holds_552 (by decide) ?_
      obtain ⟨q553, hq553, hf⟩ := bd_some hf
      refine z_callK (K := 1) C 556 [.ref x, .int (4 : Int32), .int x16, .int (2 : Int32), .int (0 : Int32)] [] (ct_L_call hst hq553) co_L_call ml_L_139 st_L_call ini_L ⟨by decide +kernel, by decide +kernel, by show _ = some 5; decide +kernel⟩ (by decide) (by decide) rfl (Nat.le_of_ble_eq_true rfl) ⟨by omega, by omega⟩ rfl dL_holds_553 ?_
      refine z_istore (lv' := [(21, .int q553.2), (20, .int q542.2), (19, .int q531.2), (18, .int q520.2), (17, .int q509.2), (0, .ref x), (1, .int x1), (3, .int x3), (4, .int x4), (5, .int x5), (6, .int x6), (7, .int x7), (8, .int x8), (9, .int x9), (10, .int x10), (11, .int x11), (12, .int x12), (13, .int x13), (14, .int x14), (15, .int x15), (16, .int x16)]) C dL_holds_556 (by decide) rfl ?_
      refine z_iload C dL_holds_558 1 rfl ?_
      refine z_iload C dL_holds_560 2 rfl ?_
      refine z_if_ne C 569 dL_holds_562 (by decide) (fun c562 => ?_) (fun c562 => ?_)
      · replace hf := iN c562 hf
        refine z_iload C dL_holds_569 2 rfl ?_
        refine z_iconst C (2 : Int32) dL_holds_571 (by decide) ?_
        refine z_icmp_ne C 579 dL_holds_572 (by decide) (fun c572 => ?_) (fun c572 => ?_)
        · replace hf := iN c572 hf
          refine z_iconst C (0 : Int32) dL_holds_579 (by decide) ?_
          exact z_sub [5, 6, 7, 8, 9, 10, 11, 12, 13, 14, 15, 17, 18, 19, 20, 4, 3, 2, 1, 0] rfl (w_L_holds_b580 C hst hR1 hR2 hK491 ⟨by omega, by omega⟩ hf)
        · replace hf := ip c572 hf
          refine z_iconst C (-1 : Int32) dL_holds_575 (by decide) ?_
          refine z_goto C 580 dL_holds_576 (by decide) ?_
          exact z_sub [5, 6, 7, 8, 9, 10, 11, 12, 13, 14, 15, 17, 18, 19, 20, 4, 3, 2, 1, 0] rfl (w_L_holds_b580 C hst hR1 hR2 hK491 ⟨by omega, by omega⟩ hf)
      · replace hf := ip c562 hf
        refine z_iconst C (1 : Int32) dL_holds_565 (by decide) ?_
        refine z_goto C 580 dL_holds_566 (by decide) ?_
        exact z_sub [5, 6, 7, 8, 9, 10, 11, 12, 13, 14, 15, 17, 18, 19, 20, 4, 3, 2, 1, 0] rfl (w_L_holds_b580 C hst hR1 hR2 hK491 ⟨by omega, by omega⟩ hf)
def f_L_holds_b479 (n : Nat) (x1 : Int32)   (c : CS) (x3 : Int32) (x4 : Int32) (x5 : Int32) (x6 : Int32) (x7 : Int32) (x8 : Int32) (x9 : Int32) (x10 : Int32) (x11 : Int32) (x12 : Int32) : Option (CS × Int32) :=
  lo6 (f_L_holds_h491 n x1 x3 x4 x5 x6 x7 x8 x9 x10 x11) 29 c x12 (0 : Int32) (-1 : Int32) (0 : Int32) (0 : Int32)
set_option maxRecDepth 100000 in
set_option maxHeartbeats 4000000 in
theorem w_L_holds_b479 {E : zE} {X : zX} {h0 : Hp} {x : Nat} {n : Nat} {x1 : Int32}  (C : zC E X RL cL_holds 24 (some .boolean) 18) (hst : (xl X).stackTraces = false) (hR1 : 741 ≤ (xR X).cells) (hR2 : 4446 ≤ (xR X).slots)  {c : CS} {x3 : Int32} {x4 : Int32} {x5 : Int32} {x6 : Int32} {x7 : Int32} {x8 : Int32} {x9 : Int32} {x10 : Int32} {x11 : Int32} {x12 : Int32} {r : (CS × Int32)} {k n9 : Nat} (hk : (k + 417 ≤ 741 ∧ n9 + 2502 ≤ 4446)) (hf : f_L_holds_b479 n x1 c x3 x4 x5 x6 x7 x8 x9 x10 x11 x12 = some r) : zW E X 24 k n9 (MQ (xb X) (zQ E (some (.int r.2)) (pC E h0 x r.1)) (xa X) (xs X) 741 4446 (zA E)) 479 (pC E h0 x c) [(0, .ref x), (1, .int x1), (3, .int x3), (4, .int x4), (5, .int x5), (6, .int x6), (7, .int x7), (8, .int x8), (9, .int x9), (10, .int x10), (11, .int x11), (12, .int x12)] [] := by
  obtain ⟨hk1, hk2⟩ := hk
  unfold f_L_holds_b479 at hf
  refine z_iconst C (0 : Int32) dL_holds_479 (by decide) ?_
  refine z_istore (lv' := [(13, .int (0 : Int32)), (0, .ref x), (1, .int x1), (3, .int x3), (4, .int x4), (5, .int x5), (6, .int x6), (7, .int x7), (8, .int x8), (9, .int x9), (10, .int x10), (11, .int x11), (12, .int x12)]) C dL_holds_480 (by decide) rfl ?_
  refine z_iconst C (-1 : Int32) dL_holds_482 (by decide) ?_
  refine z_istore (lv' := [(14, .int (-1 : Int32)), (13, .int (0 : Int32)), (0, .ref x), (1, .int x1), (3, .int x3), (4, .int x4), (5, .int x5), (6, .int x6), (7, .int x7), (8, .int x8), (9, .int x9), (10, .int x10), (11, .int x11), (12, .int x12)]) C dL_holds_483 (by decide) rfl ?_
  refine z_iconst C (0 : Int32) dL_holds_485 (by decide) ?_
  refine z_istore (lv' := [(15, .int (0 : Int32)), (14, .int (-1 : Int32)), (13, .int (0 : Int32)), (0, .ref x), (1, .int x1), (3, .int x3), (4, .int x4), (5, .int x5), (6, .int x6), (7, .int x7), (8, .int x8), (9, .int x9), (10, .int x10), (11, .int x11), (12, .int x12)]) C dL_holds_486 (by decide) rfl ?_
  refine z_iconst C (0 : Int32) dL_holds_488 (by decide) ?_
  refine z_istore (lv' := [(16, .int (0 : Int32)), (15, .int (0 : Int32)), (14, .int (-1 : Int32)), (13, .int (0 : Int32)), (0, .ref x), (1, .int x1), (3, .int x3), (4, .int x4), (5, .int x5), (6, .int x6), (7, .int x7), (8, .int x8), (9, .int x9), (10, .int x10), (11, .int x11), (12, .int x12)]) C dL_holds_489 (by decide) rfl ?_
  exact z_sub [4, 5, 6, 7, 8, 9, 10, 11, 12, 13, 14, 15, 3, 2, 1, 0] rfl (w_L_holds_h491 C hst hR1 hR2 29 _ _ _ _ _ _ _ hf _ _ ⟨by omega, by omega⟩)
def f_L_holds_b471 (n : Nat) (x1 : Int32) (x2 : Int32) (x3 : Int32) (x4 : Int32) (x5 : Int32) (x6 : Int32) (x10 : Int32) (x11 : Int32) (K133 : CS → Int32 → Int32 → Int32 → Int32 → Int32 → Option (CS × Int32))  (c : CS) (x7 : Int32) (x8 : Int32) (x9 : Int32) (x13 : Int32) (s0 : Int32) : Option (CS × Int32) :=
  K133 c x7 x8 x9 s0 (x13 + 1)
set_option maxRecDepth 100000 in
set_option maxHeartbeats 4000000 in
theorem w_L_holds_b471 {E : zE} {X : zX} {h0 : Hp} {x : Nat} {n : Nat} {x1 : Int32} {x2 : Int32} {x3 : Int32} {x4 : Int32} {x5 : Int32} {x6 : Int32} {x10 : Int32} {x11 : Int32} {K133 : CS → Int32 → Int32 → Int32 → Int32 → Int32 → Option (CS × Int32)} {fu : Nat} (C : zC E X RL cL_holds 24 (some .boolean) 18) (hst : (xl X).stackTraces = false) (hR1 : 741 ≤ (xR X).cells) (hR2 : 4446 ≤ (xR X).slots) (hK133 : ∀ (c : CS) (x7 : Int32) (x8 : Int32) (x9 : Int32) (x12 : Int32) (x13 : Int32) (r : (CS × Int32)) (k n9 : Nat), (k + (fu * 11 + 417) ≤ 741 ∧ n9 + (fu * 66 + 2502) ≤ 4446) → K133 c x7 x8 x9 x12 x13 = some r → zW E X 24 k n9 (MQ (xb X) (zQ E (some (.int r.2)) (pC E h0 x r.1)) (xa X) (xs X) 741 4446 (zA E)) 133 (pC E h0 x c) [(0, .ref x), (1, .int x1), (2, .int x2), (3, .int x3), (4, .int x4), (5, .int x5), (6, .int x6), (7, .int x7), (8, .int x8), (9, .int x9), (10, .int x10), (11, .int x11), (12, .int x12), (13, .int x13)] []) {c : CS} {x7 : Int32} {x8 : Int32} {x9 : Int32} {x13 : Int32} {s0 : Int32} {r : (CS × Int32)} {k n9 : Nat} (hk : (k + (fu * 11 + 417) ≤ 741 ∧ n9 + (fu * 66 + 2502) ≤ 4446)) (hf : f_L_holds_b471 n x1 x2 x3 x4 x5 x6 x10 x11 K133 c x7 x8 x9 x13 s0 = some r) : zW E X 24 k n9 (MQ (xb X) (zQ E (some (.int r.2)) (pC E h0 x r.1)) (xa X) (xs X) 741 4446 (zA E)) 471 (pC E h0 x c) [(0, .ref x), (1, .int x1), (2, .int x2), (3, .int x3), (4, .int x4), (5, .int x5), (6, .int x6), (7, .int x7), (8, .int x8), (9, .int x9), (10, .int x10), (11, .int x11), (13, .int x13)] [.int s0] := by
  obtain ⟨hk1, hk2⟩ := hk
  unfold f_L_holds_b471 at hf
  refine z_istore (lv' := [(12, .int s0), (0, .ref x), (1, .int x1), (2, .int x2), (3, .int x3), (4, .int x4), (5, .int x5), (6, .int x6), (7, .int x7), (8, .int x8), (9, .int x9), (10, .int x10), (11, .int x11), (13, .int x13)]) C dL_holds_471 (by decide) rfl ?_
  refine z_iinc (lv' := [(13, .int (x13 + 1)), (12, .int s0), (0, .ref x), (1, .int x1), (2, .int x2), (3, .int x3), (4, .int x4), (5, .int x5), (6, .int x6), (7, .int x7), (8, .int x8), (9, .int x9), (10, .int x10), (11, .int x11)]) C dL_holds_473 13 (x13 + 1) rfl rfl (by decide) rfl ?_
  refine z_goto C 133 dL_holds_476 (by decide) ?_
  exact z_sub [2, 3, 4, 5, 6, 7, 8, 9, 10, 11, 12, 13, 1, 0] rfl (hK133 _ _ _ _ _ _ _ _ _ ⟨by omega, by omega⟩ hf)
def f_L_holds_b470 (n : Nat) (x1 : Int32) (x2 : Int32) (x3 : Int32) (x4 : Int32) (x5 : Int32) (x6 : Int32) (x10 : Int32) (x11 : Int32) (K133 : CS → Int32 → Int32 → Int32 → Int32 → Int32 → Option (CS × Int32))  (c : CS) (x7 : Int32) (x8 : Int32) (x9 : Int32) (x13 : Int32) : Option (CS × Int32) :=
  f_L_holds_b471 n x1 x2 x3 x4 x5 x6 x10 x11 K133 c x7 x8 x9 x13 (0 : Int32)
set_option maxRecDepth 100000 in
set_option maxHeartbeats 4000000 in
theorem w_L_holds_b470 {E : zE} {X : zX} {h0 : Hp} {x : Nat} {n : Nat} {x1 : Int32} {x2 : Int32} {x3 : Int32} {x4 : Int32} {x5 : Int32} {x6 : Int32} {x10 : Int32} {x11 : Int32} {K133 : CS → Int32 → Int32 → Int32 → Int32 → Int32 → Option (CS × Int32)} {fu : Nat} (C : zC E X RL cL_holds 24 (some .boolean) 18) (hst : (xl X).stackTraces = false) (hR1 : 741 ≤ (xR X).cells) (hR2 : 4446 ≤ (xR X).slots) (hK133 : ∀ (c : CS) (x7 : Int32) (x8 : Int32) (x9 : Int32) (x12 : Int32) (x13 : Int32) (r : (CS × Int32)) (k n9 : Nat), (k + (fu * 11 + 417) ≤ 741 ∧ n9 + (fu * 66 + 2502) ≤ 4446) → K133 c x7 x8 x9 x12 x13 = some r → zW E X 24 k n9 (MQ (xb X) (zQ E (some (.int r.2)) (pC E h0 x r.1)) (xa X) (xs X) 741 4446 (zA E)) 133 (pC E h0 x c) [(0, .ref x), (1, .int x1), (2, .int x2), (3, .int x3), (4, .int x4), (5, .int x5), (6, .int x6), (7, .int x7), (8, .int x8), (9, .int x9), (10, .int x10), (11, .int x11), (12, .int x12), (13, .int x13)] []) {c : CS} {x7 : Int32} {x8 : Int32} {x9 : Int32} {x13 : Int32} {r : (CS × Int32)} {k n9 : Nat} (hk : (k + (fu * 11 + 417) ≤ 741 ∧ n9 + (fu * 66 + 2502) ≤ 4446)) (hf : f_L_holds_b470 n x1 x2 x3 x4 x5 x6 x10 x11 K133 c x7 x8 x9 x13 = some r) : zW E X 24 k n9 (MQ (xb X) (zQ E (some (.int r.2)) (pC E h0 x r.1)) (xa X) (xs X) 741 4446 (zA E)) 470 (pC E h0 x c) [(0, .ref x), (1, .int x1), (2, .int x2), (3, .int x3), (4, .int x4), (5, .int x5), (6, .int x6), (7, .int x7), (8, .int x8), (9, .int x9), (10, .int x10), (11, .int x11), (13, .int x13)] [] := by
  obtain ⟨hk1, hk2⟩ := hk
  unfold f_L_holds_b470 at hf
  refine z_iconst C (0 : Int32) dL_holds_470 (by decide) ?_
  exact z_sub [0, 1, 2, 3, 4, 5, 6, 7, 8, 9, 10, 11, 12] rfl (w_L_holds_b471 C hst hR1 hR2 hK133 ⟨by omega, by omega⟩ hf)
def f_L_holds_b466 (n : Nat) (x1 : Int32) (x2 : Int32) (x3 : Int32) (x4 : Int32) (x5 : Int32) (x6 : Int32) (x10 : Int32) (x11 : Int32) (K133 : CS → Int32 → Int32 → Int32 → Int32 → Int32 → Option (CS × Int32))  (c : CS) (x7 : Int32) (x8 : Int32) (x9 : Int32) (x13 : Int32) : Option (CS × Int32) :=
  f_L_holds_b471 n x1 x2 x3 x4 x5 x6 x10 x11 K133 c x7 x8 x9 x13 (1 : Int32)
set_option maxRecDepth 100000 in
set_option maxHeartbeats 4000000 in
theorem w_L_holds_b466 {E : zE} {X : zX} {h0 : Hp} {x : Nat} {n : Nat} {x1 : Int32} {x2 : Int32} {x3 : Int32} {x4 : Int32} {x5 : Int32} {x6 : Int32} {x10 : Int32} {x11 : Int32} {K133 : CS → Int32 → Int32 → Int32 → Int32 → Int32 → Option (CS × Int32)} {fu : Nat} (C : zC E X RL cL_holds 24 (some .boolean) 18) (hst : (xl X).stackTraces = false) (hR1 : 741 ≤ (xR X).cells) (hR2 : 4446 ≤ (xR X).slots) (hK133 : ∀ (c : CS) (x7 : Int32) (x8 : Int32) (x9 : Int32) (x12 : Int32) (x13 : Int32) (r : (CS × Int32)) (k n9 : Nat), (k + (fu * 11 + 417) ≤ 741 ∧ n9 + (fu * 66 + 2502) ≤ 4446) → K133 c x7 x8 x9 x12 x13 = some r → zW E X 24 k n9 (MQ (xb X) (zQ E (some (.int r.2)) (pC E h0 x r.1)) (xa X) (xs X) 741 4446 (zA E)) 133 (pC E h0 x c) [(0, .ref x), (1, .int x1), (2, .int x2), (3, .int x3), (4, .int x4), (5, .int x5), (6, .int x6), (7, .int x7), (8, .int x8), (9, .int x9), (10, .int x10), (11, .int x11), (12, .int x12), (13, .int x13)] []) {c : CS} {x7 : Int32} {x8 : Int32} {x9 : Int32} {x13 : Int32} {r : (CS × Int32)} {k n9 : Nat} (hk : (k + (fu * 11 + 417) ≤ 741 ∧ n9 + (fu * 66 + 2502) ≤ 4446)) (hf : f_L_holds_b466 n x1 x2 x3 x4 x5 x6 x10 x11 K133 c x7 x8 x9 x13 = some r) : zW E X 24 k n9 (MQ (xb X) (zQ E (some (.int r.2)) (pC E h0 x r.1)) (xa X) (xs X) 741 4446 (zA E)) 466 (pC E h0 x c) [(0, .ref x), (1, .int x1), (2, .int x2), (3, .int x3), (4, .int x4), (5, .int x5), (6, .int x6), (7, .int x7), (8, .int x8), (9, .int x9), (10, .int x10), (11, .int x11), (13, .int x13)] [] := by
  obtain ⟨hk1, hk2⟩ := hk
  unfold f_L_holds_b466 at hf
  refine z_iconst C (1 : Int32) dL_holds_466 (by decide) ?_
  refine z_goto C 471 dL_holds_467 (by decide) ?_
  exact z_sub [0, 1, 2, 3, 4, 5, 6, 7, 8, 9, 10, 11, 12] rfl (w_L_holds_b471 C hst hR1 hR2 hK133 ⟨by omega, by omega⟩ hf)
def f_L_holds_b401 (n : Nat) (x1 : Int32) (x2 : Int32) (x3 : Int32) (x4 : Int32) (x5 : Int32) (x6 : Int32) (x10 : Int32) (x11 : Int32) (K133 : CS → Int32 → Int32 → Int32 → Int32 → Int32 → Option (CS × Int32))  (c : CS) (x7 : Int32) (x8 : Int32) (x9 : Int32) (x13 : Int32) (x18 : Int32) : Option (CS × Int32) :=
  if ((jsshr x10 x13) &&& (1 : Int32)) = 0 then (f_L_holds_b466 n x1 x2 x3 x4 x5 x6 x10 x11 K133 c x7 x8 x9 x13) else ((f_L_call n c (3 : Int32) x11 (0 : Int32) (0 : Int32)).bind (fun q419 => (f_L_call n q419.1 (3 : Int32) x11 (1 : Int32) (0 : Int32)).bind (fun q428 => if x18 < (q419.2 + q428.2) then (f_L_holds_b466 n x1 x2 x3 x4 x5 x6 x10 x11 K133 q428.1 x7 x8 x9 x13) else ((f_L_call n q428.1 (3 : Int32) x11 (0 : Int32) (0 : Int32)).bind (fun q443 => (f_L_call n q443.1 (3 : Int32) x11 (1 : Int32) (0 : Int32)).bind (fun q452 => if x18 = (q443.2 + q452.2) then (if x13 < x11 then (f_L_holds_b470 n x1 x2 x3 x4 x5 x6 x10 x11 K133 q452.1 x7 x8 x9 x13) else (f_L_holds_b466 n x1 x2 x3 x4 x5 x6 x10 x11 K133 q452.1 x7 x8 x9 x13)) else (f_L_holds_b470 n x1 x2 x3 x4 x5 x6 x10 x11 K133 q452.1 x7 x8 x9 x13)))))))
set_option maxRecDepth 100000 in
set_option maxHeartbeats 4000000 in
theorem w_L_holds_b401 {E : zE} {X : zX} {h0 : Hp} {x : Nat} {n : Nat} {x1 : Int32} {x2 : Int32} {x3 : Int32} {x4 : Int32} {x5 : Int32} {x6 : Int32} {x10 : Int32} {x11 : Int32} {K133 : CS → Int32 → Int32 → Int32 → Int32 → Int32 → Option (CS × Int32)} {fu : Nat} (C : zC E X RL cL_holds 24 (some .boolean) 18) (hst : (xl X).stackTraces = false) (hR1 : 741 ≤ (xR X).cells) (hR2 : 4446 ≤ (xR X).slots) (hK133 : ∀ (c : CS) (x7 : Int32) (x8 : Int32) (x9 : Int32) (x12 : Int32) (x13 : Int32) (r : (CS × Int32)) (k n9 : Nat), (k + (fu * 11 + 417) ≤ 741 ∧ n9 + (fu * 66 + 2502) ≤ 4446) → K133 c x7 x8 x9 x12 x13 = some r → zW E X 24 k n9 (MQ (xb X) (zQ E (some (.int r.2)) (pC E h0 x r.1)) (xa X) (xs X) 741 4446 (zA E)) 133 (pC E h0 x c) [(0, .ref x), (1, .int x1), (2, .int x2), (3, .int x3), (4, .int x4), (5, .int x5), (6, .int x6), (7, .int x7), (8, .int x8), (9, .int x9), (10, .int x10), (11, .int x11), (12, .int x12), (13, .int x13)] []) {c : CS} {x7 : Int32} {x8 : Int32} {x9 : Int32} {x13 : Int32} {x18 : Int32} {r : (CS × Int32)} {k n9 : Nat} (hk : (k + (fu * 11 + 421) ≤ 741 ∧ n9 + (fu * 66 + 2526) ≤ 4446)) (hf : f_L_holds_b401 n x1 x2 x3 x4 x5 x6 x10 x11 K133 c x7 x8 x9 x13 x18 = some r) : zW E X 24 k n9 (MQ (xb X) (zQ E (some (.int r.2)) (pC E h0 x r.1)) (xa X) (xs X) 741 4446 (zA E)) 401 (pC E h0 x c) [(0, .ref x), (1, .int x1), (2, .int x2), (3, .int x3), (4, .int x4), (5, .int x5), (6, .int x6), (7, .int x7), (8, .int x8), (9, .int x9), (10, .int x10), (11, .int x11), (13, .int x13), (18, .int x18)] [] := by
  obtain ⟨hk1, hk2⟩ := hk
  unfold f_L_holds_b401 at hf
  refine z_iload C dL_holds_401 10 rfl ?_
  refine z_iload C dL_holds_403 12 rfl ?_
  refine z_ishr C dL_holds_405 ?_
  refine z_iconst C (1 : Int32) dL_holds_406 (by decide) ?_
  refine z_iand C dL_holds_407 ?_
  refine z_if_eq C 466 dL_holds_408 (by decide) (fun c408 => ?_) (fun c408 => ?_)
  · replace hf := ip c408 hf
    exact z_sub [0, 1, 2, 3, 4, 5, 6, 7, 8, 9, 10, 11, 12] rfl (w_L_holds_b466 C hst hR1 hR2 hK133 ⟨by omega, by omega⟩ hf)
  · replace hf := iN c408 hf
    refine z_iload C dL_holds_411 13 rfl ?_
    refine z_aload_n C dL_holds_413 0 rfl ?_
    refine z_iconst C (3 : Int32) dL_holds_414 (by decide) ?_
    refine z_iload C dL_holds_415 11 rfl ?_
    refine z_iconst C (0 : Int32) dL_holds_417 (by decide) ?_
    refine z_iconst C (0 : Int32) dL_holds_418 (by decide) ?_
    obtain ⟨q419, hq419, hf⟩ := bd_some hf
    refine z_callK (K := 1) C 422 [.ref x, .int (3 : Int32), .int x11, .int (0 : Int32), .int (0 : Int32)] [.int x18] (ct_L_call hst hq419) co_L_call ml_L_139 st_L_call ini_L ⟨by decide +kernel, by decide +kernel, by show _ = some 5; decide +kernel⟩ (by decide) (by decide) rfl (Nat.le_of_ble_eq_true rfl) ⟨by omega, by omega⟩ rfl dL_holds_419 ?_
    refine z_aload_n C dL_holds_422 0 rfl ?_
    refine z_iconst C (3 : Int32) dL_holds_423 (by decide) ?_
    refine z_iload C dL_holds_424 11 rfl ?_
    refine z_iconst C (1 : Int32) dL_holds_426 (by decide) ?_
    refine z_iconst C (0 : Int32) dL_holds_427 (by decide) ?_
    obtain ⟨q428, hq428, hf⟩ := bd_some hf
    refine z_callK (K := 1) C 431 [.ref x, .int (3 : Int32), .int x11, .int (1 : Int32), .int (0 : Int32)] [.int q419.2, .int x18] (ct_L_call hst hq428) co_L_call ml_L_139 st_L_call ini_L ⟨by decide +kernel, by decide +kernel, by show _ = some 5; decide +kernel⟩ (by decide) (by decide) rfl (Nat.le_of_ble_eq_true rfl) ⟨by omega, by omega⟩ rfl dL_holds_428 ?_
    refine z_iadd C dL_holds_431 ?_
    refine z_icmp_lt C 466 dL_holds_432 (by decide) (fun c432 => ?_) (fun c432 => ?_)
    · replace hf := ip c432 hf
      exact z_sub [0, 1, 2, 3, 4, 5, 6, 7, 8, 9, 10, 11, 12] rfl (w_L_holds_b466 C hst hR1 hR2 hK133 ⟨by omega, by omega⟩ hf)
    · replace hf := iN c432 hf
      refine z_iload C dL_holds_435 13 rfl ?_
      refine z_aload_n C dL_holds_437 0 rfl ?_
      refine z_iconst C (3 : Int32) dL_holds_438 (by decide) ?_
      refine z_iload C dL_holds_439 11 rfl ?_
      refine z_iconst C (0 : Int32) dL_holds_441 (by decide) ?_
      refine z_iconst C (0 : Int32) dL_holds_442 (by decide) ?_
      obtain ⟨q443, hq443, hf⟩ := bd_some hf
      refine z_callK (K := 1) C 446 [.ref x, .int (3 : Int32), .int x11, .int (0 : Int32), .int (0 : Int32)] [.int x18] (ct_L_call hst hq443) co_L_call ml_L_139 st_L_call ini_L ⟨by decide +kernel, by decide +kernel, by show _ = some 5; decide +kernel⟩ (by decide) (by decide) rfl (Nat.le_of_ble_eq_true rfl) ⟨by omega, by omega⟩ rfl dL_holds_443 ?_
      refine z_aload_n C dL_holds_446 0 rfl ?_
      refine z_iconst C (3 : Int32) dL_holds_447 (by decide) ?_
      refine z_iload C dL_holds_448 11 rfl ?_
      refine z_iconst C (1 : Int32) dL_holds_450 (by decide) ?_
      refine z_iconst C (0 : Int32) dL_holds_451 (by decide) ?_
      obtain ⟨q452, hq452, hf⟩ := bd_some hf
      refine z_callK (K := 1) C 455 [.ref x, .int (3 : Int32), .int x11, .int (1 : Int32), .int (0 : Int32)] [.int q443.2, .int x18] (ct_L_call hst hq452) co_L_call ml_L_139 st_L_call ini_L ⟨by decide +kernel, by decide +kernel, by show _ = some 5; decide +kernel⟩ (by decide) (by decide) rfl (Nat.le_of_ble_eq_true rfl) ⟨by omega, by omega⟩ rfl dL_holds_452 ?_
      refine z_iadd C dL_holds_455 ?_
      refine z_icmp_ne C 470 dL_holds_456 (by decide) (fun c456 => ?_) (fun c456 => ?_)
      · replace hf := iN c456 hf
        exact z_sub [0, 1, 2, 3, 4, 5, 6, 7, 8, 9, 10, 11, 12] rfl (w_L_holds_b470 C hst hR1 hR2 hK133 ⟨by omega, by omega⟩ hf)
      · replace hf := ip c456 hf
        refine z_iload C dL_holds_459 12 rfl ?_
        refine z_iload C dL_holds_461 11 rfl ?_
        refine z_icmp_lt C 470 dL_holds_463 (by decide) (fun c463 => ?_) (fun c463 => ?_)
        · replace hf := ip c463 hf
          exact z_sub [0, 1, 2, 3, 4, 5, 6, 7, 8, 9, 10, 11, 12] rfl (w_L_holds_b470 C hst hR1 hR2 hK133 ⟨by omega, by omega⟩ hf)
        · replace hf := iN c463 hf
          exact z_sub [0, 1, 2, 3, 4, 5, 6, 7, 8, 9, 10, 11, 12] rfl (w_L_holds_b466 C hst hR1 hR2 hK133 ⟨by omega, by omega⟩ hf)
def f_L_holds_b381 (n : Nat) (x1 : Int32) (x2 : Int32) (x3 : Int32) (x4 : Int32) (x5 : Int32) (x6 : Int32) (x10 : Int32) (x11 : Int32) (K133 : CS → Int32 → Int32 → Int32 → Int32 → Int32 → Option (CS × Int32))  (c : CS) (x7 : Int32) (x8 : Int32) (x9 : Int32) (x13 : Int32) (x15 : Int32) (x18 : Int32) : Option (CS × Int32) :=
  if x15 = (-1 : Int32) then (f_L_holds_b401 n x1 x2 x3 x4 x5 x6 x10 x11 K133 c x7 x8 x9 x13 x18) else ((f_L_call n c (4 : Int32) x15 (0 : Int32) (0 : Int32)).bind (fun q393 => if q393.2 = x13 then (f_L_holds_b401 n x1 x2 x3 x4 x5 x6 x10 x11 K133 q393.1 x7 x8 x9 x13 x18) else (f_L_holds_b470 n x1 x2 x3 x4 x5 x6 x10 x11 K133 q393.1 x7 x8 x9 x13)))
set_option maxRecDepth 100000 in
set_option maxHeartbeats 4000000 in
theorem w_L_holds_b381 {E : zE} {X : zX} {h0 : Hp} {x : Nat} {n : Nat} {x1 : Int32} {x2 : Int32} {x3 : Int32} {x4 : Int32} {x5 : Int32} {x6 : Int32} {x10 : Int32} {x11 : Int32} {K133 : CS → Int32 → Int32 → Int32 → Int32 → Int32 → Option (CS × Int32)} {fu : Nat} (C : zC E X RL cL_holds 24 (some .boolean) 18) (hst : (xl X).stackTraces = false) (hR1 : 741 ≤ (xR X).cells) (hR2 : 4446 ≤ (xR X).slots) (hK133 : ∀ (c : CS) (x7 : Int32) (x8 : Int32) (x9 : Int32) (x12 : Int32) (x13 : Int32) (r : (CS × Int32)) (k n9 : Nat), (k + (fu * 11 + 417) ≤ 741 ∧ n9 + (fu * 66 + 2502) ≤ 4446) → K133 c x7 x8 x9 x12 x13 = some r → zW E X 24 k n9 (MQ (xb X) (zQ E (some (.int r.2)) (pC E h0 x r.1)) (xa X) (xs X) 741 4446 (zA E)) 133 (pC E h0 x c) [(0, .ref x), (1, .int x1), (2, .int x2), (3, .int x3), (4, .int x4), (5, .int x5), (6, .int x6), (7, .int x7), (8, .int x8), (9, .int x9), (10, .int x10), (11, .int x11), (12, .int x12), (13, .int x13)] []) {c : CS} {x7 : Int32} {x8 : Int32} {x9 : Int32} {x13 : Int32} {x15 : Int32} {x18 : Int32} {r : (CS × Int32)} {k n9 : Nat} (hk : (k + (fu * 11 + 422) ≤ 741 ∧ n9 + (fu * 66 + 2532) ≤ 4446)) (hf : f_L_holds_b381 n x1 x2 x3 x4 x5 x6 x10 x11 K133 c x7 x8 x9 x13 x15 x18 = some r) : zW E X 24 k n9 (MQ (xb X) (zQ E (some (.int r.2)) (pC E h0 x r.1)) (xa X) (xs X) 741 4446 (zA E)) 381 (pC E h0 x c) [(0, .ref x), (1, .int x1), (2, .int x2), (3, .int x3), (4, .int x4), (5, .int x5), (6, .int x6), (7, .int x7), (8, .int x8), (9, .int x9), (10, .int x10), (11, .int x11), (13, .int x13), (15, .int x15), (18, .int x18)] [] := by
  obtain ⟨hk1, hk2⟩ := hk
  unfold f_L_holds_b381 at hf
  refine z_iload C dL_holds_381 13 rfl ?_
  refine z_iconst C (-1 : Int32) dL_holds_383 (by decide) ?_
  refine z_icmp_eq C 401 dL_holds_384 (by decide) (fun c384 => ?_) (fun c384 => ?_)
  · replace hf := ip c384 hf
    exact z_sub [0, 1, 2, 3, 4, 5, 6, 7, 8, 9, 10, 11, 12, 14] rfl (w_L_holds_b401 C hst hR1 hR2 hK133 ⟨by omega, by omega⟩ hf)
  · replace hf := iN c384 hf
    refine z_aload_n C dL_holds_387 0 rfl ?_
    refine z_iconst C (4 : Int32) dL_holds_388 (by decide) ?_
    refine z_iload C dL_holds_389 13 rfl ?_
    refine z_iconst C (0 : Int32) dL_holds_391 (by decide) ?_
    refine z_iconst C (0 : Int32) dL_holds_392 (by decide) ?_
    obtain ⟨q393, hq393, hf⟩ := bd_some hf
    refine z_callK (K := 1) C 396 [.ref x, .int (4 : Int32), .int x15, .int (0 : Int32), .int (0 : Int32)] [] (ct_L_call hst hq393) co_L_call ml_L_139 st_L_call ini_L ⟨by decide +kernel, by decide +kernel, by show _ = some 5; decide +kernel⟩ (by decide) (by decide) rfl (Nat.le_of_ble_eq_true rfl) ⟨by omega, by omega⟩ rfl dL_holds_393 ?_
    refine z_iload C dL_holds_396 12 rfl ?_
    refine z_icmp_ne C 470 dL_holds_398 (by decide) (fun c398 => ?_) (fun c398 => ?_)
    · replace hf := iN c398 hf
      exact z_sub [0, 1, 2, 3, 4, 5, 6, 7, 8, 9, 10, 11, 12] rfl (w_L_holds_b470 C hst hR1 hR2 hK133 ⟨by omega, by omega⟩ hf)
    · replace hf := ip c398 hf
      exact z_sub [0, 1, 2, 3, 4, 5, 6, 7, 8, 9, 10, 11, 12, 14] rfl (w_L_holds_b401 C hst hR1 hR2 hK133 ⟨by omega, by omega⟩ hf)
def f_L_holds_b378 (n : Nat) (x1 : Int32) (x2 : Int32) (x3 : Int32) (x4 : Int32) (x5 : Int32) (x6 : Int32) (x10 : Int32) (x11 : Int32) (K133 : CS → Int32 → Int32 → Int32 → Int32 → Int32 → Option (CS × Int32))  (c : CS) (x7 : Int32) (x8 : Int32) (x9 : Int32) (x13 : Int32) (x15 : Int32) (x18 : Int32) (s0 : Int32) (s1 : Int32) : Option (CS × Int32) :=
  if s1 = s0 then (f_L_holds_b381 n x1 x2 x3 x4 x5 x6 x10 x11 K133 c x7 x8 x9 x13 x15 x18) else (f_L_holds_b470 n x1 x2 x3 x4 x5 x6 x10 x11 K133 c x7 x8 x9 x13)
set_option maxRecDepth 100000 in
set_option maxHeartbeats 4000000 in
theorem w_L_holds_b378 {E : zE} {X : zX} {h0 : Hp} {x : Nat} {n : Nat} {x1 : Int32} {x2 : Int32} {x3 : Int32} {x4 : Int32} {x5 : Int32} {x6 : Int32} {x10 : Int32} {x11 : Int32} {K133 : CS → Int32 → Int32 → Int32 → Int32 → Int32 → Option (CS × Int32)} {fu : Nat} (C : zC E X RL cL_holds 24 (some .boolean) 18) (hst : (xl X).stackTraces = false) (hR1 : 741 ≤ (xR X).cells) (hR2 : 4446 ≤ (xR X).slots) (hK133 : ∀ (c : CS) (x7 : Int32) (x8 : Int32) (x9 : Int32) (x12 : Int32) (x13 : Int32) (r : (CS × Int32)) (k n9 : Nat), (k + (fu * 11 + 417) ≤ 741 ∧ n9 + (fu * 66 + 2502) ≤ 4446) → K133 c x7 x8 x9 x12 x13 = some r → zW E X 24 k n9 (MQ (xb X) (zQ E (some (.int r.2)) (pC E h0 x r.1)) (xa X) (xs X) 741 4446 (zA E)) 133 (pC E h0 x c) [(0, .ref x), (1, .int x1), (2, .int x2), (3, .int x3), (4, .int x4), (5, .int x5), (6, .int x6), (7, .int x7), (8, .int x8), (9, .int x9), (10, .int x10), (11, .int x11), (12, .int x12), (13, .int x13)] []) {c : CS} {x7 : Int32} {x8 : Int32} {x9 : Int32} {x13 : Int32} {x15 : Int32} {x18 : Int32} {s0 : Int32} {s1 : Int32} {r : (CS × Int32)} {k n9 : Nat} (hk : (k + (fu * 11 + 422) ≤ 741 ∧ n9 + (fu * 66 + 2532) ≤ 4446)) (hf : f_L_holds_b378 n x1 x2 x3 x4 x5 x6 x10 x11 K133 c x7 x8 x9 x13 x15 x18 s0 s1 = some r) : zW E X 24 k n9 (MQ (xb X) (zQ E (some (.int r.2)) (pC E h0 x r.1)) (xa X) (xs X) 741 4446 (zA E)) 378 (pC E h0 x c) [(0, .ref x), (1, .int x1), (2, .int x2), (3, .int x3), (4, .int x4), (5, .int x5), (6, .int x6), (7, .int x7), (8, .int x8), (9, .int x9), (10, .int x10), (11, .int x11), (13, .int x13), (15, .int x15), (18, .int x18)] [.int s0, .int s1] := by
  obtain ⟨hk1, hk2⟩ := hk
  unfold f_L_holds_b378 at hf
  refine z_icmp_ne C 470 dL_holds_378 (by decide) (fun c378 => ?_) (fun c378 => ?_)
  · replace hf := iN c378 hf
    exact z_sub [0, 1, 2, 3, 4, 5, 6, 7, 8, 9, 10, 11, 12] rfl (w_L_holds_b470 C hst hR1 hR2 hK133 ⟨by omega, by omega⟩ hf)
  · replace hf := ip c378 hf
    exact z_sub [0, 1, 2, 3, 4, 5, 6, 7, 8, 9, 10, 11, 12, 13, 14] rfl (w_L_holds_b381 C hst hR1 hR2 hK133 ⟨by omega, by omega⟩ hf)
def f_L_holds_b366 (n : Nat) (x1 : Int32) (x2 : Int32) (x3 : Int32) (x4 : Int32) (x5 : Int32) (x6 : Int32) (x10 : Int32) (x11 : Int32) (K133 : CS → Int32 → Int32 → Int32 → Int32 → Int32 → Option (CS × Int32))  (c : CS) (x7 : Int32) (x8 : Int32) (x9 : Int32) (x13 : Int32) (x14 : Int32) (x15 : Int32) (x18 : Int32) (s0 : Int32) : Option (CS × Int32) :=
  if x14 = x6 then (f_L_holds_b378 n x1 x2 x3 x4 x5 x6 x10 x11 K133 c x7 x8 x9 x13 x15 x18 (0 : Int32) s0) else (f_L_holds_b378 n x1 x2 x3 x4 x5 x6 x10 x11 K133 c x7 x8 x9 x13 x15 x18 (1 : Int32) s0)
set_option maxRecDepth 100000 in
set_option maxHeartbeats 4000000 in
theorem w_L_holds_b366 {E : zE} {X : zX} {h0 : Hp} {x : Nat} {n : Nat} {x1 : Int32} {x2 : Int32} {x3 : Int32} {x4 : Int32} {x5 : Int32} {x6 : Int32} {x10 : Int32} {x11 : Int32} {K133 : CS → Int32 → Int32 → Int32 → Int32 → Int32 → Option (CS × Int32)} {fu : Nat} (C : zC E X RL cL_holds 24 (some .boolean) 18) (hst : (xl X).stackTraces = false) (hR1 : 741 ≤ (xR X).cells) (hR2 : 4446 ≤ (xR X).slots) (hK133 : ∀ (c : CS) (x7 : Int32) (x8 : Int32) (x9 : Int32) (x12 : Int32) (x13 : Int32) (r : (CS × Int32)) (k n9 : Nat), (k + (fu * 11 + 417) ≤ 741 ∧ n9 + (fu * 66 + 2502) ≤ 4446) → K133 c x7 x8 x9 x12 x13 = some r → zW E X 24 k n9 (MQ (xb X) (zQ E (some (.int r.2)) (pC E h0 x r.1)) (xa X) (xs X) 741 4446 (zA E)) 133 (pC E h0 x c) [(0, .ref x), (1, .int x1), (2, .int x2), (3, .int x3), (4, .int x4), (5, .int x5), (6, .int x6), (7, .int x7), (8, .int x8), (9, .int x9), (10, .int x10), (11, .int x11), (12, .int x12), (13, .int x13)] []) {c : CS} {x7 : Int32} {x8 : Int32} {x9 : Int32} {x13 : Int32} {x14 : Int32} {x15 : Int32} {x18 : Int32} {s0 : Int32} {r : (CS × Int32)} {k n9 : Nat} (hk : (k + (fu * 11 + 422) ≤ 741 ∧ n9 + (fu * 66 + 2532) ≤ 4446)) (hf : f_L_holds_b366 n x1 x2 x3 x4 x5 x6 x10 x11 K133 c x7 x8 x9 x13 x14 x15 x18 s0 = some r) : zW E X 24 k n9 (MQ (xb X) (zQ E (some (.int r.2)) (pC E h0 x r.1)) (xa X) (xs X) 741 4446 (zA E)) 366 (pC E h0 x c) [(0, .ref x), (1, .int x1), (2, .int x2), (3, .int x3), (4, .int x4), (5, .int x5), (6, .int x6), (7, .int x7), (8, .int x8), (9, .int x9), (10, .int x10), (11, .int x11), (13, .int x13), (14, .int x14), (15, .int x15), (18, .int x18)] [.int s0] := by
  obtain ⟨hk1, hk2⟩ := hk
  unfold f_L_holds_b366 at hf
  refine z_iload C dL_holds_366 13 rfl ?_
  refine z_iload C dL_holds_368 6 rfl ?_
  refine z_icmp_eq C 377 dL_holds_370 (by decide) (fun c370 => ?_) (fun c370 => ?_)
  · replace hf := ip c370 hf
    refine z_iconst C (0 : Int32) dL_holds_377 (by decide) ?_
    exact z_sub [0, 1, 2, 3, 4, 5, 6, 7, 8, 9, 10, 11, 12, 14, 15] rfl (w_L_holds_b378 C hst hR1 hR2 hK133 ⟨by omega, by omega⟩ hf)
  · replace hf := iN c370 hf
    refine z_iconst C (1 : Int32) dL_holds_373 (by decide) ?_
    refine z_goto C 378 dL_holds_374 (by decide) ?_
    exact z_sub [0, 1, 2, 3, 4, 5, 6, 7, 8, 9, 10, 11, 12, 14, 15] rfl (w_L_holds_b378 C hst hR1 hR2 hK133 ⟨by omega, by omega⟩ hf)
def f_L_holds_b347 (n : Nat) (x1 : Int32) (x2 : Int32) (x3 : Int32) (x4 : Int32) (x5 : Int32) (x6 : Int32) (x10 : Int32) (x11 : Int32) (K133 : CS → Int32 → Int32 → Int32 → Int32 → Int32 → Option (CS × Int32))  (c : CS) (x7 : Int32) (x8 : Int32) (x9 : Int32) (x13 : Int32) (x14 : Int32) (x15 : Int32) (x17 : Int32) (x18 : Int32) (s0 : Int32) (s1 : Int32) : Option (CS × Int32) :=
  if s1 = s0 then (if x3 = (1 : Int32) then (if x17 = (1 : Int32) then (f_L_holds_b366 n x1 x2 x3 x4 x5 x6 x10 x11 K133 c x7 x8 x9 x13 x14 x15 x18 (1 : Int32)) else (f_L_holds_b366 n x1 x2 x3 x4 x5 x6 x10 x11 K133 c x7 x8 x9 x13 x14 x15 x18 (0 : Int32))) else (f_L_holds_b381 n x1 x2 x3 x4 x5 x6 x10 x11 K133 c x7 x8 x9 x13 x15 x18)) else (f_L_holds_b470 n x1 x2 x3 x4 x5 x6 x10 x11 K133 c x7 x8 x9 x13)
set_option maxRecDepth 100000 in
set_option maxHeartbeats 4000000 in
theorem w_L_holds_b347 {E : zE} {X : zX} {h0 : Hp} {x : Nat} {n : Nat} {x1 : Int32} {x2 : Int32} {x3 : Int32} {x4 : Int32} {x5 : Int32} {x6 : Int32} {x10 : Int32} {x11 : Int32} {K133 : CS → Int32 → Int32 → Int32 → Int32 → Int32 → Option (CS × Int32)} {fu : Nat} (C : zC E X RL cL_holds 24 (some .boolean) 18) (hst : (xl X).stackTraces = false) (hR1 : 741 ≤ (xR X).cells) (hR2 : 4446 ≤ (xR X).slots) (hK133 : ∀ (c : CS) (x7 : Int32) (x8 : Int32) (x9 : Int32) (x12 : Int32) (x13 : Int32) (r : (CS × Int32)) (k n9 : Nat), (k + (fu * 11 + 417) ≤ 741 ∧ n9 + (fu * 66 + 2502) ≤ 4446) → K133 c x7 x8 x9 x12 x13 = some r → zW E X 24 k n9 (MQ (xb X) (zQ E (some (.int r.2)) (pC E h0 x r.1)) (xa X) (xs X) 741 4446 (zA E)) 133 (pC E h0 x c) [(0, .ref x), (1, .int x1), (2, .int x2), (3, .int x3), (4, .int x4), (5, .int x5), (6, .int x6), (7, .int x7), (8, .int x8), (9, .int x9), (10, .int x10), (11, .int x11), (12, .int x12), (13, .int x13)] []) {c : CS} {x7 : Int32} {x8 : Int32} {x9 : Int32} {x13 : Int32} {x14 : Int32} {x15 : Int32} {x17 : Int32} {x18 : Int32} {s0 : Int32} {s1 : Int32} {r : (CS × Int32)} {k n9 : Nat} (hk : (k + (fu * 11 + 422) ≤ 741 ∧ n9 + (fu * 66 + 2532) ≤ 4446)) (hf : f_L_holds_b347 n x1 x2 x3 x4 x5 x6 x10 x11 K133 c x7 x8 x9 x13 x14 x15 x17 x18 s0 s1 = some r) : zW E X 24 k n9 (MQ (xb X) (zQ E (some (.int r.2)) (pC E h0 x r.1)) (xa X) (xs X) 741 4446 (zA E)) 347 (pC E h0 x c) [(0, .ref x), (1, .int x1), (2, .int x2), (3, .int x3), (4, .int x4), (5, .int x5), (6, .int x6), (7, .int x7), (8, .int x8), (9, .int x9), (10, .int x10), (11, .int x11), (13, .int x13), (14, .int x14), (15, .int x15), (17, .int x17), (18, .int x18)] [.int s0, .int s1] := by
  obtain ⟨hk1, hk2⟩ := hk
  unfold f_L_holds_b347 at hf
  refine z_icmp_ne C 470 dL_holds_347 (by decide) (fun c347 => ?_) (fun c347 => ?_)
  · replace hf := iN c347 hf
    exact z_sub [0, 1, 2, 3, 4, 5, 6, 7, 8, 9, 10, 11, 12] rfl (w_L_holds_b470 C hst hR1 hR2 hK133 ⟨by omega, by omega⟩ hf)
  · replace hf := ip c347 hf
    refine z_iload_n C dL_holds_350 3 rfl ?_
    refine z_iconst C (1 : Int32) dL_holds_351 (by decide) ?_
    refine z_icmp_ne C 381 dL_holds_352 (by decide) (fun c352 => ?_) (fun c352 => ?_)
    · replace hf := iN c352 hf
      exact z_sub [0, 1, 2, 3, 4, 5, 6, 7, 8, 9, 10, 11, 12, 14, 16] rfl (w_L_holds_b381 C hst hR1 hR2 hK133 ⟨by omega, by omega⟩ hf)
    · replace hf := ip c352 hf
      refine z_iload C dL_holds_355 15 rfl ?_
      refine z_iconst C (1 : Int32) dL_holds_357 (by decide) ?_
      refine z_icmp_ne C 365 dL_holds_358 (by decide) (fun c358 => ?_) (fun c358 => ?_)
      · replace hf := iN c358 hf
        refine z_iconst C (0 : Int32) dL_holds_365 (by decide) ?_
        exact z_sub [0, 1, 2, 3, 4, 5, 6, 7, 8, 9, 10, 11, 12, 13, 14, 16] rfl (w_L_holds_b366 C hst hR1 hR2 hK133 ⟨by omega, by omega⟩ hf)
      · replace hf := ip c358 hf
        refine z_iconst C (1 : Int32) dL_holds_361 (by decide) ?_
        refine z_goto C 366 dL_holds_362 (by decide) ?_
        exact z_sub [0, 1, 2, 3, 4, 5, 6, 7, 8, 9, 10, 11, 12, 13, 14, 16] rfl (w_L_holds_b366 C hst hR1 hR2 hK133 ⟨by omega, by omega⟩ hf)
def f_L_holds_b337 (n : Nat) (x1 : Int32) (x2 : Int32) (x3 : Int32) (x4 : Int32) (x5 : Int32) (x6 : Int32) (x10 : Int32) (x11 : Int32) (K133 : CS → Int32 → Int32 → Int32 → Int32 → Int32 → Option (CS × Int32))  (c : CS) (x7 : Int32) (x8 : Int32) (x9 : Int32) (x13 : Int32) (x14 : Int32) (x15 : Int32) (x17 : Int32) (x18 : Int32) (s0 : Int32) : Option (CS × Int32) :=
  if x3 = (1 : Int32) then (f_L_holds_b347 n x1 x2 x3 x4 x5 x6 x10 x11 K133 c x7 x8 x9 x13 x14 x15 x17 x18 (0 : Int32) s0) else (f_L_holds_b347 n x1 x2 x3 x4 x5 x6 x10 x11 K133 c x7 x8 x9 x13 x14 x15 x17 x18 (1 : Int32) s0)
set_option maxRecDepth 100000 in
set_option maxHeartbeats 4000000 in
theorem w_L_holds_b337 {E : zE} {X : zX} {h0 : Hp} {x : Nat} {n : Nat} {x1 : Int32} {x2 : Int32} {x3 : Int32} {x4 : Int32} {x5 : Int32} {x6 : Int32} {x10 : Int32} {x11 : Int32} {K133 : CS → Int32 → Int32 → Int32 → Int32 → Int32 → Option (CS × Int32)} {fu : Nat} (C : zC E X RL cL_holds 24 (some .boolean) 18) (hst : (xl X).stackTraces = false) (hR1 : 741 ≤ (xR X).cells) (hR2 : 4446 ≤ (xR X).slots) (hK133 : ∀ (c : CS) (x7 : Int32) (x8 : Int32) (x9 : Int32) (x12 : Int32) (x13 : Int32) (r : (CS × Int32)) (k n9 : Nat), (k + (fu * 11 + 417) ≤ 741 ∧ n9 + (fu * 66 + 2502) ≤ 4446) → K133 c x7 x8 x9 x12 x13 = some r → zW E X 24 k n9 (MQ (xb X) (zQ E (some (.int r.2)) (pC E h0 x r.1)) (xa X) (xs X) 741 4446 (zA E)) 133 (pC E h0 x c) [(0, .ref x), (1, .int x1), (2, .int x2), (3, .int x3), (4, .int x4), (5, .int x5), (6, .int x6), (7, .int x7), (8, .int x8), (9, .int x9), (10, .int x10), (11, .int x11), (12, .int x12), (13, .int x13)] []) {c : CS} {x7 : Int32} {x8 : Int32} {x9 : Int32} {x13 : Int32} {x14 : Int32} {x15 : Int32} {x17 : Int32} {x18 : Int32} {s0 : Int32} {r : (CS × Int32)} {k n9 : Nat} (hk : (k + (fu * 11 + 422) ≤ 741 ∧ n9 + (fu * 66 + 2532) ≤ 4446)) (hf : f_L_holds_b337 n x1 x2 x3 x4 x5 x6 x10 x11 K133 c x7 x8 x9 x13 x14 x15 x17 x18 s0 = some r) : zW E X 24 k n9 (MQ (xb X) (zQ E (some (.int r.2)) (pC E h0 x r.1)) (xa X) (xs X) 741 4446 (zA E)) 337 (pC E h0 x c) [(0, .ref x), (1, .int x1), (2, .int x2), (3, .int x3), (4, .int x4), (5, .int x5), (6, .int x6), (7, .int x7), (8, .int x8), (9, .int x9), (10, .int x10), (11, .int x11), (13, .int x13), (14, .int x14), (15, .int x15), (17, .int x17), (18, .int x18)] [.int s0] := by
  obtain ⟨hk1, hk2⟩ := hk
  unfold f_L_holds_b337 at hf
  refine z_iload_n C dL_holds_337 3 rfl ?_
  refine z_iconst C (1 : Int32) dL_holds_338 (by decide) ?_
  refine z_icmp_eq C 346 dL_holds_339 (by decide) (fun c339 => ?_) (fun c339 => ?_)
  · replace hf := ip c339 hf
    refine z_iconst C (0 : Int32) dL_holds_346 (by decide) ?_
    exact z_sub [0, 1, 2, 3, 4, 5, 6, 7, 8, 9, 10, 11, 12, 13, 14, 15, 16] rfl (w_L_holds_b347 C hst hR1 hR2 hK133 ⟨by omega, by omega⟩ hf)
  · replace hf := iN c339 hf
    refine z_iconst C (1 : Int32) dL_holds_342 (by decide) ?_
    refine z_goto C 347 dL_holds_343 (by decide) ?_
    exact z_sub [0, 1, 2, 3, 4, 5, 6, 7, 8, 9, 10, 11, 12, 13, 14, 15, 16] rfl (w_L_holds_b347 C hst hR1 hR2 hK133 ⟨by omega, by omega⟩ hf)
def f_L_holds_b323 (n : Nat) (x1 : Int32) (x2 : Int32) (x3 : Int32) (x4 : Int32) (x5 : Int32) (x6 : Int32) (x10 : Int32) (x11 : Int32) (K133 : CS → Int32 → Int32 → Int32 → Int32 → Int32 → Option (CS × Int32))  (c : CS) (x7 : Int32) (x8 : Int32) (x9 : Int32) (x13 : Int32) (x14 : Int32) (x15 : Int32) (x17 : Int32) (x18 : Int32) (s0 : Int32) (s1 : Int32) : Option (CS × Int32) :=
  if s1 = s0 then (if x17 = (-1 : Int32) then (f_L_holds_b337 n x1 x2 x3 x4 x5 x6 x10 x11 K133 c x7 x8 x9 x13 x14 x15 x17 x18 (1 : Int32)) else (f_L_holds_b337 n x1 x2 x3 x4 x5 x6 x10 x11 K133 c x7 x8 x9 x13 x14 x15 x17 x18 (0 : Int32))) else (f_L_holds_b470 n x1 x2 x3 x4 x5 x6 x10 x11 K133 c x7 x8 x9 x13)
set_option maxRecDepth 100000 in
set_option maxHeartbeats 4000000 in
theorem w_L_holds_b323 {E : zE} {X : zX} {h0 : Hp} {x : Nat} {n : Nat} {x1 : Int32} {x2 : Int32} {x3 : Int32} {x4 : Int32} {x5 : Int32} {x6 : Int32} {x10 : Int32} {x11 : Int32} {K133 : CS → Int32 → Int32 → Int32 → Int32 → Int32 → Option (CS × Int32)} {fu : Nat} (C : zC E X RL cL_holds 24 (some .boolean) 18) (hst : (xl X).stackTraces = false) (hR1 : 741 ≤ (xR X).cells) (hR2 : 4446 ≤ (xR X).slots) (hK133 : ∀ (c : CS) (x7 : Int32) (x8 : Int32) (x9 : Int32) (x12 : Int32) (x13 : Int32) (r : (CS × Int32)) (k n9 : Nat), (k + (fu * 11 + 417) ≤ 741 ∧ n9 + (fu * 66 + 2502) ≤ 4446) → K133 c x7 x8 x9 x12 x13 = some r → zW E X 24 k n9 (MQ (xb X) (zQ E (some (.int r.2)) (pC E h0 x r.1)) (xa X) (xs X) 741 4446 (zA E)) 133 (pC E h0 x c) [(0, .ref x), (1, .int x1), (2, .int x2), (3, .int x3), (4, .int x4), (5, .int x5), (6, .int x6), (7, .int x7), (8, .int x8), (9, .int x9), (10, .int x10), (11, .int x11), (12, .int x12), (13, .int x13)] []) {c : CS} {x7 : Int32} {x8 : Int32} {x9 : Int32} {x13 : Int32} {x14 : Int32} {x15 : Int32} {x17 : Int32} {x18 : Int32} {s0 : Int32} {s1 : Int32} {r : (CS × Int32)} {k n9 : Nat} (hk : (k + (fu * 11 + 422) ≤ 741 ∧ n9 + (fu * 66 + 2532) ≤ 4446)) (hf : f_L_holds_b323 n x1 x2 x3 x4 x5 x6 x10 x11 K133 c x7 x8 x9 x13 x14 x15 x17 x18 s0 s1 = some r) : zW E X 24 k n9 (MQ (xb X) (zQ E (some (.int r.2)) (pC E h0 x r.1)) (xa X) (xs X) 741 4446 (zA E)) 323 (pC E h0 x c) [(0, .ref x), (1, .int x1), (2, .int x2), (3, .int x3), (4, .int x4), (5, .int x5), (6, .int x6), (7, .int x7), (8, .int x8), (9, .int x9), (10, .int x10), (11, .int x11), (13, .int x13), (14, .int x14), (15, .int x15), (17, .int x17), (18, .int x18)] [.int s0, .int s1] := by
  obtain ⟨hk1, hk2⟩ := hk
  unfold f_L_holds_b323 at hf
  refine z_icmp_ne C 470 dL_holds_323 (by decide) (fun c323 => ?_) (fun c323 => ?_)
  · replace hf := iN c323 hf
    exact z_sub [0, 1, 2, 3, 4, 5, 6, 7, 8, 9, 10, 11, 12] rfl (w_L_holds_b470 C hst hR1 hR2 hK133 ⟨by omega, by omega⟩ hf)
  · replace hf := ip c323 hf
    refine z_iload C dL_holds_326 15 rfl ?_
    refine z_iconst C (-1 : Int32) dL_holds_328 (by decide) ?_
    refine z_icmp_ne C 336 dL_holds_329 (by decide) (fun c329 => ?_) (fun c329 => ?_)
    · replace hf := iN c329 hf
      refine z_iconst C (0 : Int32) dL_holds_336 (by decide) ?_
      exact z_sub [0, 1, 2, 3, 4, 5, 6, 7, 8, 9, 10, 11, 12, 13, 14, 15, 16] rfl (w_L_holds_b337 C hst hR1 hR2 hK133 ⟨by omega, by omega⟩ hf)
    · replace hf := ip c329 hf
      refine z_iconst C (1 : Int32) dL_holds_332 (by decide) ?_
      refine z_goto C 337 dL_holds_333 (by decide) ?_
      exact z_sub [0, 1, 2, 3, 4, 5, 6, 7, 8, 9, 10, 11, 12, 13, 14, 15, 16] rfl (w_L_holds_b337 C hst hR1 hR2 hK133 ⟨by omega, by omega⟩ hf)
def f_L_holds_b303 (n : Nat) (x1 : Int32) (x2 : Int32) (x3 : Int32) (x4 : Int32) (x5 : Int32) (x6 : Int32) (x10 : Int32) (x11 : Int32) (K133 : CS → Int32 → Int32 → Int32 → Int32 → Int32 → Option (CS × Int32))  (c : CS) (x7 : Int32) (x8 : Int32) (x9 : Int32) (x13 : Int32) (x14 : Int32) (x15 : Int32) (x17 : Int32) (x18 : Int32) (s0 : Int32) (s1 : Int32) : Option (CS × Int32) :=
  if s1 = s0 then (if x17 = 0 then (f_L_holds_b323 n x1 x2 x3 x4 x5 x6 x10 x11 K133 c x7 x8 x9 x13 x14 x15 x17 x18 (1 : Int32) ((jsshr x10 x13) &&& (1 : Int32))) else (f_L_holds_b323 n x1 x2 x3 x4 x5 x6 x10 x11 K133 c x7 x8 x9 x13 x14 x15 x17 x18 (0 : Int32) ((jsshr x10 x13) &&& (1 : Int32)))) else (f_L_holds_b470 n x1 x2 x3 x4 x5 x6 x10 x11 K133 c x7 x8 x9 x13)
set_option maxRecDepth 100000 in
set_option maxHeartbeats 4000000 in
theorem w_L_holds_b303 {E : zE} {X : zX} {h0 : Hp} {x : Nat} {n : Nat} {x1 : Int32} {x2 : Int32} {x3 : Int32} {x4 : Int32} {x5 : Int32} {x6 : Int32} {x10 : Int32} {x11 : Int32} {K133 : CS → Int32 → Int32 → Int32 → Int32 → Int32 → Option (CS × Int32)} {fu : Nat} (C : zC E X RL cL_holds 24 (some .boolean) 18) (hst : (xl X).stackTraces = false) (hR1 : 741 ≤ (xR X).cells) (hR2 : 4446 ≤ (xR X).slots) (hK133 : ∀ (c : CS) (x7 : Int32) (x8 : Int32) (x9 : Int32) (x12 : Int32) (x13 : Int32) (r : (CS × Int32)) (k n9 : Nat), (k + (fu * 11 + 417) ≤ 741 ∧ n9 + (fu * 66 + 2502) ≤ 4446) → K133 c x7 x8 x9 x12 x13 = some r → zW E X 24 k n9 (MQ (xb X) (zQ E (some (.int r.2)) (pC E h0 x r.1)) (xa X) (xs X) 741 4446 (zA E)) 133 (pC E h0 x c) [(0, .ref x), (1, .int x1), (2, .int x2), (3, .int x3), (4, .int x4), (5, .int x5), (6, .int x6), (7, .int x7), (8, .int x8), (9, .int x9), (10, .int x10), (11, .int x11), (12, .int x12), (13, .int x13)] []) {c : CS} {x7 : Int32} {x8 : Int32} {x9 : Int32} {x13 : Int32} {x14 : Int32} {x15 : Int32} {x17 : Int32} {x18 : Int32} {s0 : Int32} {s1 : Int32} {r : (CS × Int32)} {k n9 : Nat} (hk : (k + (fu * 11 + 422) ≤ 741 ∧ n9 + (fu * 66 + 2532) ≤ 4446)) (hf : f_L_holds_b303 n x1 x2 x3 x4 x5 x6 x10 x11 K133 c x7 x8 x9 x13 x14 x15 x17 x18 s0 s1 = some r) : zW E X 24 k n9 (MQ (xb X) (zQ E (some (.int r.2)) (pC E h0 x r.1)) (xa X) (xs X) 741 4446 (zA E)) 303 (pC E h0 x c) [(0, .ref x), (1, .int x1), (2, .int x2), (3, .int x3), (4, .int x4), (5, .int x5), (6, .int x6), (7, .int x7), (8, .int x8), (9, .int x9), (10, .int x10), (11, .int x11), (13, .int x13), (14, .int x14), (15, .int x15), (17, .int x17), (18, .int x18)] [.int s0, .int s1] := by
  obtain ⟨hk1, hk2⟩ := hk
  unfold f_L_holds_b303 at hf
  refine z_icmp_ne C 470 dL_holds_303 (by decide) (fun c303 => ?_) (fun c303 => ?_)
  · replace hf := iN c303 hf
    exact z_sub [0, 1, 2, 3, 4, 5, 6, 7, 8, 9, 10, 11, 12] rfl (w_L_holds_b470 C hst hR1 hR2 hK133 ⟨by omega, by omega⟩ hf)
  · replace hf := ip c303 hf
    refine z_iload C dL_holds_306 10 rfl ?_
    refine z_iload C dL_holds_308 12 rfl ?_
    refine z_ishr C dL_holds_310 ?_
    refine z_iconst C (1 : Int32) dL_holds_311 (by decide) ?_
    refine z_iand C dL_holds_312 ?_
    refine z_iload C dL_holds_313 15 rfl ?_
    refine z_if_ne C 322 dL_holds_315 (by decide) (fun c315 => ?_) (fun c315 => ?_)
    · replace hf := iN c315 hf
      refine z_iconst C (0 : Int32) dL_holds_322 (by decide) ?_
      exact z_sub [0, 1, 2, 3, 4, 5, 6, 7, 8, 9, 10, 11, 12, 13, 14, 15, 16] rfl (w_L_holds_b323 C hst hR1 hR2 hK133 ⟨by omega, by omega⟩ hf)
    · replace hf := ip c315 hf
      refine z_iconst C (1 : Int32) dL_holds_318 (by decide) ?_
      refine z_goto C 323 dL_holds_319 (by decide) ?_
      exact z_sub [0, 1, 2, 3, 4, 5, 6, 7, 8, 9, 10, 11, 12, 13, 14, 15, 16] rfl (w_L_holds_b323 C hst hR1 hR2 hK133 ⟨by omega, by omega⟩ hf)
def f_L_holds_b293 (n : Nat) (x1 : Int32) (x2 : Int32) (x3 : Int32) (x4 : Int32) (x5 : Int32) (x6 : Int32) (x10 : Int32) (x11 : Int32) (K133 : CS → Int32 → Int32 → Int32 → Int32 → Int32 → Option (CS × Int32))  (c : CS) (x7 : Int32) (x8 : Int32) (x9 : Int32) (x13 : Int32) (x14 : Int32) (x15 : Int32) (x17 : Int32) (x18 : Int32) (s0 : Int32) (s1 : Int32) : Option (CS × Int32) :=
  if x2 = 0 then (f_L_holds_b303 n x1 x2 x3 x4 x5 x6 x10 x11 K133 c x7 x8 x9 x13 x14 x15 x17 x18 (0 : Int32) (s1 + s0)) else (f_L_holds_b303 n x1 x2 x3 x4 x5 x6 x10 x11 K133 c x7 x8 x9 x13 x14 x15 x17 x18 (1 : Int32) (s1 + s0))
set_option maxRecDepth 100000 in
set_option maxHeartbeats 4000000 in
theorem w_L_holds_b293 {E : zE} {X : zX} {h0 : Hp} {x : Nat} {n : Nat} {x1 : Int32} {x2 : Int32} {x3 : Int32} {x4 : Int32} {x5 : Int32} {x6 : Int32} {x10 : Int32} {x11 : Int32} {K133 : CS → Int32 → Int32 → Int32 → Int32 → Int32 → Option (CS × Int32)} {fu : Nat} (C : zC E X RL cL_holds 24 (some .boolean) 18) (hst : (xl X).stackTraces = false) (hR1 : 741 ≤ (xR X).cells) (hR2 : 4446 ≤ (xR X).slots) (hK133 : ∀ (c : CS) (x7 : Int32) (x8 : Int32) (x9 : Int32) (x12 : Int32) (x13 : Int32) (r : (CS × Int32)) (k n9 : Nat), (k + (fu * 11 + 417) ≤ 741 ∧ n9 + (fu * 66 + 2502) ≤ 4446) → K133 c x7 x8 x9 x12 x13 = some r → zW E X 24 k n9 (MQ (xb X) (zQ E (some (.int r.2)) (pC E h0 x r.1)) (xa X) (xs X) 741 4446 (zA E)) 133 (pC E h0 x c) [(0, .ref x), (1, .int x1), (2, .int x2), (3, .int x3), (4, .int x4), (5, .int x5), (6, .int x6), (7, .int x7), (8, .int x8), (9, .int x9), (10, .int x10), (11, .int x11), (12, .int x12), (13, .int x13)] []) {c : CS} {x7 : Int32} {x8 : Int32} {x9 : Int32} {x13 : Int32} {x14 : Int32} {x15 : Int32} {x17 : Int32} {x18 : Int32} {s0 : Int32} {s1 : Int32} {r : (CS × Int32)} {k n9 : Nat} (hk : (k + (fu * 11 + 422) ≤ 741 ∧ n9 + (fu * 66 + 2532) ≤ 4446)) (hf : f_L_holds_b293 n x1 x2 x3 x4 x5 x6 x10 x11 K133 c x7 x8 x9 x13 x14 x15 x17 x18 s0 s1 = some r) : zW E X 24 k n9 (MQ (xb X) (zQ E (some (.int r.2)) (pC E h0 x r.1)) (xa X) (xs X) 741 4446 (zA E)) 293 (pC E h0 x c) [(0, .ref x), (1, .int x1), (2, .int x2), (3, .int x3), (4, .int x4), (5, .int x5), (6, .int x6), (7, .int x7), (8, .int x8), (9, .int x9), (10, .int x10), (11, .int x11), (13, .int x13), (14, .int x14), (15, .int x15), (17, .int x17), (18, .int x18)] [.int s0, .int s1] := by
  obtain ⟨hk1, hk2⟩ := hk
  unfold f_L_holds_b293 at hf
  refine z_iadd C dL_holds_293 ?_
  refine z_iload_n C dL_holds_294 2 rfl ?_
  refine z_if_ne C 302 dL_holds_295 (by decide) (fun c295 => ?_) (fun c295 => ?_)
  · replace hf := iN c295 hf
    refine z_iconst C (1 : Int32) dL_holds_302 (by decide) ?_
    exact z_sub [0, 1, 2, 3, 4, 5, 6, 7, 8, 9, 10, 11, 12, 13, 14, 15, 16] rfl (w_L_holds_b303 C hst hR1 hR2 hK133 ⟨by omega, by omega⟩ hf)
  · replace hf := ip c295 hf
    refine z_iconst C (0 : Int32) dL_holds_298 (by decide) ?_
    refine z_goto C 303 dL_holds_299 (by decide) ?_
    exact z_sub [0, 1, 2, 3, 4, 5, 6, 7, 8, 9, 10, 11, 12, 13, 14, 15, 16] rfl (w_L_holds_b303 C hst hR1 hR2 hK133 ⟨by omega, by omega⟩ hf)
def f_L_holds_b281 (n : Nat) (x1 : Int32) (x2 : Int32) (x3 : Int32) (x4 : Int32) (x5 : Int32) (x6 : Int32) (x10 : Int32) (x11 : Int32) (K133 : CS → Int32 → Int32 → Int32 → Int32 → Int32 → Option (CS × Int32))  (c : CS) (x7 : Int32) (x8 : Int32) (x9 : Int32) (x13 : Int32) (x14 : Int32) (x15 : Int32) (x16 : Int32) (x17 : Int32) (x18 : Int32) (s0 : Int32) (s1 : Int32) : Option (CS × Int32) :=
  if x16 = (-1 : Int32) then (f_L_holds_b293 n x1 x2 x3 x4 x5 x6 x10 x11 K133 c x7 x8 x9 x13 x14 x15 x17 x18 (0 : Int32) (s1 + s0)) else (f_L_holds_b293 n x1 x2 x3 x4 x5 x6 x10 x11 K133 c x7 x8 x9 x13 x14 x15 x17 x18 (1 : Int32) (s1 + s0))
set_option maxRecDepth 100000 in
set_option maxHeartbeats 4000000 in
theorem w_L_holds_b281 {E : zE} {X : zX} {h0 : Hp} {x : Nat} {n : Nat} {x1 : Int32} {x2 : Int32} {x3 : Int32} {x4 : Int32} {x5 : Int32} {x6 : Int32} {x10 : Int32} {x11 : Int32} {K133 : CS → Int32 → Int32 → Int32 → Int32 → Int32 → Option (CS × Int32)} {fu : Nat} (C : zC E X RL cL_holds 24 (some .boolean) 18) (hst : (xl X).stackTraces = false) (hR1 : 741 ≤ (xR X).cells) (hR2 : 4446 ≤ (xR X).slots) (hK133 : ∀ (c : CS) (x7 : Int32) (x8 : Int32) (x9 : Int32) (x12 : Int32) (x13 : Int32) (r : (CS × Int32)) (k n9 : Nat), (k + (fu * 11 + 417) ≤ 741 ∧ n9 + (fu * 66 + 2502) ≤ 4446) → K133 c x7 x8 x9 x12 x13 = some r → zW E X 24 k n9 (MQ (xb X) (zQ E (some (.int r.2)) (pC E h0 x r.1)) (xa X) (xs X) 741 4446 (zA E)) 133 (pC E h0 x c) [(0, .ref x), (1, .int x1), (2, .int x2), (3, .int x3), (4, .int x4), (5, .int x5), (6, .int x6), (7, .int x7), (8, .int x8), (9, .int x9), (10, .int x10), (11, .int x11), (12, .int x12), (13, .int x13)] []) {c : CS} {x7 : Int32} {x8 : Int32} {x9 : Int32} {x13 : Int32} {x14 : Int32} {x15 : Int32} {x16 : Int32} {x17 : Int32} {x18 : Int32} {s0 : Int32} {s1 : Int32} {r : (CS × Int32)} {k n9 : Nat} (hk : (k + (fu * 11 + 422) ≤ 741 ∧ n9 + (fu * 66 + 2532) ≤ 4446)) (hf : f_L_holds_b281 n x1 x2 x3 x4 x5 x6 x10 x11 K133 c x7 x8 x9 x13 x14 x15 x16 x17 x18 s0 s1 = some r) : zW E X 24 k n9 (MQ (xb X) (zQ E (some (.int r.2)) (pC E h0 x r.1)) (xa X) (xs X) 741 4446 (zA E)) 281 (pC E h0 x c) [(0, .ref x), (1, .int x1), (2, .int x2), (3, .int x3), (4, .int x4), (5, .int x5), (6, .int x6), (7, .int x7), (8, .int x8), (9, .int x9), (10, .int x10), (11, .int x11), (13, .int x13), (14, .int x14), (15, .int x15), (16, .int x16), (17, .int x17), (18, .int x18)] [.int s0, .int s1] := by
  obtain ⟨hk1, hk2⟩ := hk
  unfold f_L_holds_b281 at hf
  refine z_iadd C dL_holds_281 ?_
  refine z_iload C dL_holds_282 15 rfl ?_
  refine z_iconst C (-1 : Int32) dL_holds_284 (by decide) ?_
  refine z_icmp_ne C 292 dL_holds_285 (by decide) (fun c285 => ?_) (fun c285 => ?_)
  · replace hf := iN c285 hf
    refine z_iconst C (1 : Int32) dL_holds_292 (by decide) ?_
    exact z_sub [0, 1, 2, 3, 4, 5, 6, 7, 8, 9, 10, 11, 12, 13, 14, 16, 17] rfl (w_L_holds_b293 C hst hR1 hR2 hK133 ⟨by omega, by omega⟩ hf)
  · replace hf := ip c285 hf
    refine z_iconst C (0 : Int32) dL_holds_288 (by decide) ?_
    refine z_goto C 293 dL_holds_289 (by decide) ?_
    exact z_sub [0, 1, 2, 3, 4, 5, 6, 7, 8, 9, 10, 11, 12, 13, 14, 16, 17] rfl (w_L_holds_b293 C hst hR1 hR2 hK133 ⟨by omega, by omega⟩ hf)
def f_L_holds_b270 (n : Nat) (x1 : Int32) (x2 : Int32) (x3 : Int32) (x4 : Int32) (x5 : Int32) (x6 : Int32) (x10 : Int32) (x11 : Int32) (K133 : CS → Int32 → Int32 → Int32 → Int32 → Int32 → Option (CS × Int32))  (c : CS) (x7 : Int32) (x8 : Int32) (x9 : Int32) (x13 : Int32) (x14 : Int32) (x15 : Int32) (x16 : Int32) (x17 : Int32) (x18 : Int32) (s0 : Int32) : Option (CS × Int32) :=
  if x15 = (-1 : Int32) then (f_L_holds_b281 n x1 x2 x3 x4 x5 x6 x10 x11 K133 c x7 x8 x9 x13 x14 x15 x16 x17 x18 (0 : Int32) s0) else (f_L_holds_b281 n x1 x2 x3 x4 x5 x6 x10 x11 K133 c x7 x8 x9 x13 x14 x15 x16 x17 x18 (1 : Int32) s0)
set_option maxRecDepth 100000 in
set_option maxHeartbeats 4000000 in
theorem w_L_holds_b270 {E : zE} {X : zX} {h0 : Hp} {x : Nat} {n : Nat} {x1 : Int32} {x2 : Int32} {x3 : Int32} {x4 : Int32} {x5 : Int32} {x6 : Int32} {x10 : Int32} {x11 : Int32} {K133 : CS → Int32 → Int32 → Int32 → Int32 → Int32 → Option (CS × Int32)} {fu : Nat} (C : zC E X RL cL_holds 24 (some .boolean) 18) (hst : (xl X).stackTraces = false) (hR1 : 741 ≤ (xR X).cells) (hR2 : 4446 ≤ (xR X).slots) (hK133 : ∀ (c : CS) (x7 : Int32) (x8 : Int32) (x9 : Int32) (x12 : Int32) (x13 : Int32) (r : (CS × Int32)) (k n9 : Nat), (k + (fu * 11 + 417) ≤ 741 ∧ n9 + (fu * 66 + 2502) ≤ 4446) → K133 c x7 x8 x9 x12 x13 = some r → zW E X 24 k n9 (MQ (xb X) (zQ E (some (.int r.2)) (pC E h0 x r.1)) (xa X) (xs X) 741 4446 (zA E)) 133 (pC E h0 x c) [(0, .ref x), (1, .int x1), (2, .int x2), (3, .int x3), (4, .int x4), (5, .int x5), (6, .int x6), (7, .int x7), (8, .int x8), (9, .int x9), (10, .int x10), (11, .int x11), (12, .int x12), (13, .int x13)] []) {c : CS} {x7 : Int32} {x8 : Int32} {x9 : Int32} {x13 : Int32} {x14 : Int32} {x15 : Int32} {x16 : Int32} {x17 : Int32} {x18 : Int32} {s0 : Int32} {r : (CS × Int32)} {k n9 : Nat} (hk : (k + (fu * 11 + 422) ≤ 741 ∧ n9 + (fu * 66 + 2532) ≤ 4446)) (hf : f_L_holds_b270 n x1 x2 x3 x4 x5 x6 x10 x11 K133 c x7 x8 x9 x13 x14 x15 x16 x17 x18 s0 = some r) : zW E X 24 k n9 (MQ (xb X) (zQ E (some (.int r.2)) (pC E h0 x r.1)) (xa X) (xs X) 741 4446 (zA E)) 270 (pC E h0 x c) [(0, .ref x), (1, .int x1), (2, .int x2), (3, .int x3), (4, .int x4), (5, .int x5), (6, .int x6), (7, .int x7), (8, .int x8), (9, .int x9), (10, .int x10), (11, .int x11), (13, .int x13), (14, .int x14), (15, .int x15), (16, .int x16), (17, .int x17), (18, .int x18)] [.int s0] := by
  obtain ⟨hk1, hk2⟩ := hk
  unfold f_L_holds_b270 at hf
  refine z_iload C dL_holds_270 14 rfl ?_
  refine z_iconst C (-1 : Int32) dL_holds_272 (by decide) ?_
  refine z_icmp_ne C 280 dL_holds_273 (by decide) (fun c273 => ?_) (fun c273 => ?_)
  · replace hf := iN c273 hf
    refine z_iconst C (1 : Int32) dL_holds_280 (by decide) ?_
    exact z_sub [0, 1, 2, 3, 4, 5, 6, 7, 8, 9, 10, 11, 12, 13, 14, 15, 16, 17] rfl (w_L_holds_b281 C hst hR1 hR2 hK133 ⟨by omega, by omega⟩ hf)
  · replace hf := ip c273 hf
    refine z_iconst C (0 : Int32) dL_holds_276 (by decide) ?_
    refine z_goto C 281 dL_holds_277 (by decide) ?_
    exact z_sub [0, 1, 2, 3, 4, 5, 6, 7, 8, 9, 10, 11, 12, 13, 14, 15, 16, 17] rfl (w_L_holds_b281 C hst hR1 hR2 hK133 ⟨by omega, by omega⟩ hf)
def f_L_holds_b256 (n : Nat) (x1 : Int32) (x2 : Int32) (x3 : Int32) (x4 : Int32) (x5 : Int32) (x6 : Int32) (x10 : Int32) (x11 : Int32) (K133 : CS → Int32 → Int32 → Int32 → Int32 → Int32 → Option (CS × Int32))  (c : CS) (x7 : Int32) (x8 : Int32) (x13 : Int32) (x14 : Int32) (x15 : Int32) (x16 : Int32) (x17 : Int32) (x18 : Int32) (s0 : Int32) (s1 : Int32) : Option (CS × Int32) :=
  if x14 = (-1 : Int32) then (f_L_holds_b270 n x1 x2 x3 x4 x5 x6 x10 x11 K133 c x7 x8 (s1 + s0) x13 x14 x15 x16 x17 x18 (0 : Int32)) else (f_L_holds_b270 n x1 x2 x3 x4 x5 x6 x10 x11 K133 c x7 x8 (s1 + s0) x13 x14 x15 x16 x17 x18 (1 : Int32))
set_option maxRecDepth 100000 in
set_option maxHeartbeats 4000000 in
theorem w_L_holds_b256 {E : zE} {X : zX} {h0 : Hp} {x : Nat} {n : Nat} {x1 : Int32} {x2 : Int32} {x3 : Int32} {x4 : Int32} {x5 : Int32} {x6 : Int32} {x10 : Int32} {x11 : Int32} {K133 : CS → Int32 → Int32 → Int32 → Int32 → Int32 → Option (CS × Int32)} {fu : Nat} (C : zC E X RL cL_holds 24 (some .boolean) 18) (hst : (xl X).stackTraces = false) (hR1 : 741 ≤ (xR X).cells) (hR2 : 4446 ≤ (xR X).slots) (hK133 : ∀ (c : CS) (x7 : Int32) (x8 : Int32) (x9 : Int32) (x12 : Int32) (x13 : Int32) (r : (CS × Int32)) (k n9 : Nat), (k + (fu * 11 + 417) ≤ 741 ∧ n9 + (fu * 66 + 2502) ≤ 4446) → K133 c x7 x8 x9 x12 x13 = some r → zW E X 24 k n9 (MQ (xb X) (zQ E (some (.int r.2)) (pC E h0 x r.1)) (xa X) (xs X) 741 4446 (zA E)) 133 (pC E h0 x c) [(0, .ref x), (1, .int x1), (2, .int x2), (3, .int x3), (4, .int x4), (5, .int x5), (6, .int x6), (7, .int x7), (8, .int x8), (9, .int x9), (10, .int x10), (11, .int x11), (12, .int x12), (13, .int x13)] []) {c : CS} {x7 : Int32} {x8 : Int32} {x13 : Int32} {x14 : Int32} {x15 : Int32} {x16 : Int32} {x17 : Int32} {x18 : Int32} {s0 : Int32} {s1 : Int32} {r : (CS × Int32)} {k n9 : Nat} (hk : (k + (fu * 11 + 422) ≤ 741 ∧ n9 + (fu * 66 + 2532) ≤ 4446)) (hf : f_L_holds_b256 n x1 x2 x3 x4 x5 x6 x10 x11 K133 c x7 x8 x13 x14 x15 x16 x17 x18 s0 s1 = some r) : zW E X 24 k n9 (MQ (xb X) (zQ E (some (.int r.2)) (pC E h0 x r.1)) (xa X) (xs X) 741 4446 (zA E)) 256 (pC E h0 x c) [(0, .ref x), (1, .int x1), (2, .int x2), (3, .int x3), (4, .int x4), (5, .int x5), (6, .int x6), (7, .int x7), (8, .int x8), (10, .int x10), (11, .int x11), (13, .int x13), (14, .int x14), (15, .int x15), (16, .int x16), (17, .int x17), (18, .int x18)] [.int s0, .int s1] := by
  obtain ⟨hk1, hk2⟩ := hk
  unfold f_L_holds_b256 at hf
  refine z_iadd C dL_holds_256 ?_
  refine z_istore (lv' := [(9, .int (s1 + s0)), (0, .ref x), (1, .int x1), (2, .int x2), (3, .int x3), (4, .int x4), (5, .int x5), (6, .int x6), (7, .int x7), (8, .int x8), (10, .int x10), (11, .int x11), (13, .int x13), (14, .int x14), (15, .int x15), (16, .int x16), (17, .int x17), (18, .int x18)]) C dL_holds_257 (by decide) rfl ?_
  refine z_iload C dL_holds_259 13 rfl ?_
  refine z_iconst C (-1 : Int32) dL_holds_261 (by decide) ?_
  refine z_icmp_ne C 269 dL_holds_262 (by decide) (fun c262 => ?_) (fun c262 => ?_)
  · replace hf := iN c262 hf
    refine z_iconst C (1 : Int32) dL_holds_269 (by decide) ?_
    exact z_sub [1, 2, 3, 4, 5, 6, 7, 8, 9, 0, 10, 11, 12, 13, 14, 15, 16, 17] rfl (w_L_holds_b270 C hst hR1 hR2 hK133 ⟨by omega, by omega⟩ hf)
  · replace hf := ip c262 hf
    refine z_iconst C (0 : Int32) dL_holds_265 (by decide) ?_
    refine z_goto C 270 dL_holds_266 (by decide) ?_
    exact z_sub [1, 2, 3, 4, 5, 6, 7, 8, 9, 0, 10, 11, 12, 13, 14, 15, 16, 17] rfl (w_L_holds_b270 C hst hR1 hR2 hK133 ⟨by omega, by omega⟩ hf)
def f_L_holds_b240 (n : Nat) (x1 : Int32) (x2 : Int32) (x3 : Int32) (x4 : Int32) (x5 : Int32) (x6 : Int32) (x10 : Int32) (x11 : Int32) (K133 : CS → Int32 → Int32 → Int32 → Int32 → Int32 → Option (CS × Int32))  (c : CS) (x7 : Int32) (x9 : Int32) (x13 : Int32) (x14 : Int32) (x15 : Int32) (x16 : Int32) (x17 : Int32) (x18 : Int32) (s0 : Int32) (s1 : Int32) : Option (CS × Int32) :=
  if x16 = (-1 : Int32) then (f_L_holds_b256 n x1 x2 x3 x4 x5 x6 x10 x11 K133 c x7 (s1 + s0) x13 x14 x15 x16 x17 x18 (0 : Int32) x9) else (f_L_holds_b256 n x1 x2 x3 x4 x5 x6 x10 x11 K133 c x7 (s1 + s0) x13 x14 x15 x16 x17 x18 (1 : Int32) x9)
set_option maxRecDepth 100000 in
set_option maxHeartbeats 4000000 in
theorem w_L_holds_b240 {E : zE} {X : zX} {h0 : Hp} {x : Nat} {n : Nat} {x1 : Int32} {x2 : Int32} {x3 : Int32} {x4 : Int32} {x5 : Int32} {x6 : Int32} {x10 : Int32} {x11 : Int32} {K133 : CS → Int32 → Int32 → Int32 → Int32 → Int32 → Option (CS × Int32)} {fu : Nat} (C : zC E X RL cL_holds 24 (some .boolean) 18) (hst : (xl X).stackTraces = false) (hR1 : 741 ≤ (xR X).cells) (hR2 : 4446 ≤ (xR X).slots) (hK133 : ∀ (c : CS) (x7 : Int32) (x8 : Int32) (x9 : Int32) (x12 : Int32) (x13 : Int32) (r : (CS × Int32)) (k n9 : Nat), (k + (fu * 11 + 417) ≤ 741 ∧ n9 + (fu * 66 + 2502) ≤ 4446) → K133 c x7 x8 x9 x12 x13 = some r → zW E X 24 k n9 (MQ (xb X) (zQ E (some (.int r.2)) (pC E h0 x r.1)) (xa X) (xs X) 741 4446 (zA E)) 133 (pC E h0 x c) [(0, .ref x), (1, .int x1), (2, .int x2), (3, .int x3), (4, .int x4), (5, .int x5), (6, .int x6), (7, .int x7), (8, .int x8), (9, .int x9), (10, .int x10), (11, .int x11), (12, .int x12), (13, .int x13)] []) {c : CS} {x7 : Int32} {x9 : Int32} {x13 : Int32} {x14 : Int32} {x15 : Int32} {x16 : Int32} {x17 : Int32} {x18 : Int32} {s0 : Int32} {s1 : Int32} {r : (CS × Int32)} {k n9 : Nat} (hk : (k + (fu * 11 + 422) ≤ 741 ∧ n9 + (fu * 66 + 2532) ≤ 4446)) (hf : f_L_holds_b240 n x1 x2 x3 x4 x5 x6 x10 x11 K133 c x7 x9 x13 x14 x15 x16 x17 x18 s0 s1 = some r) : zW E X 24 k n9 (MQ (xb X) (zQ E (some (.int r.2)) (pC E h0 x r.1)) (xa X) (xs X) 741 4446 (zA E)) 240 (pC E h0 x c) [(0, .ref x), (1, .int x1), (2, .int x2), (3, .int x3), (4, .int x4), (5, .int x5), (6, .int x6), (7, .int x7), (9, .int x9), (10, .int x10), (11, .int x11), (13, .int x13), (14, .int x14), (15, .int x15), (16, .int x16), (17, .int x17), (18, .int x18)] [.int s0, .int s1] := by
  obtain ⟨hk1, hk2⟩ := hk
  unfold f_L_holds_b240 at hf
  refine z_iadd C dL_holds_240 ?_
  refine z_istore (lv' := [(8, .int (s1 + s0)), (0, .ref x), (1, .int x1), (2, .int x2), (3, .int x3), (4, .int x4), (5, .int x5), (6, .int x6), (7, .int x7), (9, .int x9), (10, .int x10), (11, .int x11), (13, .int x13), (14, .int x14), (15, .int x15), (16, .int x16), (17, .int x17), (18, .int x18)]) C dL_holds_241 (by decide) rfl ?_
  refine z_iload C dL_holds_243 9 rfl ?_
  refine z_iload C dL_holds_245 15 rfl ?_
  refine z_iconst C (-1 : Int32) dL_holds_247 (by decide) ?_
  refine z_icmp_ne C 255 dL_holds_248 (by decide) (fun c248 => ?_) (fun c248 => ?_)
  · replace hf := iN c248 hf
    refine z_iconst C (1 : Int32) dL_holds_255 (by decide) ?_
    exact z_sub [1, 2, 3, 4, 5, 6, 7, 8, 0, 10, 11, 12, 13, 14, 15, 16, 17] rfl (w_L_holds_b256 C hst hR1 hR2 hK133 ⟨by omega, by omega⟩ hf)
  · replace hf := ip c248 hf
    refine z_iconst C (0 : Int32) dL_holds_251 (by decide) ?_
    refine z_goto C 256 dL_holds_252 (by decide) ?_
    exact z_sub [1, 2, 3, 4, 5, 6, 7, 8, 0, 10, 11, 12, 13, 14, 15, 16, 17] rfl (w_L_holds_b256 C hst hR1 hR2 hK133 ⟨by omega, by omega⟩ hf)
def f_L_holds_b224 (n : Nat) (x1 : Int32) (x2 : Int32) (x3 : Int32) (x4 : Int32) (x5 : Int32) (x6 : Int32) (x10 : Int32) (x11 : Int32) (K133 : CS → Int32 → Int32 → Int32 → Int32 → Int32 → Option (CS × Int32))  (c : CS) (x8 : Int32) (x9 : Int32) (x13 : Int32) (x14 : Int32) (x15 : Int32) (x16 : Int32) (x17 : Int32) (x18 : Int32) (s0 : Int32) (s1 : Int32) : Option (CS × Int32) :=
  if x15 = (-1 : Int32) then (f_L_holds_b240 n x1 x2 x3 x4 x5 x6 x10 x11 K133 c (s1 + s0) x9 x13 x14 x15 x16 x17 x18 (0 : Int32) x8) else (f_L_holds_b240 n x1 x2 x3 x4 x5 x6 x10 x11 K133 c (s1 + s0) x9 x13 x14 x15 x16 x17 x18 (1 : Int32) x8)
set_option maxRecDepth 100000 in
set_option maxHeartbeats 4000000 in
theorem w_L_holds_b224 {E : zE} {X : zX} {h0 : Hp} {x : Nat} {n : Nat} {x1 : Int32} {x2 : Int32} {x3 : Int32} {x4 : Int32} {x5 : Int32} {x6 : Int32} {x10 : Int32} {x11 : Int32} {K133 : CS → Int32 → Int32 → Int32 → Int32 → Int32 → Option (CS × Int32)} {fu : Nat} (C : zC E X RL cL_holds 24 (some .boolean) 18) (hst : (xl X).stackTraces = false) (hR1 : 741 ≤ (xR X).cells) (hR2 : 4446 ≤ (xR X).slots) (hK133 : ∀ (c : CS) (x7 : Int32) (x8 : Int32) (x9 : Int32) (x12 : Int32) (x13 : Int32) (r : (CS × Int32)) (k n9 : Nat), (k + (fu * 11 + 417) ≤ 741 ∧ n9 + (fu * 66 + 2502) ≤ 4446) → K133 c x7 x8 x9 x12 x13 = some r → zW E X 24 k n9 (MQ (xb X) (zQ E (some (.int r.2)) (pC E h0 x r.1)) (xa X) (xs X) 741 4446 (zA E)) 133 (pC E h0 x c) [(0, .ref x), (1, .int x1), (2, .int x2), (3, .int x3), (4, .int x4), (5, .int x5), (6, .int x6), (7, .int x7), (8, .int x8), (9, .int x9), (10, .int x10), (11, .int x11), (12, .int x12), (13, .int x13)] []) {c : CS} {x8 : Int32} {x9 : Int32} {x13 : Int32} {x14 : Int32} {x15 : Int32} {x16 : Int32} {x17 : Int32} {x18 : Int32} {s0 : Int32} {s1 : Int32} {r : (CS × Int32)} {k n9 : Nat} (hk : (k + (fu * 11 + 422) ≤ 741 ∧ n9 + (fu * 66 + 2532) ≤ 4446)) (hf : f_L_holds_b224 n x1 x2 x3 x4 x5 x6 x10 x11 K133 c x8 x9 x13 x14 x15 x16 x17 x18 s0 s1 = some r) : zW E X 24 k n9 (MQ (xb X) (zQ E (some (.int r.2)) (pC E h0 x r.1)) (xa X) (xs X) 741 4446 (zA E)) 224 (pC E h0 x c) [(0, .ref x), (1, .int x1), (2, .int x2), (3, .int x3), (4, .int x4), (5, .int x5), (6, .int x6), (8, .int x8), (9, .int x9), (10, .int x10), (11, .int x11), (13, .int x13), (14, .int x14), (15, .int x15), (16, .int x16), (17, .int x17), (18, .int x18)] [.int s0, .int s1] := by
  obtain ⟨hk1, hk2⟩ := hk
  unfold f_L_holds_b224 at hf
  refine z_iadd C dL_holds_224 ?_
  refine z_istore (lv' := [(7, .int (s1 + s0)), (0, .ref x), (1, .int x1), (2, .int x2), (3, .int x3), (4, .int x4), (5, .int x5), (6, .int x6), (8, .int x8), (9, .int x9), (10, .int x10), (11, .int x11), (13, .int x13), (14, .int x14), (15, .int x15), (16, .int x16), (17, .int x17), (18, .int x18)]) C dL_holds_225 (by decide) rfl ?_
  refine z_iload C dL_holds_227 8 rfl ?_
  refine z_iload C dL_holds_229 14 rfl ?_
  refine z_iconst C (-1 : Int32) dL_holds_231 (by decide) ?_
  refine z_icmp_ne C 239 dL_holds_232 (by decide) (fun c232 => ?_) (fun c232 => ?_)
  · replace hf := iN c232 hf
    refine z_iconst C (1 : Int32) dL_holds_239 (by decide) ?_
    exact z_sub [1, 2, 3, 4, 5, 6, 7, 0, 9, 10, 11, 12, 13, 14, 15, 16, 17] rfl (w_L_holds_b240 C hst hR1 hR2 hK133 ⟨by omega, by omega⟩ hf)
  · replace hf := ip c232 hf
    refine z_iconst C (0 : Int32) dL_holds_235 (by decide) ?_
    refine z_goto C 240 dL_holds_236 (by decide) ?_
    exact z_sub [1, 2, 3, 4, 5, 6, 7, 0, 9, 10, 11, 12, 13, 14, 15, 16, 17] rfl (w_L_holds_b240 C hst hR1 hR2 hK133 ⟨by omega, by omega⟩ hf)
def f_L_holds_h133 (n : Nat) (x1 : Int32) (x2 : Int32) (x3 : Int32) (x4 : Int32) (x5 : Int32) (x6 : Int32) (x10 : Int32) (x11 : Int32)  (K133 : CS → Int32 → Int32 → Int32 → Int32 → Int32 → Option (CS × Int32)) (c : CS) (x7 : Int32) (x8 : Int32) (x9 : Int32) (x12 : Int32) (x13 : Int32) : Option (CS × Int32) :=
  if (28 : Int32) ≤ x13 then (f_L_holds_b479 n x1 c x3 x4 x5 x6 x7 x8 x9 x10 x11 x12) else (if x12 = 0 then (f_L_holds_b479 n x1 c x3 x4 x5 x6 x7 x8 x9 x10 x11 x12) else ((f_L_call n c (3 : Int32) x13 (2 : Int32) (0 : Int32)).bind (fun q151 => (f_L_call n q151.1 (3 : Int32) x13 (3 : Int32) (0 : Int32)).bind (fun q162 => (f_L_call n q162.1 (3 : Int32) x13 (4 : Int32) (0 : Int32)).bind (fun q173 => (f_L_call n q173.1 (11 : Int32) x13 (0 : Int32) (0 : Int32)).bind (fun q185 => (f_L_call n q185.1 (3 : Int32) x13 (0 : Int32) (0 : Int32)).bind (fun q196 => (f_L_call n q196.1 (3 : Int32) x13 (1 : Int32) (0 : Int32)).bind (fun q205 => if q151.2 = (-1 : Int32) then (f_L_holds_b224 n x1 x2 x3 x4 x5 x6 x10 x11 K133 q205.1 x8 x9 x13 q151.2 q162.2 q173.2 q185.2 (q196.2 + q205.2) (0 : Int32) x7) else (f_L_holds_b224 n x1 x2 x3 x4 x5 x6 x10 x11 K133 q205.1 x8 x9 x13 q151.2 q162.2 q173.2 q185.2 (q196.2 + q205.2) (1 : Int32) x7)))))))))
set_option maxRecDepth 100000 in
set_option maxHeartbeats 4000000 in
theorem w_L_holds_h133 {E : zE} {X : zX} {h0 : Hp} {x : Nat} {n : Nat} {x1 : Int32} {x2 : Int32} {x3 : Int32} {x4 : Int32} {x5 : Int32} {x6 : Int32} {x10 : Int32} {x11 : Int32}  (C : zC E X RL cL_holds 24 (some .boolean) 18) (hst : (xl X).stackTraces = false) (hR1 : 741 ≤ (xR X).cells) (hR2 : 4446 ≤ (xR X).slots)  : ∀ (fu : Nat) (c : CS) (x7 : Int32) (x8 : Int32) (x9 : Int32) (x12 : Int32) (x13 : Int32) (r : (CS × Int32)), lo6 (f_L_holds_h133 n x1 x2 x3 x4 x5 x6 x10 x11) fu c x7 x8 x9 x12 x13 = some r → ∀ k n9 : Nat, (k + (fu * 11 + 417) ≤ 741 ∧ n9 + (fu * 66 + 2502) ≤ 4446) → zW E X 24 k n9 (MQ (xb X) (zQ E (some (.int r.2)) (pC E h0 x r.1)) (xa X) (xs X) 741 4446 (zA E)) 133 (pC E h0 x c) [(0, .ref x), (1, .int x1), (2, .int x2), (3, .int x3), (4, .int x4), (5, .int x5), (6, .int x6), (7, .int x7), (8, .int x8), (9, .int x9), (10, .int x10), (11, .int x11), (12, .int x12), (13, .int x13)] [] := by
  refine lo6_indq (Z := fun (fu : Nat) (c : CS) (x7 : Int32) (x8 : Int32) (x9 : Int32) (x12 : Int32) (x13 : Int32) (r : (CS × Int32)) => ∀ k n9 : Nat, (k + (fu * 11 + 417) ≤ 741 ∧ n9 + (fu * 66 + 2502) ≤ 4446) → zW E X 24 k n9 (MQ (xb X) (zQ E (some (.int r.2)) (pC E h0 x r.1)) (xa X) (xs X) 741 4446 (zA E)) 133 (pC E h0 x c) [(0, .ref x), (1, .int x1), (2, .int x2), (3, .int x3), (4, .int x4), (5, .int x5), (6, .int x6), (7, .int x7), (8, .int x8), (9, .int x9), (10, .int x10), (11, .int x11), (12, .int x12), (13, .int x13)] []) ?_
  intro fu K133 hK0 c x7 x8 x9 x12 x13 r hf k n9 hk
  have hK133 : ∀ (c : CS) (x7 : Int32) (x8 : Int32) (x9 : Int32) (x12 : Int32) (x13 : Int32) (r : (CS × Int32)) (k n9 : Nat), (k + (fu * 11 + 417) ≤ 741 ∧ n9 + (fu * 66 + 2502) ≤ 4446) → K133 c x7 x8 x9 x12 x13 = some r → zW E X 24 k n9 (MQ (xb X) (zQ E (some (.int r.2)) (pC E h0 x r.1)) (xa X) (xs X) 741 4446 (zA E)) 133 (pC E h0 x c) [(0, .ref x), (1, .int x1), (2, .int x2), (3, .int x3), (4, .int x4), (5, .int x5), (6, .int x6), (7, .int x7), (8, .int x8), (9, .int x9), (10, .int x10), (11, .int x11), (12, .int x12), (13, .int x13)] [] := fun c x7 x8 x9 x12 x13 r k n9 hk hq => hK0 c x7 x8 x9 x12 x13 r hq k n9 hk
  clear hK0
  obtain ⟨hk1, hk2⟩ := hk
  unfold f_L_holds_h133 at hf
  refine z_iload C dL_holds_133 13 rfl ?_
  refine z_bipush C (28 : Int32) dL_holds_135 (by decide) ?_
  refine z_icmp_ge C 479 dL_holds_137 (by decide) (fun c137 => ?_) (fun c137 => ?_)
  · replace hf := ip c137 hf
    exact z_sub [0, 1, 3, 4, 5, 6, 7, 8, 9, 10, 11, 12] rfl (w_L_holds_b479 C hst hR1 hR2 ⟨by omega, by omega⟩ hf)
  · replace hf := iN c137 hf
    refine z_iload C dL_holds_140 12 rfl ?_
    refine z_if_eq C 479 dL_holds_142 (by decide) (fun c142 => ?_) (fun c142 => ?_)
    · replace hf := ip c142 hf
      exact z_sub [0, 1, 3, 4, 5, 6, 7, 8, 9, 10, 11, 12] rfl (w_L_holds_b479 C hst hR1 hR2 ⟨by omega, by omega⟩ hf)
    · replace hf := iN c142 hf
      refine z_aload_n C dL_holds_145 0 rfl ?_
      refine z_iconst C (3 : Int32) dL_holds_146 (by decide) ?_
      refine z_iload C dL_holds_147 13 rfl ?_
      refine z_iconst C (2 : Int32) dL_holds_149 (by decide) ?_
      refine z_iconst C (0 : Int32) dL_holds_150 (by decide) ?_
      obtain ⟨q151, hq151, hf⟩ := bd_some hf
      refine z_callK (K := 1) C 154 [.ref x, .int (3 : Int32), .int x13, .int (2 : Int32), .int (0 : Int32)] [] (ct_L_call hst hq151) co_L_call ml_L_139 st_L_call ini_L ⟨by decide +kernel, by decide +kernel, by show _ = some 5; decide +kernel⟩ (by decide) (by decide) rfl (Nat.le_of_ble_eq_true rfl) ⟨by omega, by omega⟩ rfl dL_holds_151 ?_
      refine z_istore (lv' := [(14, .int q151.2), (0, .ref x), (1, .int x1), (2, .int x2), (3, .int x3), (4, .int x4), (5, .int x5), (6, .int x6), (7, .int x7), (8, .int x8), (9, .int x9), (10, .int x10), (11, .int x11), (12, .int x12), (13, .int x13)]) C dL_holds_154 (by decide) rfl ?_
      refine z_aload_n C dL_holds_156 1 rfl ?_
      refine z_iconst C (3 : Int32) dL_holds_157 (by decide) ?_
      refine z_iload C dL_holds_158 14 rfl ?_
      refine z_iconst C (3 : Int32) dL_holds_160 (by decide) ?_
      refine z_iconst C (0 : Int32) dL_holds_161 (by decide) ?_
      obtain ⟨q162, hq162, hf⟩ := bd_some hf
      refine z_callK (K := 1) C 165 [.ref x, .int (3 : Int32), .int x13, .int (3 : Int32), .int (0 : Int32)] [] (ct_L_call hst hq162) co_L_call ml_L_139 st_L_call ini_L ⟨by decide +kernel, by decide +kernel, by show _ = some 5; decide +kernel⟩ (by decide) (by decide) rfl (Nat.le_of_ble_eq_true rfl) ⟨by omega, by omega⟩ rfl dL_holds_162 ?_
      refine z_istore (lv' := [(15, .int q162.2), (14, .int q151.2), (0, .ref x), (1, .int x1), (2, .int x2), (3, .int x3), (4, .int x4), (5, .int x5), (6, .int x6), (7, .int x7), (8, .int x8), (9, .int x9), (10, .int x10), (11, .int x11), (12, .int x12), (13, .int x13)]) C dL_holds_165 (by decide) rfl ?_
      refine z_aload_n C dL_holds_167 2 rfl ?_
      refine z_iconst C (3 : Int32) dL_holds_168 (by decide) ?_
      refine z_iload C dL_holds_169 15 rfl ?_
      refine z_iconst C (4 : Int32) dL_holds_171 (by decide) ?_
      refine z_iconst C (0 : Int32) dL_holds_172 (by decide) ?_
      obtain ⟨q173, hq173, hf⟩ := bd_some hf
      refine z_callK (K := 1) C 176 [.ref x, .int (3 : Int32), .int x13, .int (4 : Int32), .int (0 : Int32)] [] (ct_L_call hst hq173) co_L_call ml_L_139 st_L_call ini_L ⟨by decide +kernel, by decide +kernel, by show _ = some 5; decide +kernel⟩ (by decide) (by decide) rfl (Nat.le_of_ble_eq_true rfl) ⟨by omega, by omega⟩ rfl dL_holds_173 ?_
      refine z_istore (lv' := [(16, .int q173.2), (15, .int q162.2), (14, .int q151.2), (0, .ref x), (1, .int x1), (2, .int x2), (3, .int x3), (4, .int x4), (5, .int x5), (6, .int x6), (7, .int x7), (8, .int x8), (9, .int x9), (10, .int x10), (11, .int x11), (12, .int x12), (13, .int x13)]) C dL_holds_176 (by decide) rfl ?_
      refine z_aload_n C dL_holds_178 3 rfl ?_
      refine z_bipush C (11 : Int32) dL_holds_179 (by decide) ?_
      refine z_iload C dL_holds_181 16 rfl ?_
      refine z_iconst C (0 : Int32) dL_holds_183 (by decide) ?_
      refine z_iconst C (0 : Int32) dL_holds_184 (by decide) ?_
      obtain ⟨q185, hq185, hf⟩ := bd_some hf
      refine z_callK (K := 1) C 188 [.ref x, .int (11 : Int32), .int x13, .int (0 : Int32), .int (0 : Int32)] [] (ct_L_call hst hq185) co_L_call ml_L_139 st_L_call ini_L ⟨by decide +kernel, by decide +kernel, by show _ = some 5; decide +kernel⟩ (by decide) (by decide) rfl (Nat.le_of_ble_eq_true rfl) ⟨by omega, by omega⟩ rfl dL_holds_185 ?_
      refine z_istore (lv' := [(17, .int q185.2), (16, .int q173.2), (15, .int q162.2), (14, .int q151.2), (0, .ref x), (1, .int x1), (2, .int x2), (3, .int x3), (4, .int x4), (5, .int x5), (6, .int x6), (7, .int x7), (8, .int x8), (9, .int x9), (10, .int x10), (11, .int x11), (12, .int x12), (13, .int x13)]) C dL_holds_188 (by decide) rfl ?_
      refine z_aload_n C dL_holds_190 4 rfl ?_
      refine z_iconst C (3 : Int32) dL_holds_191 (by decide) ?_
      refine z_iload C dL_holds_192 17 rfl ?_
      refine z_iconst C (0 : Int32) dL_holds_194 (by decide) ?_
      refine z_iconst C (0 : Int32) dL_holds_195 (by decide) ?_
      obtain ⟨q196, hq196, hf⟩ := bd_some hf
      refine z_callK (K := 1) C 199 [.ref x, .int (3 : Int32), .int x13, .int (0 : Int32), .int (0 : Int32)] [] (ct_L_call hst hq196) co_L_call ml_L_139 st_L_call ini_L ⟨by decide +kernel, by decide +kernel, by show _ = some 5; decide +kernel⟩ (by decide) (by decide) rfl (Nat.le_of_ble_eq_true rfl) ⟨by omega, by omega⟩ rfl dL_holds_196 ?_
      refine z_aload_n C dL_holds_199 4 rfl ?_
      refine z_iconst C (3 : Int32) dL_holds_200 (by decide) ?_
      refine z_iload C dL_holds_201 17 rfl ?_
      refine z_iconst C (1 : Int32) dL_holds_203 (by decide) ?_
      refine z_iconst C (0 : Int32) dL_holds_204 (by decide) ?_
      obtain ⟨q205, hq205, hf⟩ := bd_some hf
      refine z_callK (K := 1) C 208 [.ref x, .int (3 : Int32), .int x13, .int (1 : Int32), .int (0 : Int32)] [.int q196.2] (ct_L_call hst hq205) co_L_call ml_L_139 st_L_call ini_L ⟨by decide +kernel, by decide +kernel, by show _ = some 5; decide +kernel⟩ (by decide) (by decide) rfl (Nat.le_of_ble_eq_true rfl) ⟨by omega, by omega⟩ rfl dL_holds_205 ?_
      refine z_iadd C dL_holds_208 ?_
      refine z_istore (lv' := [(18, .int (q196.2 + q205.2)), (17, .int q185.2), (16, .int q173.2), (15, .int q162.2), (14, .int q151.2), (0, .ref x), (1, .int x1), (2, .int x2), (3, .int x3), (4, .int x4), (5, .int x5), (6, .int x6), (7, .int x7), (8, .int x8), (9, .int x9), (10, .int x10), (11, .int x11), (12, .int x12), (13, .int x13)]) C dL_holds_209 (by decide) rfl ?_
      refine z_iload C dL_holds_211 12 rfl ?_
      refine z_iload C dL_holds_213 4 rfl ?_
      refine z_iconst C (-1 : Int32) dL_holds_215 (by decide) ?_
      refine z_icmp_ne C 223 dL_holds_216 (by decide) (fun c216 => ?_) (fun c216 => ?_)
      · replace hf := iN c216 hf
        refine z_iconst C (1 : Int32) dL_holds_223 (by decide) ?_
        exact z_sub [5, 6, 7, 8, 9, 10, 11, 13, 14, 15, 16, 18, 4, 3, 2, 1, 0] rfl (w_L_holds_b224 C hst hR1 hR2 hK133 ⟨by omega, by omega⟩ hf)
      · replace hf := ip c216 hf
        refine z_iconst C (0 : Int32) dL_holds_219 (by decide) ?_
        refine z_goto C 224 dL_holds_220 (by decide) ?_
        exact z_sub [5, 6, 7, 8, 9, 10, 11, 13, 14, 15, 16, 18, 4, 3, 2, 1, 0] rfl (w_L_holds_b224 C hst hR1 hR2 hK133 ⟨by omega, by omega⟩ hf)
def f_L_holds_b128 (n : Nat) (x1 : Int32)   (c : CS) (x2 : Int32) (x3 : Int32) (x4 : Int32) (x5 : Int32) (x6 : Int32) (x7 : Int32) (x8 : Int32) (x9 : Int32) (x10 : Int32) (x11 : Int32) (s0 : Int32) : Option (CS × Int32) :=
  lo6 (f_L_holds_h133 n x1 x2 x3 x4 x5 x6 x10 x11) 29 c x7 x8 x9 s0 (0 : Int32)
set_option maxRecDepth 100000 in
set_option maxHeartbeats 4000000 in
theorem w_L_holds_b128 {E : zE} {X : zX} {h0 : Hp} {x : Nat} {n : Nat} {x1 : Int32}  (C : zC E X RL cL_holds 24 (some .boolean) 18) (hst : (xl X).stackTraces = false) (hR1 : 741 ≤ (xR X).cells) (hR2 : 4446 ≤ (xR X).slots)  {c : CS} {x2 : Int32} {x3 : Int32} {x4 : Int32} {x5 : Int32} {x6 : Int32} {x7 : Int32} {x8 : Int32} {x9 : Int32} {x10 : Int32} {x11 : Int32} {s0 : Int32} {r : (CS × Int32)} {k n9 : Nat} (hk : (k + 736 ≤ 741 ∧ n9 + 4416 ≤ 4446)) (hf : f_L_holds_b128 n x1 c x2 x3 x4 x5 x6 x7 x8 x9 x10 x11 s0 = some r) : zW E X 24 k n9 (MQ (xb X) (zQ E (some (.int r.2)) (pC E h0 x r.1)) (xa X) (xs X) 741 4446 (zA E)) 128 (pC E h0 x c) [(0, .ref x), (1, .int x1), (2, .int x2), (3, .int x3), (4, .int x4), (5, .int x5), (6, .int x6), (7, .int x7), (8, .int x8), (9, .int x9), (10, .int x10), (11, .int x11)] [.int s0] := by
  obtain ⟨hk1, hk2⟩ := hk
  unfold f_L_holds_b128 at hf
  refine z_istore (lv' := [(12, .int s0), (0, .ref x), (1, .int x1), (2, .int x2), (3, .int x3), (4, .int x4), (5, .int x5), (6, .int x6), (7, .int x7), (8, .int x8), (9, .int x9), (10, .int x10), (11, .int x11)]) C dL_holds_128 (by decide) rfl ?_
  refine z_iconst C (0 : Int32) dL_holds_130 (by decide) ?_
  refine z_istore (lv' := [(13, .int (0 : Int32)), (12, .int s0), (0, .ref x), (1, .int x1), (2, .int x2), (3, .int x3), (4, .int x4), (5, .int x5), (6, .int x6), (7, .int x7), (8, .int x8), (9, .int x9), (10, .int x10), (11, .int x11)]) C dL_holds_131 (by decide) rfl ?_
  exact z_sub [2, 3, 4, 5, 6, 7, 8, 9, 10, 11, 12, 13, 1, 0] rfl (w_L_holds_h133 C hst hR1 hR2 29 _ _ _ _ _ _ _ hf _ _ ⟨by omega, by omega⟩)
def f_L_holds_b127 (n : Nat) (x1 : Int32)   (c : CS) (x2 : Int32) (x3 : Int32) (x4 : Int32) (x5 : Int32) (x6 : Int32) (x7 : Int32) (x8 : Int32) (x9 : Int32) (x10 : Int32) (x11 : Int32) : Option (CS × Int32) :=
  f_L_holds_b128 n x1 c x2 x3 x4 x5 x6 x7 x8 x9 x10 x11 (0 : Int32)
set_option maxRecDepth 100000 in
set_option maxHeartbeats 4000000 in
theorem w_L_holds_b127 {E : zE} {X : zX} {h0 : Hp} {x : Nat} {n : Nat} {x1 : Int32}  (C : zC E X RL cL_holds 24 (some .boolean) 18) (hst : (xl X).stackTraces = false) (hR1 : 741 ≤ (xR X).cells) (hR2 : 4446 ≤ (xR X).slots)  {c : CS} {x2 : Int32} {x3 : Int32} {x4 : Int32} {x5 : Int32} {x6 : Int32} {x7 : Int32} {x8 : Int32} {x9 : Int32} {x10 : Int32} {x11 : Int32} {r : (CS × Int32)} {k n9 : Nat} (hk : (k + 736 ≤ 741 ∧ n9 + 4416 ≤ 4446)) (hf : f_L_holds_b127 n x1 c x2 x3 x4 x5 x6 x7 x8 x9 x10 x11 = some r) : zW E X 24 k n9 (MQ (xb X) (zQ E (some (.int r.2)) (pC E h0 x r.1)) (xa X) (xs X) 741 4446 (zA E)) 127 (pC E h0 x c) [(0, .ref x), (1, .int x1), (2, .int x2), (3, .int x3), (4, .int x4), (5, .int x5), (6, .int x6), (7, .int x7), (8, .int x8), (9, .int x9), (10, .int x10), (11, .int x11)] [] := by
  obtain ⟨hk1, hk2⟩ := hk
  unfold f_L_holds_b127 at hf
  refine z_iconst C (0 : Int32) dL_holds_127 (by decide) ?_
  exact z_sub [0, 1, 2, 3, 4, 5, 6, 7, 8, 9, 10, 11] rfl (w_L_holds_b128 C hst hR1 hR2 ⟨by omega, by omega⟩ hf)
def f_L_holds_b120 (n : Nat) (x1 : Int32)   (c : CS) (x2 : Int32) (x3 : Int32) (x4 : Int32) (x5 : Int32) (x6 : Int32) (x7 : Int32) (x8 : Int32) (x9 : Int32) (x10 : Int32) (x11 : Int32) (s0 : Int32) (s1 : Int32) : Option (CS × Int32) :=
  if s1 = s0 then (f_L_holds_b128 n x1 c x2 x3 x4 x5 x6 x7 x8 x9 x10 x11 (1 : Int32)) else (f_L_holds_b127 n x1 c x2 x3 x4 x5 x6 x7 x8 x9 x10 x11)
set_option maxRecDepth 100000 in
set_option maxHeartbeats 4000000 in
theorem w_L_holds_b120 {E : zE} {X : zX} {h0 : Hp} {x : Nat} {n : Nat} {x1 : Int32}  (C : zC E X RL cL_holds 24 (some .boolean) 18) (hst : (xl X).stackTraces = false) (hR1 : 741 ≤ (xR X).cells) (hR2 : 4446 ≤ (xR X).slots)  {c : CS} {x2 : Int32} {x3 : Int32} {x4 : Int32} {x5 : Int32} {x6 : Int32} {x7 : Int32} {x8 : Int32} {x9 : Int32} {x10 : Int32} {x11 : Int32} {s0 : Int32} {s1 : Int32} {r : (CS × Int32)} {k n9 : Nat} (hk : (k + 736 ≤ 741 ∧ n9 + 4416 ≤ 4446)) (hf : f_L_holds_b120 n x1 c x2 x3 x4 x5 x6 x7 x8 x9 x10 x11 s0 s1 = some r) : zW E X 24 k n9 (MQ (xb X) (zQ E (some (.int r.2)) (pC E h0 x r.1)) (xa X) (xs X) 741 4446 (zA E)) 120 (pC E h0 x c) [(0, .ref x), (1, .int x1), (2, .int x2), (3, .int x3), (4, .int x4), (5, .int x5), (6, .int x6), (7, .int x7), (8, .int x8), (9, .int x9), (10, .int x10), (11, .int x11)] [.int s0, .int s1] := by
  obtain ⟨hk1, hk2⟩ := hk
  unfold f_L_holds_b120 at hf
  refine z_icmp_ne C 127 dL_holds_120 (by decide) (fun c120 => ?_) (fun c120 => ?_)
  · replace hf := iN c120 hf
    exact z_sub [0, 1, 2, 3, 4, 5, 6, 7, 8, 9, 10, 11] rfl (w_L_holds_b127 C hst hR1 hR2 ⟨by omega, by omega⟩ hf)
  · replace hf := ip c120 hf
    refine z_iconst C (1 : Int32) dL_holds_123 (by decide) ?_
    refine z_goto C 128 dL_holds_124 (by decide) ?_
    exact z_sub [0, 1, 2, 3, 4, 5, 6, 7, 8, 9, 10, 11] rfl (w_L_holds_b128 C hst hR1 hR2 ⟨by omega, by omega⟩ hf)
def f_L_holds_b110 (n : Nat) (x1 : Int32)   (c : CS) (x2 : Int32) (x3 : Int32) (x4 : Int32) (x5 : Int32) (x6 : Int32) (x7 : Int32) (x8 : Int32) (x9 : Int32) (x10 : Int32) (x11 : Int32) (s0 : Int32) : Option (CS × Int32) :=
  if x3 = (1 : Int32) then (f_L_holds_b120 n x1 c x2 x3 x4 x5 x6 x7 x8 x9 x10 x11 (0 : Int32) s0) else (f_L_holds_b120 n x1 c x2 x3 x4 x5 x6 x7 x8 x9 x10 x11 (1 : Int32) s0)
set_option maxRecDepth 100000 in
set_option maxHeartbeats 4000000 in
theorem w_L_holds_b110 {E : zE} {X : zX} {h0 : Hp} {x : Nat} {n : Nat} {x1 : Int32}  (C : zC E X RL cL_holds 24 (some .boolean) 18) (hst : (xl X).stackTraces = false) (hR1 : 741 ≤ (xR X).cells) (hR2 : 4446 ≤ (xR X).slots)  {c : CS} {x2 : Int32} {x3 : Int32} {x4 : Int32} {x5 : Int32} {x6 : Int32} {x7 : Int32} {x8 : Int32} {x9 : Int32} {x10 : Int32} {x11 : Int32} {s0 : Int32} {r : (CS × Int32)} {k n9 : Nat} (hk : (k + 736 ≤ 741 ∧ n9 + 4416 ≤ 4446)) (hf : f_L_holds_b110 n x1 c x2 x3 x4 x5 x6 x7 x8 x9 x10 x11 s0 = some r) : zW E X 24 k n9 (MQ (xb X) (zQ E (some (.int r.2)) (pC E h0 x r.1)) (xa X) (xs X) 741 4446 (zA E)) 110 (pC E h0 x c) [(0, .ref x), (1, .int x1), (2, .int x2), (3, .int x3), (4, .int x4), (5, .int x5), (6, .int x6), (7, .int x7), (8, .int x8), (9, .int x9), (10, .int x10), (11, .int x11)] [.int s0] := by
  obtain ⟨hk1, hk2⟩ := hk
  unfold f_L_holds_b110 at hf
  refine z_iload_n C dL_holds_110 3 rfl ?_
  refine z_iconst C (1 : Int32) dL_holds_111 (by decide) ?_
  refine z_icmp_eq C 119 dL_holds_112 (by decide) (fun c112 => ?_) (fun c112 => ?_)
  · replace hf := ip c112 hf
    refine z_iconst C (0 : Int32) dL_holds_119 (by decide) ?_
    exact z_sub [0, 1, 2, 3, 4, 5, 6, 7, 8, 9, 10, 11] rfl (w_L_holds_b120 C hst hR1 hR2 ⟨by omega, by omega⟩ hf)
  · replace hf := iN c112 hf
    refine z_iconst C (1 : Int32) dL_holds_115 (by decide) ?_
    refine z_goto C 120 dL_holds_116 (by decide) ?_
    exact z_sub [0, 1, 2, 3, 4, 5, 6, 7, 8, 9, 10, 11] rfl (w_L_holds_b120 C hst hR1 hR2 ⟨by omega, by omega⟩ hf)
def f_L_holds_b96 (n : Nat) (x1 : Int32)   (c : CS) (x2 : Int32) (x3 : Int32) (x4 : Int32) (x5 : Int32) (x6 : Int32) (x7 : Int32) (x8 : Int32) (x9 : Int32) (x10 : Int32) (x11 : Int32) (s0 : Int32) (s1 : Int32) : Option (CS × Int32) :=
  if s1 = s0 then (if x6 = (-1 : Int32) then (f_L_holds_b110 n x1 c x2 x3 x4 x5 x6 x7 x8 x9 x10 x11 (1 : Int32)) else (f_L_holds_b110 n x1 c x2 x3 x4 x5 x6 x7 x8 x9 x10 x11 (0 : Int32))) else (f_L_holds_b127 n x1 c x2 x3 x4 x5 x6 x7 x8 x9 x10 x11)
set_option maxRecDepth 100000 in
set_option maxHeartbeats 4000000 in
theorem w_L_holds_b96 {E : zE} {X : zX} {h0 : Hp} {x : Nat} {n : Nat} {x1 : Int32}  (C : zC E X RL cL_holds 24 (some .boolean) 18) (hst : (xl X).stackTraces = false) (hR1 : 741 ≤ (xR X).cells) (hR2 : 4446 ≤ (xR X).slots)  {c : CS} {x2 : Int32} {x3 : Int32} {x4 : Int32} {x5 : Int32} {x6 : Int32} {x7 : Int32} {x8 : Int32} {x9 : Int32} {x10 : Int32} {x11 : Int32} {s0 : Int32} {s1 : Int32} {r : (CS × Int32)} {k n9 : Nat} (hk : (k + 736 ≤ 741 ∧ n9 + 4416 ≤ 4446)) (hf : f_L_holds_b96 n x1 c x2 x3 x4 x5 x6 x7 x8 x9 x10 x11 s0 s1 = some r) : zW E X 24 k n9 (MQ (xb X) (zQ E (some (.int r.2)) (pC E h0 x r.1)) (xa X) (xs X) 741 4446 (zA E)) 96 (pC E h0 x c) [(0, .ref x), (1, .int x1), (2, .int x2), (3, .int x3), (4, .int x4), (5, .int x5), (6, .int x6), (7, .int x7), (8, .int x8), (9, .int x9), (10, .int x10), (11, .int x11)] [.int s0, .int s1] := by
  obtain ⟨hk1, hk2⟩ := hk
  unfold f_L_holds_b96 at hf
  refine z_icmp_ne C 127 dL_holds_96 (by decide) (fun c96 => ?_) (fun c96 => ?_)
  · replace hf := iN c96 hf
    exact z_sub [0, 1, 2, 3, 4, 5, 6, 7, 8, 9, 10, 11] rfl (w_L_holds_b127 C hst hR1 hR2 ⟨by omega, by omega⟩ hf)
  · replace hf := ip c96 hf
    refine z_iload C dL_holds_99 6 rfl ?_
    refine z_iconst C (-1 : Int32) dL_holds_101 (by decide) ?_
    refine z_icmp_ne C 109 dL_holds_102 (by decide) (fun c102 => ?_) (fun c102 => ?_)
    · replace hf := iN c102 hf
      refine z_iconst C (0 : Int32) dL_holds_109 (by decide) ?_
      exact z_sub [0, 1, 2, 3, 4, 5, 6, 7, 8, 9, 10, 11] rfl (w_L_holds_b110 C hst hR1 hR2 ⟨by omega, by omega⟩ hf)
    · replace hf := ip c102 hf
      refine z_iconst C (1 : Int32) dL_holds_105 (by decide) ?_
      refine z_goto C 110 dL_holds_106 (by decide) ?_
      exact z_sub [0, 1, 2, 3, 4, 5, 6, 7, 8, 9, 10, 11] rfl (w_L_holds_b110 C hst hR1 hR2 ⟨by omega, by omega⟩ hf)
def f_L_holds_b87 (n : Nat) (x1 : Int32)   (c : CS) (x2 : Int32) (x3 : Int32) (x4 : Int32) (x5 : Int32) (x6 : Int32) (x7 : Int32) (x8 : Int32) (x9 : Int32) (x10 : Int32) (x11 : Int32) (s0 : Int32) : Option (CS × Int32) :=
  if x2 = 0 then (f_L_holds_b96 n x1 c x2 x3 x4 x5 x6 x7 x8 x9 x10 x11 (1 : Int32) s0) else (f_L_holds_b96 n x1 c x2 x3 x4 x5 x6 x7 x8 x9 x10 x11 (0 : Int32) s0)
set_option maxRecDepth 100000 in
set_option maxHeartbeats 4000000 in
theorem w_L_holds_b87 {E : zE} {X : zX} {h0 : Hp} {x : Nat} {n : Nat} {x1 : Int32}  (C : zC E X RL cL_holds 24 (some .boolean) 18) (hst : (xl X).stackTraces = false) (hR1 : 741 ≤ (xR X).cells) (hR2 : 4446 ≤ (xR X).slots)  {c : CS} {x2 : Int32} {x3 : Int32} {x4 : Int32} {x5 : Int32} {x6 : Int32} {x7 : Int32} {x8 : Int32} {x9 : Int32} {x10 : Int32} {x11 : Int32} {s0 : Int32} {r : (CS × Int32)} {k n9 : Nat} (hk : (k + 736 ≤ 741 ∧ n9 + 4416 ≤ 4446)) (hf : f_L_holds_b87 n x1 c x2 x3 x4 x5 x6 x7 x8 x9 x10 x11 s0 = some r) : zW E X 24 k n9 (MQ (xb X) (zQ E (some (.int r.2)) (pC E h0 x r.1)) (xa X) (xs X) 741 4446 (zA E)) 87 (pC E h0 x c) [(0, .ref x), (1, .int x1), (2, .int x2), (3, .int x3), (4, .int x4), (5, .int x5), (6, .int x6), (7, .int x7), (8, .int x8), (9, .int x9), (10, .int x10), (11, .int x11)] [.int s0] := by
  obtain ⟨hk1, hk2⟩ := hk
  unfold f_L_holds_b87 at hf
  refine z_iload_n C dL_holds_87 2 rfl ?_
  refine z_if_ne C 95 dL_holds_88 (by decide) (fun c88 => ?_) (fun c88 => ?_)
  · replace hf := iN c88 hf
    refine z_iconst C (0 : Int32) dL_holds_95 (by decide) ?_
    exact z_sub [0, 1, 2, 3, 4, 5, 6, 7, 8, 9, 10, 11] rfl (w_L_holds_b96 C hst hR1 hR2 ⟨by omega, by omega⟩ hf)
  · replace hf := ip c88 hf
    refine z_iconst C (1 : Int32) dL_holds_91 (by decide) ?_
    refine z_goto C 96 dL_holds_92 (by decide) ?_
    exact z_sub [0, 1, 2, 3, 4, 5, 6, 7, 8, 9, 10, 11] rfl (w_L_holds_b96 C hst hR1 hR2 ⟨by omega, by omega⟩ hf)
def f_L_holds (n : Nat) (c : CS) (x1 : Int32) : Option (CS × Int32) :=
  (f_L_call n c (2 : Int32) (0 : Int32) (0 : Int32) (0 : Int32)).bind (fun q5 => (f_L_call n q5.1 (2 : Int32) (1 : Int32) (0 : Int32) (0 : Int32)).bind (fun q14 => (f_L_call n q14.1 (2 : Int32) (5 : Int32) (0 : Int32) (0 : Int32)).bind (fun q23 => (f_L_call n q23.1 (2 : Int32) (4 : Int32) (0 : Int32) (0 : Int32)).bind (fun q33 => (f_L_call n q33.1 (2 : Int32) (3 : Int32) (0 : Int32) (0 : Int32)).bind (fun q43 => (f_X5_legal n q43.1).bind (fun q58 => (f_X5_best n q43.1).bind (fun q64 => if q14.2 < 0 then (f_L_holds_b127 n x1 q43.1 q5.2 q14.2 q23.2 q33.2 q43.2 (0 : Int32) (0 : Int32) (0 : Int32) q58 q64) else (if (3 : Int32) ≤ q14.2 then (f_L_holds_b127 n x1 q43.1 q5.2 q14.2 q23.2 q33.2 q43.2 (0 : Int32) (0 : Int32) (0 : Int32) q58 q64) else (if q14.2 = 0 then (f_L_holds_b87 n x1 q43.1 q5.2 q14.2 q23.2 q33.2 q43.2 (0 : Int32) (0 : Int32) (0 : Int32) q58 q64 (1 : Int32)) else (f_L_holds_b87 n x1 q43.1 q5.2 q14.2 q23.2 q33.2 q43.2 (0 : Int32) (0 : Int32) (0 : Int32) q58 q64 (0 : Int32)))))))))))
set_option maxRecDepth 100000 in
set_option maxHeartbeats 4000000 in
theorem ct_L_holds {E : zE} {l : Launch} {h0 : Hp} {x : Nat} {n : Nat} {c : CS} {x1 : Int32} {r : (CS × Int32)} (hst : l.stackTraces = false) (hf : f_L_holds n c x1 = some r) : zMK E l 18 741 yL_holds cL_holds 24 (some .boolean) [.ref x, .int x1] (pC E h0 x c) (some (.int r.2)) (pC E h0 x r.1) := by
  refine zMK_of (lv := [(0, .ref x), (1, .int x1)]) (by decide +kernel) (Nat.le_of_ble_eq_true rfl) rfl (fun X hX C hR => ?_)
  subst hX
  replace C : zC E X RL cL_holds 24 (some .boolean) 18 := C
  have hR1 : 741 ≤ (xR X).cells := by rw [hR]; exact Nat.le_refl _
  have hR2 : 4446 ≤ (xR X).slots := by rw [hR]; exact Nat.le_refl _
  obtain ⟨k, hk0⟩ : ∃ k : Nat, k = 0 := ⟨0, rfl⟩
  obtain ⟨n9, hn0⟩ : ∃ n9 : Nat, n9 = 0 := ⟨0, rfl⟩
  refine z_kn (k := k) (n := n9) hk0 hn0 ?_
  unfold f_L_holds at hf
  refine z_aload_n C dL_holds_0 0 rfl ?_
  refine z_iconst C (2 : Int32) dL_holds_1 (by decide) ?_
  refine z_iconst C (0 : Int32) dL_holds_2 (by decide) ?_
  refine z_iconst C (0 : Int32) dL_holds_3 (by decide) ?_
  refine z_iconst C (0 : Int32) dL_holds_4 (by decide) ?_
  obtain ⟨q5, hq5, hf⟩ := bd_some hf
  refine z_callK (K := 1) C 8 [.ref x, .int (2 : Int32), .int (0 : Int32), .int (0 : Int32), .int (0 : Int32)] [] (ct_L_call hst hq5) co_L_call ml_L_139 st_L_call ini_L ⟨by decide +kernel, by decide +kernel, by show _ = some 5; decide +kernel⟩ (by decide) (by decide) rfl (Nat.le_of_ble_eq_true rfl) ⟨by omega, by omega⟩ rfl dL_holds_5 ?_
  refine z_istore_n (lv' := [(2, .int q5.2), (0, .ref x), (1, .int x1)]) C dL_holds_8 (by decide) rfl ?_
  refine z_aload_n C dL_holds_9 1 rfl ?_
  refine z_iconst C (2 : Int32) dL_holds_10 (by decide) ?_
  refine z_iconst C (1 : Int32) dL_holds_11 (by decide) ?_
  refine z_iconst C (0 : Int32) dL_holds_12 (by decide) ?_
  refine z_iconst C (0 : Int32) dL_holds_13 (by decide) ?_
  obtain ⟨q14, hq14, hf⟩ := bd_some hf
  refine z_callK (K := 1) C 17 [.ref x, .int (2 : Int32), .int (1 : Int32), .int (0 : Int32), .int (0 : Int32)] [] (ct_L_call hst hq14) co_L_call ml_L_139 st_L_call ini_L ⟨by decide +kernel, by decide +kernel, by show _ = some 5; decide +kernel⟩ (by decide) (by decide) rfl (Nat.le_of_ble_eq_true rfl) ⟨by omega, by omega⟩ rfl dL_holds_14 ?_
  refine z_istore_n (lv' := [(3, .int q14.2), (2, .int q5.2), (0, .ref x), (1, .int x1)]) C dL_holds_17 (by decide) rfl ?_
  refine z_aload_n C dL_holds_18 2 rfl ?_
  refine z_iconst C (2 : Int32) dL_holds_19 (by decide) ?_
  refine z_iconst C (5 : Int32) dL_holds_20 (by decide) ?_
  refine z_iconst C (0 : Int32) dL_holds_21 (by decide) ?_
  refine z_iconst C (0 : Int32) dL_holds_22 (by decide) ?_
  obtain ⟨q23, hq23, hf⟩ := bd_some hf
  refine z_callK (K := 1) C 26 [.ref x, .int (2 : Int32), .int (5 : Int32), .int (0 : Int32), .int (0 : Int32)] [] (ct_L_call hst hq23) co_L_call ml_L_139 st_L_call ini_L ⟨by decide +kernel, by decide +kernel, by show _ = some 5; decide +kernel⟩ (by decide) (by decide) rfl (Nat.le_of_ble_eq_true rfl) ⟨by omega, by omega⟩ rfl dL_holds_23 ?_
  refine z_istore (lv' := [(4, .int q23.2), (3, .int q14.2), (2, .int q5.2), (0, .ref x), (1, .int x1)]) C dL_holds_26 (by decide) rfl ?_
  refine z_aload_n C dL_holds_28 3 rfl ?_
  refine z_iconst C (2 : Int32) dL_holds_29 (by decide) ?_
  refine z_iconst C (4 : Int32) dL_holds_30 (by decide) ?_
  refine z_iconst C (0 : Int32) dL_holds_31 (by decide) ?_
  refine z_iconst C (0 : Int32) dL_holds_32 (by decide) ?_
  obtain ⟨q33, hq33, hf⟩ := bd_some hf
  refine z_callK (K := 1) C 36 [.ref x, .int (2 : Int32), .int (4 : Int32), .int (0 : Int32), .int (0 : Int32)] [] (ct_L_call hst hq33) co_L_call ml_L_139 st_L_call ini_L ⟨by decide +kernel, by decide +kernel, by show _ = some 5; decide +kernel⟩ (by decide) (by decide) rfl (Nat.le_of_ble_eq_true rfl) ⟨by omega, by omega⟩ rfl dL_holds_33 ?_
  refine z_istore (lv' := [(5, .int q33.2), (4, .int q23.2), (3, .int q14.2), (2, .int q5.2), (0, .ref x), (1, .int x1)]) C dL_holds_36 (by decide) rfl ?_
  refine z_aload_n C dL_holds_38 4 rfl ?_
  refine z_iconst C (2 : Int32) dL_holds_39 (by decide) ?_
  refine z_iconst C (3 : Int32) dL_holds_40 (by decide) ?_
  refine z_iconst C (0 : Int32) dL_holds_41 (by decide) ?_
  refine z_iconst C (0 : Int32) dL_holds_42 (by decide) ?_
  obtain ⟨q43, hq43, hf⟩ := bd_some hf
  refine z_callK (K := 1) C 46 [.ref x, .int (2 : Int32), .int (3 : Int32), .int (0 : Int32), .int (0 : Int32)] [] (ct_L_call hst hq43) co_L_call ml_L_139 st_L_call ini_L ⟨by decide +kernel, by decide +kernel, by show _ = some 5; decide +kernel⟩ (by decide) (by decide) rfl (Nat.le_of_ble_eq_true rfl) ⟨by omega, by omega⟩ rfl dL_holds_43 ?_
  refine z_istore (lv' := [(6, .int q43.2), (5, .int q33.2), (4, .int q23.2), (3, .int q14.2), (2, .int q5.2), (0, .ref x), (1, .int x1)]) C dL_holds_46 (by decide) rfl ?_
  refine z_iconst C (0 : Int32) dL_holds_48 (by decide) ?_
  refine z_istore (lv' := [(7, .int (0 : Int32)), (6, .int q43.2), (5, .int q33.2), (4, .int q23.2), (3, .int q14.2), (2, .int q5.2), (0, .ref x), (1, .int x1)]) C dL_holds_49 (by decide) rfl ?_
  refine z_iconst C (0 : Int32) dL_holds_51 (by decide) ?_
  refine z_istore (lv' := [(8, .int (0 : Int32)), (7, .int (0 : Int32)), (6, .int q43.2), (5, .int q33.2), (4, .int q23.2), (3, .int q14.2), (2, .int q5.2), (0, .ref x), (1, .int x1)]) C dL_holds_52 (by decide) rfl ?_
  refine z_iconst C (0 : Int32) dL_holds_54 (by decide) ?_
  refine z_istore (lv' := [(9, .int (0 : Int32)), (8, .int (0 : Int32)), (7, .int (0 : Int32)), (6, .int q43.2), (5, .int q33.2), (4, .int q23.2), (3, .int q14.2), (2, .int q5.2), (0, .ref x), (1, .int x1)]) C dL_holds_55 (by decide) rfl ?_
  refine z_aload_n C dL_holds_57 8 rfl ?_
  obtain ⟨q58, hq58, hf⟩ := bd_some hf
  refine iv_L_160 C [] [] (ct_X5_legal hq58) pC_o rfl (by decide) rfl (Nat.le_of_ble_eq_true rfl) ⟨by omega, by omega⟩ dL_holds_58 ?_
  refine z_istore (lv' := [(10, .int q58), (9, .int (0 : Int32)), (8, .int (0 : Int32)), (7, .int (0 : Int32)), (6, .int q43.2), (5, .int q33.2), (4, .int q23.2), (3, .int q14.2), (2, .int q5.2), (0, .ref x), (1, .int x1)]) C dL_holds_61 (by decide) rfl ?_
  refine z_aload_n C dL_holds_63 9 rfl ?_
  obtain ⟨q64, hq64, hf⟩ := bd_some hf
  refine iv_L_163 C [] [] (ct_X5_best hq64) pC_o rfl (by decide) rfl (Nat.le_of_ble_eq_true rfl) ⟨by omega, by omega⟩ dL_holds_64 ?_
  refine z_istore (lv' := [(11, .int q64), (10, .int q58), (9, .int (0 : Int32)), (8, .int (0 : Int32)), (7, .int (0 : Int32)), (6, .int q43.2), (5, .int q33.2), (4, .int q23.2), (3, .int q14.2), (2, .int q5.2), (0, .ref x), (1, .int x1)]) C dL_holds_67 (by decide) rfl ?_
  refine z_iload_n C dL_holds_69 8 rfl ?_
  refine z_if_lt C 127 dL_holds_70 (by decide) (fun c70 => ?_) (fun c70 => ?_)
  · replace hf := ip c70 hf
    exact z_sub [10, 11, 9, 8, 7, 6, 5, 4, 3, 2, 1, 0] rfl (w_L_holds_b127 C hst hR1 hR2 ⟨by omega, by omega⟩ hf)
  · replace hf := iN c70 hf
    refine z_iload_n C dL_holds_73 8 rfl ?_
    refine z_iconst C (3 : Int32) dL_holds_74 (by decide) ?_
    refine z_icmp_ge C 127 dL_holds_75 (by decide) (fun c75 => ?_) (fun c75 => ?_)
    · replace hf := ip c75 hf
      exact z_sub [10, 11, 9, 8, 7, 6, 5, 4, 3, 2, 1, 0] rfl (w_L_holds_b127 C hst hR1 hR2 ⟨by omega, by omega⟩ hf)
    · replace hf := iN c75 hf
      refine z_iload_n C dL_holds_78 8 rfl ?_
      refine z_if_ne C 86 dL_holds_79 (by decide) (fun c79 => ?_) (fun c79 => ?_)
      · replace hf := iN c79 hf
        refine z_iconst C (0 : Int32) dL_holds_86 (by decide) ?_
        exact z_sub [10, 11, 9, 8, 7, 6, 5, 4, 3, 2, 1, 0] rfl (w_L_holds_b87 C hst hR1 hR2 ⟨by omega, by omega⟩ hf)
      · replace hf := ip c79 hf
        refine z_iconst C (1 : Int32) dL_holds_82 (by decide) ?_
        refine z_goto C 87 dL_holds_83 (by decide) ?_
        exact z_sub [10, 11, 9, 8, 7, 6, 5, 4, 3, 2, 1, 0] rfl (w_L_holds_b87 C hst hR1 hR2 ⟨by omega, by omega⟩ hf)
/-! L_act: depth 17, exceptions at most 88 -/
def f_L_act_b70 (n : Nat) (x1 : Int32)   (c : CS) (x2 : Int32) : Option (CS × Int32) :=
  chk (¬ (3 : Int32) = 0) ((f_L_deals n c ((2 : Int32) + (jrem x2 (3 : Int32))) (x2.toInt64 * (4294967437 : Int64))).bind (fun q82 => some (q82.1, q82.2)))
set_option maxRecDepth 100000 in
set_option maxHeartbeats 4000000 in
theorem w_L_act_b70 {E : zE} {X : zX} {h0 : Hp} {x : Nat} {n : Nat} {x1 : Int32}  (C : zC E X RL cL_act 8 (some .int) 17) (hst : (xl X).stackTraces = false) (hR1 : 88 ≤ (xR X).cells) (hR2 : 528 ≤ (xR X).slots)  {c : CS} {x2 : Int32} {r : (CS × Int32)} {k n9 : Nat} (hk : (k + 1 ≤ 88 ∧ n9 + 6 ≤ 528)) (hf : f_L_act_b70 n x1 c x2 = some r) : zW E X 8 k n9 (MQ (xb X) (zQ E (some (.int r.2)) (pC E h0 x r.1)) (xa X) (xs X) 88 528 (zA E)) 70 (pC E h0 x c) [(0, .ref x), (2, .int x2)] [] := by
  obtain ⟨hk1, hk2⟩ := hk
  unfold f_L_act_b70 at hf
  refine z_aload_n C dL_act_70 0 rfl ?_
  refine z_iconst C (2 : Int32) dL_act_71 (by decide) ?_
  refine z_iload_n C dL_act_72 1 rfl ?_
  refine z_iconst C (3 : Int32) dL_act_73 (by decide) ?_
  obtain ⟨c74, hf⟩ := chk_some hf
  refine z_irem C dL_act_74 c74 ?_
  refine z_iadd C dL_act_75 ?_
  refine z_iload_n C dL_act_76 1 rfl ?_
  refine z_i2l C dL_act_77 ?_
  refine z_ldc2 C (4294967437 : Int64) dL_act_78 cn_L_170 ?_
  refine z_lmul C dL_act_81 ?_
  obtain ⟨q82, hq82, hf⟩ := bd_some hf
  refine z_callSW C 85 [.ref x, .int ((2 : Int32) + (jrem x2 (3 : Int32))), .long (x2.toInt64 * (4294967437 : Int64))] [] (ct_L_deals hst hq82) co_L_deals ml_L_143 st_L_deals ini_L ⟨by decide +kernel, by decide +kernel, by show _ = some 3; decide +kernel⟩ (by decide) (by decide) rfl (Nat.le_of_ble_eq_true rfl) ⟨by omega, by omega⟩ rfl dL_act_82 ?_
  obtain rfl := Option.some.inj hf
  exact z_retK C (by omega) (by omega) dL_act_85 rfl
def f_L_act_b290 (n : Nat) (x1 : Int32) (x2 : Int32) (x5 : Int32) (K192 : CS → Int32 → Int32 → Option (CS × Int32))  (c : CS) (x6 : Int32) (s0 : Int32) (s1 : Int32) : Option (CS × Int32) :=
  K192 c (s1 + s0) (x6 + 1)
set_option maxRecDepth 100000 in
set_option maxHeartbeats 4000000 in
theorem w_L_act_b290 {E : zE} {X : zX} {h0 : Hp} {x : Nat} {n : Nat} {x1 : Int32} {x2 : Int32} {x5 : Int32} {K192 : CS → Int32 → Int32 → Option (CS × Int32)} {fu : Nat} (C : zC E X RL cL_act 8 (some .int) 17) (hst : (xl X).stackTraces = false) (hR1 : 88 ≤ (xR X).cells) (hR2 : 528 ≤ (xR X).slots) (hK192 : ∀ (c : CS) (x4 : Int32) (x6 : Int32) (r : (CS × Int32)) (k n9 : Nat), (k + (fu * 3 + 0) ≤ 88 ∧ n9 + (fu * 18 + 0) ≤ 528) → K192 c x4 x6 = some r → zW E X 8 k n9 (MQ (xb X) (zQ E (some (.int r.2)) (pC E h0 x r.1)) (xa X) (xs X) 88 528 (zA E)) 192 (pC E h0 x c) [(0, .ref x), (2, .int x2), (4, .int x4), (5, .int x5), (6, .int x6)] []) {c : CS} {x6 : Int32} {s0 : Int32} {s1 : Int32} {r : (CS × Int32)} {k n9 : Nat} (hk : (k + (fu * 3 + 0) ≤ 88 ∧ n9 + (fu * 18 + 0) ≤ 528)) (hf : f_L_act_b290 n x1 x2 x5 K192 c x6 s0 s1 = some r) : zW E X 8 k n9 (MQ (xb X) (zQ E (some (.int r.2)) (pC E h0 x r.1)) (xa X) (xs X) 88 528 (zA E)) 290 (pC E h0 x c) [(0, .ref x), (2, .int x2), (5, .int x5), (6, .int x6)] [.int s0, .int s1] := by
  obtain ⟨hk1, hk2⟩ := hk
  unfold f_L_act_b290 at hf
  refine z_iadd C dL_act_290 ?_
  refine z_istore (lv' := [(4, .int (s1 + s0)), (0, .ref x), (2, .int x2), (5, .int x5), (6, .int x6)]) C dL_act_291 (by decide) rfl ?_
  refine z_iinc (lv' := [(6, .int (x6 + 1)), (4, .int (s1 + s0)), (0, .ref x), (2, .int x2), (5, .int x5)]) C dL_act_293 4 (x6 + 1) rfl rfl (by decide) rfl ?_
  refine z_goto C 192 dL_act_296 (by decide) ?_
  exact z_sub [2, 3, 1, 4, 0] rfl (hK192 _ _ _ _ _ _ ⟨by omega, by omega⟩ hf)
def f_L_act_b235 (n : Nat) (x1 : Int32) (x2 : Int32) (x5 : Int32) (K192 : CS → Int32 → Int32 → Option (CS × Int32))  (c : CS) (x6 : Int32) (s0 : Int32) (s1 : Int32) (s3 : Int32) : Option (CS × Int32) :=
  (f_L_plays n c s1 s0).bind (fun q235 => f_L_act_b290 n x1 x2 x5 K192 q235.1 x6 q235.2 s3)
set_option maxRecDepth 100000 in
set_option maxHeartbeats 4000000 in
theorem w_L_act_b235 {E : zE} {X : zX} {h0 : Hp} {x : Nat} {n : Nat} {x1 : Int32} {x2 : Int32} {x5 : Int32} {K192 : CS → Int32 → Int32 → Option (CS × Int32)} {fu : Nat} (C : zC E X RL cL_act 8 (some .int) 17) (hst : (xl X).stackTraces = false) (hR1 : 88 ≤ (xR X).cells) (hR2 : 528 ≤ (xR X).slots) (hK192 : ∀ (c : CS) (x4 : Int32) (x6 : Int32) (r : (CS × Int32)) (k n9 : Nat), (k + (fu * 3 + 0) ≤ 88 ∧ n9 + (fu * 18 + 0) ≤ 528) → K192 c x4 x6 = some r → zW E X 8 k n9 (MQ (xb X) (zQ E (some (.int r.2)) (pC E h0 x r.1)) (xa X) (xs X) 88 528 (zA E)) 192 (pC E h0 x c) [(0, .ref x), (2, .int x2), (4, .int x4), (5, .int x5), (6, .int x6)] []) {c : CS} {x6 : Int32} {s0 : Int32} {s1 : Int32} {s3 : Int32} {r : (CS × Int32)} {k n9 : Nat} (hk : (k + (fu * 3 + 1) ≤ 88 ∧ n9 + (fu * 18 + 6) ≤ 528)) (hf : f_L_act_b235 n x1 x2 x5 K192 c x6 s0 s1 s3 = some r) : zW E X 8 k n9 (MQ (xb X) (zQ E (some (.int r.2)) (pC E h0 x r.1)) (xa X) (xs X) 88 528 (zA E)) 235 (pC E h0 x c) [(0, .ref x), (2, .int x2), (5, .int x5), (6, .int x6)] [.int s0, .int s1, .ref x, .int s3] := by
  obtain ⟨hk1, hk2⟩ := hk
  unfold f_L_act_b235 at hf
  obtain ⟨q235, hq235, hf⟩ := bd_some hf
  refine z_callSW C 238 [.ref x, .int s1, .int s0] [.int s3] (ct_L_plays hst hq235) co_L_plays ml_L_147 st_L_plays ini_L ⟨by decide +kernel, by decide +kernel, by show _ = some 3; decide +kernel⟩ (by decide) (by decide) rfl (Nat.le_of_ble_eq_true rfl) ⟨by omega, by omega⟩ rfl dL_act_235 ?_
  refine z_goto C 290 dL_act_238 (by decide) ?_
  exact z_sub [0, 1, 2, 3] rfl (w_L_act_b290 C hst hR1 hR2 hK192 ⟨by omega, by omega⟩ hf)
def f_L_act_h192 (n : Nat) (x1 : Int32) (x2 : Int32) (x5 : Int32)  (K192 : CS → Int32 → Int32 → Option (CS × Int32)) (c : CS) (x4 : Int32) (x6 : Int32) : Option (CS × Int32) :=
  if x5 ≤ x6 then (some (c, x4)) else ((f_X5_best n c).bind (fun q200 => if q200 = (-1 : Int32) then ((f_L_call n c (2 : Int32) (1 : Int32) (0 : Int32) (0 : Int32)).bind (fun q246 => if q246.2 = (1 : Int32) then ((f_L_call n q246.1 (2 : Int32) (4 : Int32) (0 : Int32) (0 : Int32)).bind (fun q263 => if q263.2 ≤ 0 then ((f_L_call n q263.1 (9 : Int32) (0 : Int32) (0 : Int32) (0 : Int32)).bind (fun q287 => f_L_act_b290 n x1 x2 x5 K192 q287.1 x6 q287.2 ((3 : Int32) * x4))) else ((f_L_call n q263.1 (8 : Int32) (0 : Int32) (0 : Int32) (0 : Int32)).bind (fun q275 => f_L_act_b290 n x1 x2 x5 K192 q275.1 x6 q275.2 ((3 : Int32) * x4))))) else (f_L_act_b290 n x1 x2 x5 K192 q246.1 x6 (7 : Int32) ((3 : Int32) * x4)))) else (if ((jsshr x2 (x6 + (3 : Int32))) &&& (1 : Int32)) = (1 : Int32) then (f_L_act_b235 n x1 x2 x5 K192 c x6 (1 : Int32) q200 ((3 : Int32) * x4)) else (f_L_act_b235 n x1 x2 x5 K192 c x6 (0 : Int32) q200 ((3 : Int32) * x4)))))
set_option maxRecDepth 100000 in
set_option maxHeartbeats 4000000 in
theorem w_L_act_h192 {E : zE} {X : zX} {h0 : Hp} {x : Nat} {n : Nat} {x1 : Int32} {x2 : Int32} {x5 : Int32}  (C : zC E X RL cL_act 8 (some .int) 17) (hst : (xl X).stackTraces = false) (hR1 : 88 ≤ (xR X).cells) (hR2 : 528 ≤ (xR X).slots)  : ∀ (fu : Nat) (c : CS) (x4 : Int32) (x6 : Int32) (r : (CS × Int32)), lo3 (f_L_act_h192 n x1 x2 x5) fu c x4 x6 = some r → ∀ k n9 : Nat, (k + (fu * 3 + 0) ≤ 88 ∧ n9 + (fu * 18 + 0) ≤ 528) → zW E X 8 k n9 (MQ (xb X) (zQ E (some (.int r.2)) (pC E h0 x r.1)) (xa X) (xs X) 88 528 (zA E)) 192 (pC E h0 x c) [(0, .ref x), (2, .int x2), (4, .int x4), (5, .int x5), (6, .int x6)] [] := by
  refine lo3_indq (Z := fun (fu : Nat) (c : CS) (x4 : Int32) (x6 : Int32) (r : (CS × Int32)) => ∀ k n9 : Nat, (k + (fu * 3 + 0) ≤ 88 ∧ n9 + (fu * 18 + 0) ≤ 528) → zW E X 8 k n9 (MQ (xb X) (zQ E (some (.int r.2)) (pC E h0 x r.1)) (xa X) (xs X) 88 528 (zA E)) 192 (pC E h0 x c) [(0, .ref x), (2, .int x2), (4, .int x4), (5, .int x5), (6, .int x6)] []) ?_
  intro fu K192 hK0 c x4 x6 r hf k n9 hk
  have hK192 : ∀ (c : CS) (x4 : Int32) (x6 : Int32) (r : (CS × Int32)) (k n9 : Nat), (k + (fu * 3 + 0) ≤ 88 ∧ n9 + (fu * 18 + 0) ≤ 528) → K192 c x4 x6 = some r → zW E X 8 k n9 (MQ (xb X) (zQ E (some (.int r.2)) (pC E h0 x r.1)) (xa X) (xs X) 88 528 (zA E)) 192 (pC E h0 x c) [(0, .ref x), (2, .int x2), (4, .int x4), (5, .int x5), (6, .int x6)] [] := fun c x4 x6 r k n9 hk hq => hK0 c x4 x6 r hq k n9 hk
  clear hK0
  obtain ⟨hk1, hk2⟩ := hk
  unfold f_L_act_h192 at hf
  refine z_iload C dL_act_192 4 rfl ?_
  refine z_iload C dL_act_194 3 rfl ?_
  refine z_icmp_ge C 299 dL_act_196 (by decide) (fun c196 => ?_) (fun c196 => ?_)
  · replace hf := ip c196 hf
    refine z_iload C dL_act_299 2 rfl ?_
    obtain rfl := Option.some.inj hf
    exact z_retK C (by omega) (by omega) dL_act_301 rfl
  · replace hf := iN c196 hf
    refine z_aload_n C dL_act_199 0 rfl ?_
    obtain ⟨q200, hq200, hf⟩ := bd_some hf
    refine iv_L_163 C [] [] (ct_X5_best hq200) pC_o rfl (by decide) rfl (Nat.le_of_ble_eq_true rfl) ⟨by omega, by omega⟩ dL_act_200 ?_
    refine z_istore (lv' := [(7, .int q200), (0, .ref x), (2, .int x2), (4, .int x4), (5, .int x5), (6, .int x6)]) C dL_act_203 (by decide) rfl ?_
    refine z_iconst C (3 : Int32) dL_act_205 (by decide) ?_
    refine z_iload C dL_act_206 3 rfl ?_
    refine z_imul C dL_act_208 ?_
    refine z_iload C dL_act_209 0 rfl ?_
    refine z_iconst C (-1 : Int32) dL_act_211 (by decide) ?_
    refine z_icmp_eq C 241 dL_act_212 (by decide) (fun c212 => ?_) (fun c212 => ?_)
    · replace hf := ip c212 hf
      refine z_aload_n C dL_act_241 1 rfl ?_
      refine z_iconst C (2 : Int32) dL_act_242 (by decide) ?_
      refine z_iconst C (1 : Int32) dL_act_243 (by decide) ?_
      refine z_iconst C (0 : Int32) dL_act_244 (by decide) ?_
      refine z_iconst C (0 : Int32) dL_act_245 (by decide) ?_
      obtain ⟨q246, hq246, hf⟩ := bd_some hf
      refine z_callK (K := 1) C 249 [.ref x, .int (2 : Int32), .int (1 : Int32), .int (0 : Int32), .int (0 : Int32)] [.int ((3 : Int32) * x4)] (ct_L_call hst hq246) co_L_call ml_L_139 st_L_call ini_L ⟨by decide +kernel, by decide +kernel, by show _ = some 5; decide +kernel⟩ (by decide) (by decide) rfl (Nat.le_of_ble_eq_true rfl) ⟨by omega, by omega⟩ rfl dL_act_246 ?_
      refine z_iconst C (1 : Int32) dL_act_249 (by decide) ?_
      refine z_icmp_eq C 258 dL_act_250 (by decide) (fun c250 => ?_) (fun c250 => ?_)
      · replace hf := ip c250 hf
        refine z_aload_n C dL_act_258 1 rfl ?_
        refine z_iconst C (2 : Int32) dL_act_259 (by decide) ?_
        refine z_iconst C (4 : Int32) dL_act_260 (by decide) ?_
        refine z_iconst C (0 : Int32) dL_act_261 (by decide) ?_
        refine z_iconst C (0 : Int32) dL_act_262 (by decide) ?_
        obtain ⟨q263, hq263, hf⟩ := bd_some hf
        refine z_callK (K := 1) C 266 [.ref x, .int (2 : Int32), .int (4 : Int32), .int (0 : Int32), .int (0 : Int32)] [.int ((3 : Int32) * x4)] (ct_L_call hst hq263) co_L_call ml_L_139 st_L_call ini_L ⟨by decide +kernel, by decide +kernel, by show _ = some 5; decide +kernel⟩ (by decide) (by decide) rfl (Nat.le_of_ble_eq_true rfl) ⟨by omega, by omega⟩ rfl dL_act_263 ?_
        refine z_if_le C 281 dL_act_266 (by decide) (fun c266 => ?_) (fun c266 => ?_)
        · replace hf := ip c266 hf
          refine z_aload_n C dL_act_281 1 rfl ?_
          refine z_bipush C (9 : Int32) dL_act_282 (by decide) ?_
          refine z_iconst C (0 : Int32) dL_act_284 (by decide) ?_
          refine z_iconst C (0 : Int32) dL_act_285 (by decide) ?_
          refine z_iconst C (0 : Int32) dL_act_286 (by decide) ?_
          obtain ⟨q287, hq287, hf⟩ := bd_some hf
          refine z_callK (K := 1) C 290 [.ref x, .int (9 : Int32), .int (0 : Int32), .int (0 : Int32), .int (0 : Int32)] [.int ((3 : Int32) * x4)] (ct_L_call hst hq287) co_L_call ml_L_139 st_L_call ini_L ⟨by decide +kernel, by decide +kernel, by show _ = some 5; decide +kernel⟩ (by decide) (by decide) rfl (Nat.le_of_ble_eq_true rfl) ⟨by omega, by omega⟩ rfl dL_act_287 ?_
          exact z_sub [1, 2, 4, 5] rfl (w_L_act_b290 C hst hR1 hR2 hK192 ⟨by omega, by omega⟩ hf)
        · replace hf := iN c266 hf
          refine z_aload_n C dL_act_269 1 rfl ?_
          refine z_bipush C (8 : Int32) dL_act_270 (by decide) ?_
          refine z_iconst C (0 : Int32) dL_act_272 (by decide) ?_
          refine z_iconst C (0 : Int32) dL_act_273 (by decide) ?_
          refine z_iconst C (0 : Int32) dL_act_274 (by decide) ?_
          obtain ⟨q275, hq275, hf⟩ := bd_some hf
          refine z_callK (K := 1) C 278 [.ref x, .int (8 : Int32), .int (0 : Int32), .int (0 : Int32), .int (0 : Int32)] [.int ((3 : Int32) * x4)] (ct_L_call hst hq275) co_L_call ml_L_139 st_L_call ini_L ⟨by decide +kernel, by decide +kernel, by show _ = some 5; decide +kernel⟩ (by decide) (by decide) rfl (Nat.le_of_ble_eq_true rfl) ⟨by omega, by omega⟩ rfl dL_act_275 ?_
          refine z_goto C 290 dL_act_278 (by decide) ?_
          exact z_sub [1, 2, 4, 5] rfl (w_L_act_b290 C hst hR1 hR2 hK192 ⟨by omega, by omega⟩ hf)
      · replace hf := iN c250 hf
        refine z_bipush C (7 : Int32) dL_act_253 (by decide) ?_
        refine z_goto C 290 dL_act_255 (by decide) ?_
        exact z_sub [1, 2, 4, 5] rfl (w_L_act_b290 C hst hR1 hR2 hK192 ⟨by omega, by omega⟩ hf)
    · replace hf := iN c212 hf
      refine z_aload_n C dL_act_215 1 rfl ?_
      refine z_iload C dL_act_216 0 rfl ?_
      refine z_iload_n C dL_act_218 2 rfl ?_
      refine z_iload C dL_act_219 5 rfl ?_
      refine z_iconst C (3 : Int32) dL_act_221 (by decide) ?_
      refine z_iadd C dL_act_222 ?_
      refine z_ishr C dL_act_223 ?_
      refine z_iconst C (1 : Int32) dL_act_224 (by decide) ?_
      refine z_iand C dL_act_225 ?_
      refine z_iconst C (1 : Int32) dL_act_226 (by decide) ?_
      refine z_icmp_ne C 234 dL_act_227 (by decide) (fun c227 => ?_) (fun c227 => ?_)
      · replace hf := iN c227 hf
        refine z_iconst C (0 : Int32) dL_act_234 (by decide) ?_
        exact z_sub [1, 2, 4, 5] rfl (w_L_act_b235 C hst hR1 hR2 hK192 ⟨by omega, by omega⟩ hf)
      · replace hf := ip c227 hf
        refine z_iconst C (1 : Int32) dL_act_230 (by decide) ?_
        refine z_goto C 235 dL_act_231 (by decide) ?_
        exact z_sub [1, 2, 4, 5] rfl (w_L_act_b235 C hst hR1 hR2 hK192 ⟨by omega, by omega⟩ hf)
def f_L_act_b133 (n : Nat) (x1 : Int32)   (c : CS) (s0 : Int32) (s1 : Int32) : Option (CS × Int32) :=
  (f_L_plays n c s1 s0).bind (fun q133 => some (q133.1, q133.2))
set_option maxRecDepth 100000 in
set_option maxHeartbeats 4000000 in
theorem w_L_act_b133 {E : zE} {X : zX} {h0 : Hp} {x : Nat} {n : Nat} {x1 : Int32}  (C : zC E X RL cL_act 8 (some .int) 17) (hst : (xl X).stackTraces = false) (hR1 : 88 ≤ (xR X).cells) (hR2 : 528 ≤ (xR X).slots)  {c : CS} {s0 : Int32} {s1 : Int32} {r : (CS × Int32)} {k n9 : Nat} (hk : (k + 1 ≤ 88 ∧ n9 + 6 ≤ 528)) (hf : f_L_act_b133 n x1 c s0 s1 = some r) : zW E X 8 k n9 (MQ (xb X) (zQ E (some (.int r.2)) (pC E h0 x r.1)) (xa X) (xs X) 88 528 (zA E)) 133 (pC E h0 x c) [] [.int s0, .int s1, .ref x] := by
  obtain ⟨hk1, hk2⟩ := hk
  unfold f_L_act_b133 at hf
  obtain ⟨q133, hq133, hf⟩ := bd_some hf
  refine z_callSW C 136 [.ref x, .int s1, .int s0] [] (ct_L_plays hst hq133) co_L_plays ml_L_147 st_L_plays ini_L ⟨by decide +kernel, by decide +kernel, by show _ = some 3; decide +kernel⟩ (by decide) (by decide) rfl (Nat.le_of_ble_eq_true rfl) ⟨by omega, by omega⟩ rfl dL_act_133 ?_
  obtain rfl := Option.some.inj hf
  exact z_retK C (by omega) (by omega) dL_act_136 rfl
def f_L_act (n : Nat) (c : CS) (x1 : Int32) : Option (CS × Int32) :=
  chk (¬ (16 : Int32) = 0) ((f_L_call n c (2 : Int32) (1 : Int32) (0 : Int32) (0 : Int32)).bind (fun q10 => chk (¬ (32 : Int32) = 0) (if (jrem x1 (32 : Int32)) = (31 : Int32) then (chk (¬ (2 : Int32) = 0) ((f_L_call n q10.1 (14 : Int32) (jrem (x1 / (16 : Int32)) (2 : Int32)) (0 : Int32) (0 : Int32)).bind (fun q31 => some (q31.1, q31.2)))) else (chk (¬ (32 : Int32) = 0) (if (jrem x1 (32 : Int32)) = (30 : Int32) then (chk (¬ (2 : Int32) = 0) ((f_L_call n q10.1 (15 : Int32) (jrem (x1 / (16 : Int32)) (2 : Int32)) (0 : Int32) (0 : Int32)).bind (fun q52 => some (q52.1, q52.2)))) else (if q10.2 = (1 : Int32) then (chk (¬ (64 : Int32) = 0) (if (jrem x1 (64 : Int32)) = (61 : Int32) then (f_L_act_b70 n x1 q10.1 (x1 / (16 : Int32))) else (chk (¬ (32 : Int32) = 0) (if (jrem x1 (32 : Int32)) = (28 : Int32) then ((f_L_call n q10.1 (10 : Int32) (0 : Int32) (0 : Int32) (0 : Int32)).bind (fun q101 => some (q101.1, q101.2))) else (chk (¬ (32 : Int32) = 0) (if (jrem x1 (32 : Int32)) = (27 : Int32) then (chk (¬ (28 : Int32) = 0) (chk (¬ (28 : Int32) = 0) (chk (¬ (2 : Int32) = 0) (if (jrem ((x1 / (16 : Int32)) / (28 : Int32)) (2 : Int32)) = 0 then (f_L_act_b133 n x1 q10.1 (1 : Int32) (jrem (x1 / (16 : Int32)) (28 : Int32))) else (f_L_act_b133 n x1 q10.1 (0 : Int32) (jrem (x1 / (16 : Int32)) (28 : Int32))))))) else (chk (¬ (32 : Int32) = 0) (if (jrem x1 (32 : Int32)) = (26 : Int32) then ((f_L_call n q10.1 (2 : Int32) (4 : Int32) (0 : Int32) (0 : Int32)).bind (fun q151 => if q151.2 ≤ 0 then ((f_L_call n q151.1 (9 : Int32) (0 : Int32) (0 : Int32) (0 : Int32)).bind (fun q175 => some (q175.1, q175.2))) else ((f_L_call n q151.1 (8 : Int32) (0 : Int32) (0 : Int32) (0 : Int32)).bind (fun q163 => some (q163.1, q163.2))))) else (chk (¬ (5 : Int32) = 0) (stt (((1 : Int32) + (jrem (x1 / (16 : Int32)) (5 : Int32)))) (fun v1 => lo3 (f_L_act_h192 n x1 (x1 / (16 : Int32)) v1) 29 q10.1 (0 : Int32) (0 : Int32)))))))))))) else (f_L_act_b70 n x1 q10.1 (x1 / (16 : Int32)))))))))
set_option maxRecDepth 100000 in
set_option maxHeartbeats 4000000 in
theorem ct_L_act {E : zE} {l : Launch} {h0 : Hp} {x : Nat} {n : Nat} {c : CS} {x1 : Int32} {r : (CS × Int32)} (hst : l.stackTraces = false) (hf : f_L_act n c x1 = some r) : zMK E l 17 88 yL_act cL_act 8 (some .int) [.ref x, .int x1] (pC E h0 x c) (some (.int r.2)) (pC E h0 x r.1) := by
  refine zMK_of (lv := [(0, .ref x), (1, .int x1)]) (by decide +kernel) (Nat.le_of_ble_eq_true rfl) rfl (fun X hX C hR => ?_)
  subst hX
  replace C : zC E X RL cL_act 8 (some .int) 17 := C
  have hR1 : 88 ≤ (xR X).cells := by rw [hR]; exact Nat.le_refl _
  have hR2 : 528 ≤ (xR X).slots := by rw [hR]; exact Nat.le_refl _
  obtain ⟨k, hk0⟩ : ∃ k : Nat, k = 0 := ⟨0, rfl⟩
  obtain ⟨n9, hn0⟩ : ∃ n9 : Nat, n9 = 0 := ⟨0, rfl⟩
  refine z_kn (k := k) (n := n9) hk0 hn0 ?_
  unfold f_L_act at hf
  refine z_iload_n C dL_act_0 1 rfl ?_
  refine z_bipush C (16 : Int32) dL_act_1 (by decide) ?_
  obtain ⟨c3, hf⟩ := chk_some hf
  refine z_idiv C dL_act_3 c3 ?_
  refine z_istore_n (lv' := [(2, .int (x1 / (16 : Int32))), (0, .ref x), (1, .int x1)]) C dL_act_4 (by decide) rfl ?_
  refine z_aload_n C dL_act_5 1 rfl ?_
  refine z_iconst C (2 : Int32) dL_act_6 (by decide) ?_
  refine z_iconst C (1 : Int32) dL_act_7 (by decide) ?_
  refine z_iconst C (0 : Int32) dL_act_8 (by decide) ?_
  refine z_iconst C (0 : Int32) dL_act_9 (by decide) ?_
  obtain ⟨q10, hq10, hf⟩ := bd_some hf
  refine z_callK (K := 1) C 13 [.ref x, .int (2 : Int32), .int (1 : Int32), .int (0 : Int32), .int (0 : Int32)] [] (ct_L_call hst hq10) co_L_call ml_L_139 st_L_call ini_L ⟨by decide +kernel, by decide +kernel, by show _ = some 5; decide +kernel⟩ (by decide) (by decide) rfl (Nat.le_of_ble_eq_true rfl) ⟨by omega, by omega⟩ rfl dL_act_10 ?_
  refine z_istore_n (lv' := [(3, .int q10.2), (2, .int (x1 / (16 : Int32))), (0, .ref x), (1, .int x1)]) C dL_act_13 (by decide) rfl ?_
  refine z_iload_n C dL_act_14 3 rfl ?_
  refine z_bipush C (32 : Int32) dL_act_15 (by decide) ?_
  obtain ⟨c17, hf⟩ := chk_some hf
  refine z_irem C dL_act_17 c17 ?_
  refine z_bipush C (31 : Int32) dL_act_18 (by decide) ?_
  refine z_icmp_ne C 35 dL_act_20 (by decide) (fun c20 => ?_) (fun c20 => ?_)
  · replace hf := iN c20 hf
    refine z_iload_n C dL_act_35 3 rfl ?_
    refine z_bipush C (32 : Int32) dL_act_36 (by decide) ?_
    obtain ⟨c38, hf⟩ := chk_some hf
    refine z_irem C dL_act_38 c38 ?_
    refine z_bipush C (30 : Int32) dL_act_39 (by decide) ?_
    refine z_icmp_ne C 56 dL_act_41 (by decide) (fun c41 => ?_) (fun c41 => ?_)
    · replace hf := iN c41 hf
      refine z_iload_n C dL_act_56 0 rfl ?_
      refine z_iconst C (1 : Int32) dL_act_57 (by decide) ?_
      refine z_icmp_ne C 70 dL_act_58 (by decide) (fun c58 => ?_) (fun c58 => ?_)
      · replace hf := iN c58 hf
        exact z_sub [2, 1] rfl (w_L_act_b70 C hst hR1 hR2 ⟨by omega, by omega⟩ hf)
      · replace hf := ip c58 hf
        refine z_iload_n C dL_act_61 3 rfl ?_
        refine z_bipush C (64 : Int32) dL_act_62 (by decide) ?_
        obtain ⟨c64, hf⟩ := chk_some hf
        refine z_irem C dL_act_64 c64 ?_
        refine z_bipush C (61 : Int32) dL_act_65 (by decide) ?_
        refine z_icmp_ne C 86 dL_act_67 (by decide) (fun c67 => ?_) (fun c67 => ?_)
        · replace hf := iN c67 hf
          refine z_iload_n C dL_act_86 3 rfl ?_
          refine z_bipush C (32 : Int32) dL_act_87 (by decide) ?_
          obtain ⟨c89, hf⟩ := chk_some hf
          refine z_irem C dL_act_89 c89 ?_
          refine z_bipush C (28 : Int32) dL_act_90 (by decide) ?_
          refine z_icmp_ne C 105 dL_act_92 (by decide) (fun c92 => ?_) (fun c92 => ?_)
          · replace hf := iN c92 hf
            refine z_iload_n C dL_act_105 3 rfl ?_
            refine z_bipush C (32 : Int32) dL_act_106 (by decide) ?_
            obtain ⟨c108, hf⟩ := chk_some hf
            refine z_irem C dL_act_108 c108 ?_
            refine z_bipush C (27 : Int32) dL_act_109 (by decide) ?_
            refine z_icmp_ne C 137 dL_act_111 (by decide) (fun c111 => ?_) (fun c111 => ?_)
            · replace hf := iN c111 hf
              refine z_iload_n C dL_act_137 3 rfl ?_
              refine z_bipush C (32 : Int32) dL_act_138 (by decide) ?_
              obtain ⟨c140, hf⟩ := chk_some hf
              refine z_irem C dL_act_140 c140 ?_
              refine z_bipush C (26 : Int32) dL_act_141 (by decide) ?_
              refine z_icmp_ne C 179 dL_act_143 (by decide) (fun c143 => ?_) (fun c143 => ?_)
              · replace hf := iN c143 hf
                refine z_iconst C (0 : Int32) dL_act_179 (by decide) ?_
                refine z_istore (lv' := [(4, .int (0 : Int32)), (3, .int q10.2), (2, .int (x1 / (16 : Int32))), (0, .ref x), (1, .int x1)]) C dL_act_180 (by decide) rfl ?_
                refine z_iconst C (1 : Int32) dL_act_182 (by decide) ?_
                refine z_iload_n C dL_act_183 2 rfl ?_
                refine z_iconst C (5 : Int32) dL_act_184 (by decide) ?_
                obtain ⟨c185, hf⟩ := chk_some hf
                refine z_irem C dL_act_185 c185 ?_
                refine z_iadd C dL_act_186 ?_
                obtain ⟨v1, ev1, hf⟩ := st_some hf
                refine z_stk (congrArg (fun z => Value.int z :: []) ev1.symm) ?_
                refine z_istore (lv' := [(5, .int v1), (4, .int (0 : Int32)), (3, .int q10.2), (2, .int (x1 / (16 : Int32))), (0, .ref x), (1, .int x1)]) C dL_act_187 (by decide) rfl ?_
                refine z_iconst C (0 : Int32) dL_act_189 (by decide) ?_
                refine z_istore (lv' := [(6, .int (0 : Int32)), (5, .int v1), (4, .int (0 : Int32)), (3, .int q10.2), (2, .int (x1 / (16 : Int32))), (0, .ref x), (1, .int x1)]) C dL_act_190 (by decide) rfl ?_
                exact z_sub [5, 4, 2, 1, 0] rfl (w_L_act_h192 C hst hR1 hR2 29 _ _ _ _ hf _ _ ⟨by omega, by omega⟩)
              · replace hf := ip c143 hf
                refine z_aload_n C dL_act_146 2 rfl ?_
                refine z_iconst C (2 : Int32) dL_act_147 (by decide) ?_
                refine z_iconst C (4 : Int32) dL_act_148 (by decide) ?_
                refine z_iconst C (0 : Int32) dL_act_149 (by decide) ?_
                refine z_iconst C (0 : Int32) dL_act_150 (by decide) ?_
                obtain ⟨q151, hq151, hf⟩ := bd_some hf
                refine z_callK (K := 1) C 154 [.ref x, .int (2 : Int32), .int (4 : Int32), .int (0 : Int32), .int (0 : Int32)] [] (ct_L_call hst hq151) co_L_call ml_L_139 st_L_call ini_L ⟨by decide +kernel, by decide +kernel, by show _ = some 5; decide +kernel⟩ (by decide) (by decide) rfl (Nat.le_of_ble_eq_true rfl) ⟨by omega, by omega⟩ rfl dL_act_151 ?_
                refine z_if_le C 169 dL_act_154 (by decide) (fun c154 => ?_) (fun c154 => ?_)
                · replace hf := ip c154 hf
                  refine z_aload_n C dL_act_169 2 rfl ?_
                  refine z_bipush C (9 : Int32) dL_act_170 (by decide) ?_
                  refine z_iconst C (0 : Int32) dL_act_172 (by decide) ?_
                  refine z_iconst C (0 : Int32) dL_act_173 (by decide) ?_
                  refine z_iconst C (0 : Int32) dL_act_174 (by decide) ?_
                  obtain ⟨q175, hq175, hf⟩ := bd_some hf
                  refine z_callK (K := 1) C 178 [.ref x, .int (9 : Int32), .int (0 : Int32), .int (0 : Int32), .int (0 : Int32)] [] (ct_L_call hst hq175) co_L_call ml_L_139 st_L_call ini_L ⟨by decide +kernel, by decide +kernel, by show _ = some 5; decide +kernel⟩ (by decide) (by decide) rfl (Nat.le_of_ble_eq_true rfl) ⟨by omega, by omega⟩ rfl dL_act_175 ?_
                  obtain rfl := Option.some.inj hf
                  exact z_retK C (by omega) (by omega) dL_act_178 rfl
                · replace hf := iN c154 hf
                  refine z_aload_n C dL_act_157 2 rfl ?_
                  refine z_bipush C (8 : Int32) dL_act_158 (by decide) ?_
                  refine z_iconst C (0 : Int32) dL_act_160 (by decide) ?_
                  refine z_iconst C (0 : Int32) dL_act_161 (by decide) ?_
                  refine z_iconst C (0 : Int32) dL_act_162 (by decide) ?_
                  obtain ⟨q163, hq163, hf⟩ := bd_some hf
                  refine z_callK (K := 1) C 166 [.ref x, .int (8 : Int32), .int (0 : Int32), .int (0 : Int32), .int (0 : Int32)] [] (ct_L_call hst hq163) co_L_call ml_L_139 st_L_call ini_L ⟨by decide +kernel, by decide +kernel, by show _ = some 5; decide +kernel⟩ (by decide) (by decide) rfl (Nat.le_of_ble_eq_true rfl) ⟨by omega, by omega⟩ rfl dL_act_163 ?_
                  refine z_goto C 178 dL_act_166 (by decide) ?_
                  obtain rfl := Option.some.inj hf
                  exact z_retK C (by omega) (by omega) dL_act_178 rfl
            · replace hf := ip c111 hf
              refine z_aload_n C dL_act_114 2 rfl ?_
              refine z_iload_n C dL_act_115 1 rfl ?_
              refine z_bipush C (28 : Int32) dL_act_116 (by decide) ?_
              obtain ⟨c118, hf⟩ := chk_some hf
              refine z_irem C dL_act_118 c118 ?_
              refine z_iload_n C dL_act_119 1 rfl ?_
              refine z_bipush C (28 : Int32) dL_act_120 (by decide) ?_
              obtain ⟨c122, hf⟩ := chk_some hf
              refine z_idiv C dL_act_122 c122 ?_
              refine z_iconst C (2 : Int32) dL_act_123 (by decide) ?_
              obtain ⟨c124, hf⟩ := chk_some hf
              refine z_irem C dL_act_124 c124 ?_
              refine z_if_ne C 132 dL_act_125 (by decide) (fun c125 => ?_) (fun c125 => ?_)
              · replace hf := iN c125 hf
                refine z_iconst C (0 : Int32) dL_act_132 (by decide) ?_
                exact z_sub [] rfl (w_L_act_b133 C hst hR1 hR2 ⟨by omega, by omega⟩ hf)
              · replace hf := ip c125 hf
                refine z_iconst C (1 : Int32) dL_act_128 (by decide) ?_
                refine z_goto C 133 dL_act_129 (by decide) ?_
                exact z_sub [] rfl (w_L_act_b133 C hst hR1 hR2 ⟨by omega, by omega⟩ hf)
          · replace hf := ip c92 hf
            refine z_aload_n C dL_act_95 2 rfl ?_
            refine z_bipush C (10 : Int32) dL_act_96 (by decide) ?_
            refine z_iconst C (0 : Int32) dL_act_98 (by decide) ?_
            refine z_iconst C (0 : Int32) dL_act_99 (by decide) ?_
            refine z_iconst C (0 : Int32) dL_act_100 (by decide) ?_
            obtain ⟨q101, hq101, hf⟩ := bd_some hf
            refine z_callK (K := 1) C 104 [.ref x, .int (10 : Int32), .int (0 : Int32), .int (0 : Int32), .int (0 : Int32)] [] (ct_L_call hst hq101) co_L_call ml_L_139 st_L_call ini_L ⟨by decide +kernel, by decide +kernel, by show _ = some 5; decide +kernel⟩ (by decide) (by decide) rfl (Nat.le_of_ble_eq_true rfl) ⟨by omega, by omega⟩ rfl dL_act_101 ?_
            obtain rfl := Option.some.inj hf
            exact z_retK C (by omega) (by omega) dL_act_104 rfl
        · replace hf := ip c67 hf
          exact z_sub [2, 1] rfl (w_L_act_b70 C hst hR1 hR2 ⟨by omega, by omega⟩ hf)
    · replace hf := ip c41 hf
      refine z_aload_n C dL_act_44 2 rfl ?_
      refine z_bipush C (15 : Int32) dL_act_45 (by decide) ?_
      refine z_iload_n C dL_act_47 1 rfl ?_
      refine z_iconst C (2 : Int32) dL_act_48 (by decide) ?_
      obtain ⟨c49, hf⟩ := chk_some hf
      refine z_irem C dL_act_49 c49 ?_
      refine z_iconst C (0 : Int32) dL_act_50 (by decide) ?_
      refine z_iconst C (0 : Int32) dL_act_51 (by decide) ?_
      obtain ⟨q52, hq52, hf⟩ := bd_some hf
      refine z_callK (K := 1) C 55 [.ref x, .int (15 : Int32), .int (jrem (x1 / (16 : Int32)) (2 : Int32)), .int (0 : Int32), .int (0 : Int32)] [] (ct_L_call hst hq52) co_L_call ml_L_139 st_L_call ini_L ⟨by decide +kernel, by decide +kernel, by show _ = some 5; decide +kernel⟩ (by decide) (by decide) rfl (Nat.le_of_ble_eq_true rfl) ⟨by omega, by omega⟩ rfl dL_act_52 ?_
      obtain rfl := Option.some.inj hf
      exact z_retK C (by omega) (by omega) dL_act_55 rfl
  · replace hf := ip c20 hf
    refine z_aload_n C dL_act_23 2 rfl ?_
    refine z_bipush C (14 : Int32) dL_act_24 (by decide) ?_
    refine z_iload_n C dL_act_26 1 rfl ?_
    refine z_iconst C (2 : Int32) dL_act_27 (by decide) ?_
    obtain ⟨c28, hf⟩ := chk_some hf
    refine z_irem C dL_act_28 c28 ?_
    refine z_iconst C (0 : Int32) dL_act_29 (by decide) ?_
    refine z_iconst C (0 : Int32) dL_act_30 (by decide) ?_
    obtain ⟨q31, hq31, hf⟩ := bd_some hf
    refine z_callK (K := 1) C 34 [.ref x, .int (14 : Int32), .int (jrem (x1 / (16 : Int32)) (2 : Int32)), .int (0 : Int32), .int (0 : Int32)] [] (ct_L_call hst hq31) co_L_call ml_L_139 st_L_call ini_L ⟨by decide +kernel, by decide +kernel, by show _ = some 5; decide +kernel⟩ (by decide) (by decide) rfl (Nat.le_of_ble_eq_true rfl) ⟨by omega, by omega⟩ rfl dL_act_31 ?_
    obtain rfl := Option.some.inj hf
    exact z_retK C (by omega) (by omega) dL_act_34 rfl
