/-! PURE LEVEL: numbers -/
theorem i_0 : (0 : Int32) = nI 0 := rfl
theorem i_1 : (1 : Int32) = nI 1 := rfl
theorem i_2 : (2 : Int32) = nI 2 := rfl
theorem i_3 : (3 : Int32) = nI 3 := rfl
theorem i_4 : (4 : Int32) = nI 4 := rfl
theorem i_5 : (5 : Int32) = nI 5 := rfl
theorem i_6 : (6 : Int32) = nI 6 := rfl
theorem i_7 : (7 : Int32) = nI 7 := rfl
theorem i_9 : (9 : Int32) = nI 9 := rfl
theorem i_10 : (10 : Int32) = nI 10 := rfl
theorem i_14 : (14 : Int32) = nI 14 := rfl
theorem i_25 : (25 : Int32) = nI 25 := rfl
theorem i_28 : (28 : Int32) = nI 28 := rfl
theorem i_120 : (120 : Int32) = nI 120 := rfl
theorem i_217 : (217 : Int32) = nI 217 := rfl
theorem nI_lt0 {n : Nat} (h : n < 2 ^ 31) : ¬ nI n < 0 := nI_pos h
theorem nI_ne_m1 {n : Nat} (h : n < 2 ^ 31) : ¬ nI n = -1 := fun e => by
  have h1 := congrArg Int32.toInt e
  rw [nI_toInt h, show (-1 : Int32).toInt = -1 by decide] at h1
  omega
theorem nI_ne_m1' {n : Nat} (h : n < 2 ^ 31) : ¬ -1 = nI n := fun e => nI_ne_m1 h e.symm
theorem in_n {j N : Nat} (h : j < N) (hN : N < 2 ^ 31) : inB (nI j) N := nI_in h hN
theorem chk_n {j N : Nat} (h : j < N) (hN : N < 2 ^ 31) {α : Type} {x : Option α} : chk (inB (nI j) N) x = x := chk_t (in_n h hN)
theorem nI_sub {a b : Nat} (h : b ≤ a) : nI a - nI b = nI (a - b) := by
  have h1 : nI a = nI (a - b) + nI b := by rw [nI_add, Nat.sub_add_cancel h]
  rw [h1]
  exact Int32.add_sub_cancel _ _
theorem nI_mul (a b : Nat) : nI a * nI b = nI (a * b) := (Int32.ofNat_mul a b).symm
theorem nI_inj {a b : Nat} (ha : a < 2 ^ 31) (hb : b < 2 ^ 31) (h : nI a = nI b) : a = b := (nI_eq ha hb).mp h
theorem nI_m1 (a : Nat) : nI (a + 1) + (-1) = nI a := by
  rw [← nI_1, Int32.add_assoc, show (1 : Int32) + (-1) = 0 by decide, Int32.add_zero]
/-! loops with an index that counts up -/
theorem for1 {R : Type} {F : (Int32 → Option R) → Int32 → Option R} (N : Nat) (I : Nat → Prop) (Z : R → Prop) (hend : ∀ K, I N → ∃ r, F K (nI N) = some r ∧ Z r)
    (hstep : ∀ K j, j < N → I j → (F K (nI j) = K (nI (j + 1)) ∧ I (j + 1)) ∨ ∃ r, F K (nI j) = some r ∧ Z r) : ∀ n j, j ≤ N → N < j + n → I j → ∃ r, lo1 F n (nI j) = some r ∧ Z r := by
  intro n
  induction n with
  | zero => intro j h1 h2; omega
  | succ n ih =>
    intro j h1 h2 hI
    rw [lo1_s]
    by_cases e : j = N
    · subst e
      exact hend _ hI
    · rcases hstep (lo1 F n) j (by omega) hI with ⟨h3, h4⟩ | h3
      · rw [h3]
        exact ih (j + 1) (by omega) (by omega) h4
      · exact h3
theorem for2 {A R : Type} {F : (A → Int32 → Option R) → A → Int32 → Option R} (N : Nat) (I : Nat → A → Prop) (Z : R → Prop) (hend : ∀ K a, I N a → ∃ r, F K a (nI N) = some r ∧ Z r)
    (hstep : ∀ K a j, j < N → I j a → (∃ a', F K a (nI j) = K a' (nI (j + 1)) ∧ I (j + 1) a') ∨ ∃ r, F K a (nI j) = some r ∧ Z r) : ∀ n j a, j ≤ N → N < j + n → I j a → ∃ r, lo2 F n a (nI j) = some r ∧ Z r := by
  intro n
  induction n with
  | zero => intro j a h1 h2; omega
  | succ n ih =>
    intro j a h1 h2 hI
    rw [lo2_s]
    by_cases e : j = N
    · subst e
      exact hend _ a hI
    · rcases hstep (lo2 F n) a j (by omega) hI with ⟨a', h3, h4⟩ | h3
      · rw [h3]
        exact ih (j + 1) a' (by omega) (by omega) h4
      · exact h3
theorem for3 {A B R : Type} {F : (A → B → Int32 → Option R) → A → B → Int32 → Option R} (N : Nat) (I : Nat → A → B → Prop) (Z : R → Prop) (hend : ∀ K a b, I N a b → ∃ r, F K a b (nI N) = some r ∧ Z r)
    (hstep : ∀ K a b j, j < N → I j a b → (∃ a' b', F K a b (nI j) = K a' b' (nI (j + 1)) ∧ I (j + 1) a' b') ∨ ∃ r, F K a b (nI j) = some r ∧ Z r) : ∀ n j a b, j ≤ N → N < j + n → I j a b → ∃ r, lo3 F n a b (nI j) = some r ∧ Z r := by
  intro n
  induction n with
  | zero => intro j a b h1 h2; omega
  | succ n ih =>
    intro j a b h1 h2 hI
    rw [lo3_s]
    by_cases e : j = N
    · subst e
      exact hend _ a b hI
    · rcases hstep (lo3 F n) a b j (by omega) hI with ⟨a', b', h3, h4⟩ | h3
      · rw [h3]
        exact ih (j + 1) a' b' (by omega) (by omega) h4
      · exact h3
theorem ex_eq {R : Type} {x : Option R} {v : R} (h : ∃ r, x = some r ∧ r = v) : x = some v := by
  obtain ⟨r, h1, rfl⟩ := h
  exact h1
theorem leL_0 {j : Nat} (h : j < 2 ^ 31) : (0 : Int32) ≤ nI j ↔ 0 ≤ j := nI_leI (a := 0) (by decide) h
theorem geL_0 {j : Nat} (h : j < 2 ^ 31) : nI j ≤ (0 : Int32) ↔ j ≤ 0 := nI_leI (b := 0) h (by decide)
theorem ltL_0 {j : Nat} (h : j < 2 ^ 31) : (0 : Int32) < nI j ↔ 0 < j := nI_ltI (a := 0) (by decide) h
theorem gtL_0 {j : Nat} (h : j < 2 ^ 31) : nI j < (0 : Int32) ↔ j < 0 := nI_ltI (b := 0) h (by decide)
theorem eqL_0 {j : Nat} (h : j < 2 ^ 31) : nI j = (0 : Int32) ↔ j = 0 := nI_eq (b := 0) h (by decide)
theorem adL_0 {j : Nat} : nI j + (0 : Int32) = nI (j + 0) := nI_add j 0
theorem muL_0 {j : Nat} : (0 : Int32) * nI j = nI (0 * j) := nI_mul 0 j
theorem suL_0 {j : Nat} (h : 0 ≤ j) : nI j - (0 : Int32) = nI (j - 0) := nI_sub (b := 0) h
theorem slL_0 {j : Nat} (h : j ≤ 0) : (0 : Int32) - nI j = nI (0 - j) := nI_sub (a := 0) h
theorem alL_0 {j : Nat} : (0 : Int32) + nI j = nI (0 + j) := nI_add 0 j
theorem tnL_0 : (0 : Int32).toNatClampNeg = 0 := by decide
theorem leL_1 {j : Nat} (h : j < 2 ^ 31) : (1 : Int32) ≤ nI j ↔ 1 ≤ j := nI_leI (a := 1) (by decide) h
theorem geL_1 {j : Nat} (h : j < 2 ^ 31) : nI j ≤ (1 : Int32) ↔ j ≤ 1 := nI_leI (b := 1) h (by decide)
theorem ltL_1 {j : Nat} (h : j < 2 ^ 31) : (1 : Int32) < nI j ↔ 1 < j := nI_ltI (a := 1) (by decide) h
theorem gtL_1 {j : Nat} (h : j < 2 ^ 31) : nI j < (1 : Int32) ↔ j < 1 := nI_ltI (b := 1) h (by decide)
theorem eqL_1 {j : Nat} (h : j < 2 ^ 31) : nI j = (1 : Int32) ↔ j = 1 := nI_eq (b := 1) h (by decide)
theorem adL_1 {j : Nat} : nI j + (1 : Int32) = nI (j + 1) := nI_add j 1
theorem muL_1 {j : Nat} : (1 : Int32) * nI j = nI (1 * j) := nI_mul 1 j
theorem suL_1 {j : Nat} (h : 1 ≤ j) : nI j - (1 : Int32) = nI (j - 1) := nI_sub (b := 1) h
theorem slL_1 {j : Nat} (h : j ≤ 1) : (1 : Int32) - nI j = nI (1 - j) := nI_sub (a := 1) h
theorem alL_1 {j : Nat} : (1 : Int32) + nI j = nI (1 + j) := nI_add 1 j
theorem tnL_1 : (1 : Int32).toNatClampNeg = 1 := by decide
theorem leL_2 {j : Nat} (h : j < 2 ^ 31) : (2 : Int32) ≤ nI j ↔ 2 ≤ j := nI_leI (a := 2) (by decide) h
theorem geL_2 {j : Nat} (h : j < 2 ^ 31) : nI j ≤ (2 : Int32) ↔ j ≤ 2 := nI_leI (b := 2) h (by decide)
theorem ltL_2 {j : Nat} (h : j < 2 ^ 31) : (2 : Int32) < nI j ↔ 2 < j := nI_ltI (a := 2) (by decide) h
theorem gtL_2 {j : Nat} (h : j < 2 ^ 31) : nI j < (2 : Int32) ↔ j < 2 := nI_ltI (b := 2) h (by decide)
theorem eqL_2 {j : Nat} (h : j < 2 ^ 31) : nI j = (2 : Int32) ↔ j = 2 := nI_eq (b := 2) h (by decide)
theorem adL_2 {j : Nat} : nI j + (2 : Int32) = nI (j + 2) := nI_add j 2
theorem muL_2 {j : Nat} : (2 : Int32) * nI j = nI (2 * j) := nI_mul 2 j
theorem suL_2 {j : Nat} (h : 2 ≤ j) : nI j - (2 : Int32) = nI (j - 2) := nI_sub (b := 2) h
theorem slL_2 {j : Nat} (h : j ≤ 2) : (2 : Int32) - nI j = nI (2 - j) := nI_sub (a := 2) h
theorem alL_2 {j : Nat} : (2 : Int32) + nI j = nI (2 + j) := nI_add 2 j
theorem tnL_2 : (2 : Int32).toNatClampNeg = 2 := by decide
theorem leL_3 {j : Nat} (h : j < 2 ^ 31) : (3 : Int32) ≤ nI j ↔ 3 ≤ j := nI_leI (a := 3) (by decide) h
theorem geL_3 {j : Nat} (h : j < 2 ^ 31) : nI j ≤ (3 : Int32) ↔ j ≤ 3 := nI_leI (b := 3) h (by decide)
theorem ltL_3 {j : Nat} (h : j < 2 ^ 31) : (3 : Int32) < nI j ↔ 3 < j := nI_ltI (a := 3) (by decide) h
theorem gtL_3 {j : Nat} (h : j < 2 ^ 31) : nI j < (3 : Int32) ↔ j < 3 := nI_ltI (b := 3) h (by decide)
theorem eqL_3 {j : Nat} (h : j < 2 ^ 31) : nI j = (3 : Int32) ↔ j = 3 := nI_eq (b := 3) h (by decide)
theorem adL_3 {j : Nat} : nI j + (3 : Int32) = nI (j + 3) := nI_add j 3
theorem muL_3 {j : Nat} : (3 : Int32) * nI j = nI (3 * j) := nI_mul 3 j
theorem suL_3 {j : Nat} (h : 3 ≤ j) : nI j - (3 : Int32) = nI (j - 3) := nI_sub (b := 3) h
theorem slL_3 {j : Nat} (h : j ≤ 3) : (3 : Int32) - nI j = nI (3 - j) := nI_sub (a := 3) h
theorem alL_3 {j : Nat} : (3 : Int32) + nI j = nI (3 + j) := nI_add 3 j
theorem tnL_3 : (3 : Int32).toNatClampNeg = 3 := by decide
theorem leL_4 {j : Nat} (h : j < 2 ^ 31) : (4 : Int32) ≤ nI j ↔ 4 ≤ j := nI_leI (a := 4) (by decide) h
theorem geL_4 {j : Nat} (h : j < 2 ^ 31) : nI j ≤ (4 : Int32) ↔ j ≤ 4 := nI_leI (b := 4) h (by decide)
theorem ltL_4 {j : Nat} (h : j < 2 ^ 31) : (4 : Int32) < nI j ↔ 4 < j := nI_ltI (a := 4) (by decide) h
theorem gtL_4 {j : Nat} (h : j < 2 ^ 31) : nI j < (4 : Int32) ↔ j < 4 := nI_ltI (b := 4) h (by decide)
theorem eqL_4 {j : Nat} (h : j < 2 ^ 31) : nI j = (4 : Int32) ↔ j = 4 := nI_eq (b := 4) h (by decide)
theorem adL_4 {j : Nat} : nI j + (4 : Int32) = nI (j + 4) := nI_add j 4
theorem muL_4 {j : Nat} : (4 : Int32) * nI j = nI (4 * j) := nI_mul 4 j
theorem suL_4 {j : Nat} (h : 4 ≤ j) : nI j - (4 : Int32) = nI (j - 4) := nI_sub (b := 4) h
theorem slL_4 {j : Nat} (h : j ≤ 4) : (4 : Int32) - nI j = nI (4 - j) := nI_sub (a := 4) h
theorem alL_4 {j : Nat} : (4 : Int32) + nI j = nI (4 + j) := nI_add 4 j
theorem tnL_4 : (4 : Int32).toNatClampNeg = 4 := by decide
theorem leL_5 {j : Nat} (h : j < 2 ^ 31) : (5 : Int32) ≤ nI j ↔ 5 ≤ j := nI_leI (a := 5) (by decide) h
theorem geL_5 {j : Nat} (h : j < 2 ^ 31) : nI j ≤ (5 : Int32) ↔ j ≤ 5 := nI_leI (b := 5) h (by decide)
theorem ltL_5 {j : Nat} (h : j < 2 ^ 31) : (5 : Int32) < nI j ↔ 5 < j := nI_ltI (a := 5) (by decide) h
theorem gtL_5 {j : Nat} (h : j < 2 ^ 31) : nI j < (5 : Int32) ↔ j < 5 := nI_ltI (b := 5) h (by decide)
theorem eqL_5 {j : Nat} (h : j < 2 ^ 31) : nI j = (5 : Int32) ↔ j = 5 := nI_eq (b := 5) h (by decide)
theorem adL_5 {j : Nat} : nI j + (5 : Int32) = nI (j + 5) := nI_add j 5
theorem muL_5 {j : Nat} : (5 : Int32) * nI j = nI (5 * j) := nI_mul 5 j
theorem suL_5 {j : Nat} (h : 5 ≤ j) : nI j - (5 : Int32) = nI (j - 5) := nI_sub (b := 5) h
theorem slL_5 {j : Nat} (h : j ≤ 5) : (5 : Int32) - nI j = nI (5 - j) := nI_sub (a := 5) h
theorem alL_5 {j : Nat} : (5 : Int32) + nI j = nI (5 + j) := nI_add 5 j
theorem tnL_5 : (5 : Int32).toNatClampNeg = 5 := by decide
theorem leL_6 {j : Nat} (h : j < 2 ^ 31) : (6 : Int32) ≤ nI j ↔ 6 ≤ j := nI_leI (a := 6) (by decide) h
theorem geL_6 {j : Nat} (h : j < 2 ^ 31) : nI j ≤ (6 : Int32) ↔ j ≤ 6 := nI_leI (b := 6) h (by decide)
theorem ltL_6 {j : Nat} (h : j < 2 ^ 31) : (6 : Int32) < nI j ↔ 6 < j := nI_ltI (a := 6) (by decide) h
theorem gtL_6 {j : Nat} (h : j < 2 ^ 31) : nI j < (6 : Int32) ↔ j < 6 := nI_ltI (b := 6) h (by decide)
theorem eqL_6 {j : Nat} (h : j < 2 ^ 31) : nI j = (6 : Int32) ↔ j = 6 := nI_eq (b := 6) h (by decide)
theorem adL_6 {j : Nat} : nI j + (6 : Int32) = nI (j + 6) := nI_add j 6
theorem muL_6 {j : Nat} : (6 : Int32) * nI j = nI (6 * j) := nI_mul 6 j
theorem suL_6 {j : Nat} (h : 6 ≤ j) : nI j - (6 : Int32) = nI (j - 6) := nI_sub (b := 6) h
theorem slL_6 {j : Nat} (h : j ≤ 6) : (6 : Int32) - nI j = nI (6 - j) := nI_sub (a := 6) h
theorem alL_6 {j : Nat} : (6 : Int32) + nI j = nI (6 + j) := nI_add 6 j
theorem tnL_6 : (6 : Int32).toNatClampNeg = 6 := by decide
theorem leL_7 {j : Nat} (h : j < 2 ^ 31) : (7 : Int32) ≤ nI j ↔ 7 ≤ j := nI_leI (a := 7) (by decide) h
theorem geL_7 {j : Nat} (h : j < 2 ^ 31) : nI j ≤ (7 : Int32) ↔ j ≤ 7 := nI_leI (b := 7) h (by decide)
theorem ltL_7 {j : Nat} (h : j < 2 ^ 31) : (7 : Int32) < nI j ↔ 7 < j := nI_ltI (a := 7) (by decide) h
theorem gtL_7 {j : Nat} (h : j < 2 ^ 31) : nI j < (7 : Int32) ↔ j < 7 := nI_ltI (b := 7) h (by decide)
theorem eqL_7 {j : Nat} (h : j < 2 ^ 31) : nI j = (7 : Int32) ↔ j = 7 := nI_eq (b := 7) h (by decide)
theorem adL_7 {j : Nat} : nI j + (7 : Int32) = nI (j + 7) := nI_add j 7
theorem muL_7 {j : Nat} : (7 : Int32) * nI j = nI (7 * j) := nI_mul 7 j
theorem suL_7 {j : Nat} (h : 7 ≤ j) : nI j - (7 : Int32) = nI (j - 7) := nI_sub (b := 7) h
theorem slL_7 {j : Nat} (h : j ≤ 7) : (7 : Int32) - nI j = nI (7 - j) := nI_sub (a := 7) h
theorem alL_7 {j : Nat} : (7 : Int32) + nI j = nI (7 + j) := nI_add 7 j
theorem tnL_7 : (7 : Int32).toNatClampNeg = 7 := by decide
theorem leL_8 {j : Nat} (h : j < 2 ^ 31) : (8 : Int32) ≤ nI j ↔ 8 ≤ j := nI_leI (a := 8) (by decide) h
theorem geL_8 {j : Nat} (h : j < 2 ^ 31) : nI j ≤ (8 : Int32) ↔ j ≤ 8 := nI_leI (b := 8) h (by decide)
theorem ltL_8 {j : Nat} (h : j < 2 ^ 31) : (8 : Int32) < nI j ↔ 8 < j := nI_ltI (a := 8) (by decide) h
theorem gtL_8 {j : Nat} (h : j < 2 ^ 31) : nI j < (8 : Int32) ↔ j < 8 := nI_ltI (b := 8) h (by decide)
theorem eqL_8 {j : Nat} (h : j < 2 ^ 31) : nI j = (8 : Int32) ↔ j = 8 := nI_eq (b := 8) h (by decide)
theorem adL_8 {j : Nat} : nI j + (8 : Int32) = nI (j + 8) := nI_add j 8
theorem muL_8 {j : Nat} : (8 : Int32) * nI j = nI (8 * j) := nI_mul 8 j
theorem suL_8 {j : Nat} (h : 8 ≤ j) : nI j - (8 : Int32) = nI (j - 8) := nI_sub (b := 8) h
theorem slL_8 {j : Nat} (h : j ≤ 8) : (8 : Int32) - nI j = nI (8 - j) := nI_sub (a := 8) h
theorem alL_8 {j : Nat} : (8 : Int32) + nI j = nI (8 + j) := nI_add 8 j
theorem tnL_8 : (8 : Int32).toNatClampNeg = 8 := by decide
theorem leL_9 {j : Nat} (h : j < 2 ^ 31) : (9 : Int32) ≤ nI j ↔ 9 ≤ j := nI_leI (a := 9) (by decide) h
theorem geL_9 {j : Nat} (h : j < 2 ^ 31) : nI j ≤ (9 : Int32) ↔ j ≤ 9 := nI_leI (b := 9) h (by decide)
theorem ltL_9 {j : Nat} (h : j < 2 ^ 31) : (9 : Int32) < nI j ↔ 9 < j := nI_ltI (a := 9) (by decide) h
theorem gtL_9 {j : Nat} (h : j < 2 ^ 31) : nI j < (9 : Int32) ↔ j < 9 := nI_ltI (b := 9) h (by decide)
theorem eqL_9 {j : Nat} (h : j < 2 ^ 31) : nI j = (9 : Int32) ↔ j = 9 := nI_eq (b := 9) h (by decide)
theorem adL_9 {j : Nat} : nI j + (9 : Int32) = nI (j + 9) := nI_add j 9
theorem muL_9 {j : Nat} : (9 : Int32) * nI j = nI (9 * j) := nI_mul 9 j
theorem suL_9 {j : Nat} (h : 9 ≤ j) : nI j - (9 : Int32) = nI (j - 9) := nI_sub (b := 9) h
theorem slL_9 {j : Nat} (h : j ≤ 9) : (9 : Int32) - nI j = nI (9 - j) := nI_sub (a := 9) h
theorem alL_9 {j : Nat} : (9 : Int32) + nI j = nI (9 + j) := nI_add 9 j
theorem tnL_9 : (9 : Int32).toNatClampNeg = 9 := by decide
theorem leL_10 {j : Nat} (h : j < 2 ^ 31) : (10 : Int32) ≤ nI j ↔ 10 ≤ j := nI_leI (a := 10) (by decide) h
theorem geL_10 {j : Nat} (h : j < 2 ^ 31) : nI j ≤ (10 : Int32) ↔ j ≤ 10 := nI_leI (b := 10) h (by decide)
theorem ltL_10 {j : Nat} (h : j < 2 ^ 31) : (10 : Int32) < nI j ↔ 10 < j := nI_ltI (a := 10) (by decide) h
theorem gtL_10 {j : Nat} (h : j < 2 ^ 31) : nI j < (10 : Int32) ↔ j < 10 := nI_ltI (b := 10) h (by decide)
theorem eqL_10 {j : Nat} (h : j < 2 ^ 31) : nI j = (10 : Int32) ↔ j = 10 := nI_eq (b := 10) h (by decide)
theorem adL_10 {j : Nat} : nI j + (10 : Int32) = nI (j + 10) := nI_add j 10
theorem muL_10 {j : Nat} : (10 : Int32) * nI j = nI (10 * j) := nI_mul 10 j
theorem suL_10 {j : Nat} (h : 10 ≤ j) : nI j - (10 : Int32) = nI (j - 10) := nI_sub (b := 10) h
theorem slL_10 {j : Nat} (h : j ≤ 10) : (10 : Int32) - nI j = nI (10 - j) := nI_sub (a := 10) h
theorem alL_10 {j : Nat} : (10 : Int32) + nI j = nI (10 + j) := nI_add 10 j
theorem tnL_10 : (10 : Int32).toNatClampNeg = 10 := by decide
theorem leL_11 {j : Nat} (h : j < 2 ^ 31) : (11 : Int32) ≤ nI j ↔ 11 ≤ j := nI_leI (a := 11) (by decide) h
theorem geL_11 {j : Nat} (h : j < 2 ^ 31) : nI j ≤ (11 : Int32) ↔ j ≤ 11 := nI_leI (b := 11) h (by decide)
theorem ltL_11 {j : Nat} (h : j < 2 ^ 31) : (11 : Int32) < nI j ↔ 11 < j := nI_ltI (a := 11) (by decide) h
theorem gtL_11 {j : Nat} (h : j < 2 ^ 31) : nI j < (11 : Int32) ↔ j < 11 := nI_ltI (b := 11) h (by decide)
theorem eqL_11 {j : Nat} (h : j < 2 ^ 31) : nI j = (11 : Int32) ↔ j = 11 := nI_eq (b := 11) h (by decide)
theorem adL_11 {j : Nat} : nI j + (11 : Int32) = nI (j + 11) := nI_add j 11
theorem muL_11 {j : Nat} : (11 : Int32) * nI j = nI (11 * j) := nI_mul 11 j
theorem suL_11 {j : Nat} (h : 11 ≤ j) : nI j - (11 : Int32) = nI (j - 11) := nI_sub (b := 11) h
theorem slL_11 {j : Nat} (h : j ≤ 11) : (11 : Int32) - nI j = nI (11 - j) := nI_sub (a := 11) h
theorem alL_11 {j : Nat} : (11 : Int32) + nI j = nI (11 + j) := nI_add 11 j
theorem tnL_11 : (11 : Int32).toNatClampNeg = 11 := by decide
theorem leL_12 {j : Nat} (h : j < 2 ^ 31) : (12 : Int32) ≤ nI j ↔ 12 ≤ j := nI_leI (a := 12) (by decide) h
theorem geL_12 {j : Nat} (h : j < 2 ^ 31) : nI j ≤ (12 : Int32) ↔ j ≤ 12 := nI_leI (b := 12) h (by decide)
theorem ltL_12 {j : Nat} (h : j < 2 ^ 31) : (12 : Int32) < nI j ↔ 12 < j := nI_ltI (a := 12) (by decide) h
theorem gtL_12 {j : Nat} (h : j < 2 ^ 31) : nI j < (12 : Int32) ↔ j < 12 := nI_ltI (b := 12) h (by decide)
theorem eqL_12 {j : Nat} (h : j < 2 ^ 31) : nI j = (12 : Int32) ↔ j = 12 := nI_eq (b := 12) h (by decide)
theorem adL_12 {j : Nat} : nI j + (12 : Int32) = nI (j + 12) := nI_add j 12
theorem muL_12 {j : Nat} : (12 : Int32) * nI j = nI (12 * j) := nI_mul 12 j
theorem suL_12 {j : Nat} (h : 12 ≤ j) : nI j - (12 : Int32) = nI (j - 12) := nI_sub (b := 12) h
theorem slL_12 {j : Nat} (h : j ≤ 12) : (12 : Int32) - nI j = nI (12 - j) := nI_sub (a := 12) h
theorem alL_12 {j : Nat} : (12 : Int32) + nI j = nI (12 + j) := nI_add 12 j
theorem tnL_12 : (12 : Int32).toNatClampNeg = 12 := by decide
theorem leL_13 {j : Nat} (h : j < 2 ^ 31) : (13 : Int32) ≤ nI j ↔ 13 ≤ j := nI_leI (a := 13) (by decide) h
theorem geL_13 {j : Nat} (h : j < 2 ^ 31) : nI j ≤ (13 : Int32) ↔ j ≤ 13 := nI_leI (b := 13) h (by decide)
theorem ltL_13 {j : Nat} (h : j < 2 ^ 31) : (13 : Int32) < nI j ↔ 13 < j := nI_ltI (a := 13) (by decide) h
theorem gtL_13 {j : Nat} (h : j < 2 ^ 31) : nI j < (13 : Int32) ↔ j < 13 := nI_ltI (b := 13) h (by decide)
theorem eqL_13 {j : Nat} (h : j < 2 ^ 31) : nI j = (13 : Int32) ↔ j = 13 := nI_eq (b := 13) h (by decide)
theorem adL_13 {j : Nat} : nI j + (13 : Int32) = nI (j + 13) := nI_add j 13
theorem muL_13 {j : Nat} : (13 : Int32) * nI j = nI (13 * j) := nI_mul 13 j
theorem suL_13 {j : Nat} (h : 13 ≤ j) : nI j - (13 : Int32) = nI (j - 13) := nI_sub (b := 13) h
theorem slL_13 {j : Nat} (h : j ≤ 13) : (13 : Int32) - nI j = nI (13 - j) := nI_sub (a := 13) h
theorem alL_13 {j : Nat} : (13 : Int32) + nI j = nI (13 + j) := nI_add 13 j
theorem tnL_13 : (13 : Int32).toNatClampNeg = 13 := by decide
theorem leL_14 {j : Nat} (h : j < 2 ^ 31) : (14 : Int32) ≤ nI j ↔ 14 ≤ j := nI_leI (a := 14) (by decide) h
theorem geL_14 {j : Nat} (h : j < 2 ^ 31) : nI j ≤ (14 : Int32) ↔ j ≤ 14 := nI_leI (b := 14) h (by decide)
theorem ltL_14 {j : Nat} (h : j < 2 ^ 31) : (14 : Int32) < nI j ↔ 14 < j := nI_ltI (a := 14) (by decide) h
theorem gtL_14 {j : Nat} (h : j < 2 ^ 31) : nI j < (14 : Int32) ↔ j < 14 := nI_ltI (b := 14) h (by decide)
theorem eqL_14 {j : Nat} (h : j < 2 ^ 31) : nI j = (14 : Int32) ↔ j = 14 := nI_eq (b := 14) h (by decide)
theorem adL_14 {j : Nat} : nI j + (14 : Int32) = nI (j + 14) := nI_add j 14
theorem muL_14 {j : Nat} : (14 : Int32) * nI j = nI (14 * j) := nI_mul 14 j
theorem suL_14 {j : Nat} (h : 14 ≤ j) : nI j - (14 : Int32) = nI (j - 14) := nI_sub (b := 14) h
theorem slL_14 {j : Nat} (h : j ≤ 14) : (14 : Int32) - nI j = nI (14 - j) := nI_sub (a := 14) h
theorem alL_14 {j : Nat} : (14 : Int32) + nI j = nI (14 + j) := nI_add 14 j
theorem tnL_14 : (14 : Int32).toNatClampNeg = 14 := by decide
theorem leL_15 {j : Nat} (h : j < 2 ^ 31) : (15 : Int32) ≤ nI j ↔ 15 ≤ j := nI_leI (a := 15) (by decide) h
theorem geL_15 {j : Nat} (h : j < 2 ^ 31) : nI j ≤ (15 : Int32) ↔ j ≤ 15 := nI_leI (b := 15) h (by decide)
theorem ltL_15 {j : Nat} (h : j < 2 ^ 31) : (15 : Int32) < nI j ↔ 15 < j := nI_ltI (a := 15) (by decide) h
theorem gtL_15 {j : Nat} (h : j < 2 ^ 31) : nI j < (15 : Int32) ↔ j < 15 := nI_ltI (b := 15) h (by decide)
theorem eqL_15 {j : Nat} (h : j < 2 ^ 31) : nI j = (15 : Int32) ↔ j = 15 := nI_eq (b := 15) h (by decide)
theorem adL_15 {j : Nat} : nI j + (15 : Int32) = nI (j + 15) := nI_add j 15
theorem muL_15 {j : Nat} : (15 : Int32) * nI j = nI (15 * j) := nI_mul 15 j
theorem suL_15 {j : Nat} (h : 15 ≤ j) : nI j - (15 : Int32) = nI (j - 15) := nI_sub (b := 15) h
theorem slL_15 {j : Nat} (h : j ≤ 15) : (15 : Int32) - nI j = nI (15 - j) := nI_sub (a := 15) h
theorem alL_15 {j : Nat} : (15 : Int32) + nI j = nI (15 + j) := nI_add 15 j
theorem tnL_15 : (15 : Int32).toNatClampNeg = 15 := by decide
theorem leL_16 {j : Nat} (h : j < 2 ^ 31) : (16 : Int32) ≤ nI j ↔ 16 ≤ j := nI_leI (a := 16) (by decide) h
theorem geL_16 {j : Nat} (h : j < 2 ^ 31) : nI j ≤ (16 : Int32) ↔ j ≤ 16 := nI_leI (b := 16) h (by decide)
theorem ltL_16 {j : Nat} (h : j < 2 ^ 31) : (16 : Int32) < nI j ↔ 16 < j := nI_ltI (a := 16) (by decide) h
theorem gtL_16 {j : Nat} (h : j < 2 ^ 31) : nI j < (16 : Int32) ↔ j < 16 := nI_ltI (b := 16) h (by decide)
theorem eqL_16 {j : Nat} (h : j < 2 ^ 31) : nI j = (16 : Int32) ↔ j = 16 := nI_eq (b := 16) h (by decide)
theorem adL_16 {j : Nat} : nI j + (16 : Int32) = nI (j + 16) := nI_add j 16
theorem muL_16 {j : Nat} : (16 : Int32) * nI j = nI (16 * j) := nI_mul 16 j
theorem suL_16 {j : Nat} (h : 16 ≤ j) : nI j - (16 : Int32) = nI (j - 16) := nI_sub (b := 16) h
theorem slL_16 {j : Nat} (h : j ≤ 16) : (16 : Int32) - nI j = nI (16 - j) := nI_sub (a := 16) h
theorem alL_16 {j : Nat} : (16 : Int32) + nI j = nI (16 + j) := nI_add 16 j
theorem tnL_16 : (16 : Int32).toNatClampNeg = 16 := by decide
theorem leL_17 {j : Nat} (h : j < 2 ^ 31) : (17 : Int32) ≤ nI j ↔ 17 ≤ j := nI_leI (a := 17) (by decide) h
theorem geL_17 {j : Nat} (h : j < 2 ^ 31) : nI j ≤ (17 : Int32) ↔ j ≤ 17 := nI_leI (b := 17) h (by decide)
theorem ltL_17 {j : Nat} (h : j < 2 ^ 31) : (17 : Int32) < nI j ↔ 17 < j := nI_ltI (a := 17) (by decide) h
theorem gtL_17 {j : Nat} (h : j < 2 ^ 31) : nI j < (17 : Int32) ↔ j < 17 := nI_ltI (b := 17) h (by decide)
theorem eqL_17 {j : Nat} (h : j < 2 ^ 31) : nI j = (17 : Int32) ↔ j = 17 := nI_eq (b := 17) h (by decide)
theorem adL_17 {j : Nat} : nI j + (17 : Int32) = nI (j + 17) := nI_add j 17
theorem muL_17 {j : Nat} : (17 : Int32) * nI j = nI (17 * j) := nI_mul 17 j
theorem suL_17 {j : Nat} (h : 17 ≤ j) : nI j - (17 : Int32) = nI (j - 17) := nI_sub (b := 17) h
theorem slL_17 {j : Nat} (h : j ≤ 17) : (17 : Int32) - nI j = nI (17 - j) := nI_sub (a := 17) h
theorem alL_17 {j : Nat} : (17 : Int32) + nI j = nI (17 + j) := nI_add 17 j
theorem tnL_17 : (17 : Int32).toNatClampNeg = 17 := by decide
theorem leL_21 {j : Nat} (h : j < 2 ^ 31) : (21 : Int32) ≤ nI j ↔ 21 ≤ j := nI_leI (a := 21) (by decide) h
theorem geL_21 {j : Nat} (h : j < 2 ^ 31) : nI j ≤ (21 : Int32) ↔ j ≤ 21 := nI_leI (b := 21) h (by decide)
theorem ltL_21 {j : Nat} (h : j < 2 ^ 31) : (21 : Int32) < nI j ↔ 21 < j := nI_ltI (a := 21) (by decide) h
theorem gtL_21 {j : Nat} (h : j < 2 ^ 31) : nI j < (21 : Int32) ↔ j < 21 := nI_ltI (b := 21) h (by decide)
theorem eqL_21 {j : Nat} (h : j < 2 ^ 31) : nI j = (21 : Int32) ↔ j = 21 := nI_eq (b := 21) h (by decide)
theorem adL_21 {j : Nat} : nI j + (21 : Int32) = nI (j + 21) := nI_add j 21
theorem muL_21 {j : Nat} : (21 : Int32) * nI j = nI (21 * j) := nI_mul 21 j
theorem suL_21 {j : Nat} (h : 21 ≤ j) : nI j - (21 : Int32) = nI (j - 21) := nI_sub (b := 21) h
theorem slL_21 {j : Nat} (h : j ≤ 21) : (21 : Int32) - nI j = nI (21 - j) := nI_sub (a := 21) h
theorem alL_21 {j : Nat} : (21 : Int32) + nI j = nI (21 + j) := nI_add 21 j
theorem tnL_21 : (21 : Int32).toNatClampNeg = 21 := by decide
theorem leL_24 {j : Nat} (h : j < 2 ^ 31) : (24 : Int32) ≤ nI j ↔ 24 ≤ j := nI_leI (a := 24) (by decide) h
theorem geL_24 {j : Nat} (h : j < 2 ^ 31) : nI j ≤ (24 : Int32) ↔ j ≤ 24 := nI_leI (b := 24) h (by decide)
theorem ltL_24 {j : Nat} (h : j < 2 ^ 31) : (24 : Int32) < nI j ↔ 24 < j := nI_ltI (a := 24) (by decide) h
theorem gtL_24 {j : Nat} (h : j < 2 ^ 31) : nI j < (24 : Int32) ↔ j < 24 := nI_ltI (b := 24) h (by decide)
theorem eqL_24 {j : Nat} (h : j < 2 ^ 31) : nI j = (24 : Int32) ↔ j = 24 := nI_eq (b := 24) h (by decide)
theorem adL_24 {j : Nat} : nI j + (24 : Int32) = nI (j + 24) := nI_add j 24
theorem muL_24 {j : Nat} : (24 : Int32) * nI j = nI (24 * j) := nI_mul 24 j
theorem suL_24 {j : Nat} (h : 24 ≤ j) : nI j - (24 : Int32) = nI (j - 24) := nI_sub (b := 24) h
theorem slL_24 {j : Nat} (h : j ≤ 24) : (24 : Int32) - nI j = nI (24 - j) := nI_sub (a := 24) h
theorem alL_24 {j : Nat} : (24 : Int32) + nI j = nI (24 + j) := nI_add 24 j
theorem tnL_24 : (24 : Int32).toNatClampNeg = 24 := by decide
theorem leL_25 {j : Nat} (h : j < 2 ^ 31) : (25 : Int32) ≤ nI j ↔ 25 ≤ j := nI_leI (a := 25) (by decide) h
theorem geL_25 {j : Nat} (h : j < 2 ^ 31) : nI j ≤ (25 : Int32) ↔ j ≤ 25 := nI_leI (b := 25) h (by decide)
theorem ltL_25 {j : Nat} (h : j < 2 ^ 31) : (25 : Int32) < nI j ↔ 25 < j := nI_ltI (a := 25) (by decide) h
theorem gtL_25 {j : Nat} (h : j < 2 ^ 31) : nI j < (25 : Int32) ↔ j < 25 := nI_ltI (b := 25) h (by decide)
theorem eqL_25 {j : Nat} (h : j < 2 ^ 31) : nI j = (25 : Int32) ↔ j = 25 := nI_eq (b := 25) h (by decide)
theorem adL_25 {j : Nat} : nI j + (25 : Int32) = nI (j + 25) := nI_add j 25
theorem muL_25 {j : Nat} : (25 : Int32) * nI j = nI (25 * j) := nI_mul 25 j
theorem suL_25 {j : Nat} (h : 25 ≤ j) : nI j - (25 : Int32) = nI (j - 25) := nI_sub (b := 25) h
theorem slL_25 {j : Nat} (h : j ≤ 25) : (25 : Int32) - nI j = nI (25 - j) := nI_sub (a := 25) h
theorem alL_25 {j : Nat} : (25 : Int32) + nI j = nI (25 + j) := nI_add 25 j
theorem tnL_25 : (25 : Int32).toNatClampNeg = 25 := by decide
theorem leL_26 {j : Nat} (h : j < 2 ^ 31) : (26 : Int32) ≤ nI j ↔ 26 ≤ j := nI_leI (a := 26) (by decide) h
theorem geL_26 {j : Nat} (h : j < 2 ^ 31) : nI j ≤ (26 : Int32) ↔ j ≤ 26 := nI_leI (b := 26) h (by decide)
theorem ltL_26 {j : Nat} (h : j < 2 ^ 31) : (26 : Int32) < nI j ↔ 26 < j := nI_ltI (a := 26) (by decide) h
theorem gtL_26 {j : Nat} (h : j < 2 ^ 31) : nI j < (26 : Int32) ↔ j < 26 := nI_ltI (b := 26) h (by decide)
theorem eqL_26 {j : Nat} (h : j < 2 ^ 31) : nI j = (26 : Int32) ↔ j = 26 := nI_eq (b := 26) h (by decide)
theorem adL_26 {j : Nat} : nI j + (26 : Int32) = nI (j + 26) := nI_add j 26
theorem muL_26 {j : Nat} : (26 : Int32) * nI j = nI (26 * j) := nI_mul 26 j
theorem suL_26 {j : Nat} (h : 26 ≤ j) : nI j - (26 : Int32) = nI (j - 26) := nI_sub (b := 26) h
theorem slL_26 {j : Nat} (h : j ≤ 26) : (26 : Int32) - nI j = nI (26 - j) := nI_sub (a := 26) h
theorem alL_26 {j : Nat} : (26 : Int32) + nI j = nI (26 + j) := nI_add 26 j
theorem tnL_26 : (26 : Int32).toNatClampNeg = 26 := by decide
theorem leL_27 {j : Nat} (h : j < 2 ^ 31) : (27 : Int32) ≤ nI j ↔ 27 ≤ j := nI_leI (a := 27) (by decide) h
theorem geL_27 {j : Nat} (h : j < 2 ^ 31) : nI j ≤ (27 : Int32) ↔ j ≤ 27 := nI_leI (b := 27) h (by decide)
theorem ltL_27 {j : Nat} (h : j < 2 ^ 31) : (27 : Int32) < nI j ↔ 27 < j := nI_ltI (a := 27) (by decide) h
theorem gtL_27 {j : Nat} (h : j < 2 ^ 31) : nI j < (27 : Int32) ↔ j < 27 := nI_ltI (b := 27) h (by decide)
theorem eqL_27 {j : Nat} (h : j < 2 ^ 31) : nI j = (27 : Int32) ↔ j = 27 := nI_eq (b := 27) h (by decide)
theorem adL_27 {j : Nat} : nI j + (27 : Int32) = nI (j + 27) := nI_add j 27
theorem muL_27 {j : Nat} : (27 : Int32) * nI j = nI (27 * j) := nI_mul 27 j
theorem suL_27 {j : Nat} (h : 27 ≤ j) : nI j - (27 : Int32) = nI (j - 27) := nI_sub (b := 27) h
theorem slL_27 {j : Nat} (h : j ≤ 27) : (27 : Int32) - nI j = nI (27 - j) := nI_sub (a := 27) h
theorem alL_27 {j : Nat} : (27 : Int32) + nI j = nI (27 + j) := nI_add 27 j
theorem tnL_27 : (27 : Int32).toNatClampNeg = 27 := by decide
theorem leL_28 {j : Nat} (h : j < 2 ^ 31) : (28 : Int32) ≤ nI j ↔ 28 ≤ j := nI_leI (a := 28) (by decide) h
theorem geL_28 {j : Nat} (h : j < 2 ^ 31) : nI j ≤ (28 : Int32) ↔ j ≤ 28 := nI_leI (b := 28) h (by decide)
theorem ltL_28 {j : Nat} (h : j < 2 ^ 31) : (28 : Int32) < nI j ↔ 28 < j := nI_ltI (a := 28) (by decide) h
theorem gtL_28 {j : Nat} (h : j < 2 ^ 31) : nI j < (28 : Int32) ↔ j < 28 := nI_ltI (b := 28) h (by decide)
theorem eqL_28 {j : Nat} (h : j < 2 ^ 31) : nI j = (28 : Int32) ↔ j = 28 := nI_eq (b := 28) h (by decide)
theorem adL_28 {j : Nat} : nI j + (28 : Int32) = nI (j + 28) := nI_add j 28
theorem muL_28 {j : Nat} : (28 : Int32) * nI j = nI (28 * j) := nI_mul 28 j
theorem suL_28 {j : Nat} (h : 28 ≤ j) : nI j - (28 : Int32) = nI (j - 28) := nI_sub (b := 28) h
theorem slL_28 {j : Nat} (h : j ≤ 28) : (28 : Int32) - nI j = nI (28 - j) := nI_sub (a := 28) h
theorem alL_28 {j : Nat} : (28 : Int32) + nI j = nI (28 + j) := nI_add 28 j
theorem tnL_28 : (28 : Int32).toNatClampNeg = 28 := by decide
theorem leL_48 {j : Nat} (h : j < 2 ^ 31) : (48 : Int32) ≤ nI j ↔ 48 ≤ j := nI_leI (a := 48) (by decide) h
theorem geL_48 {j : Nat} (h : j < 2 ^ 31) : nI j ≤ (48 : Int32) ↔ j ≤ 48 := nI_leI (b := 48) h (by decide)
theorem ltL_48 {j : Nat} (h : j < 2 ^ 31) : (48 : Int32) < nI j ↔ 48 < j := nI_ltI (a := 48) (by decide) h
theorem gtL_48 {j : Nat} (h : j < 2 ^ 31) : nI j < (48 : Int32) ↔ j < 48 := nI_ltI (b := 48) h (by decide)
theorem eqL_48 {j : Nat} (h : j < 2 ^ 31) : nI j = (48 : Int32) ↔ j = 48 := nI_eq (b := 48) h (by decide)
theorem adL_48 {j : Nat} : nI j + (48 : Int32) = nI (j + 48) := nI_add j 48
theorem muL_48 {j : Nat} : (48 : Int32) * nI j = nI (48 * j) := nI_mul 48 j
theorem suL_48 {j : Nat} (h : 48 ≤ j) : nI j - (48 : Int32) = nI (j - 48) := nI_sub (b := 48) h
theorem slL_48 {j : Nat} (h : j ≤ 48) : (48 : Int32) - nI j = nI (48 - j) := nI_sub (a := 48) h
theorem alL_48 {j : Nat} : (48 : Int32) + nI j = nI (48 + j) := nI_add 48 j
theorem tnL_48 : (48 : Int32).toNatClampNeg = 48 := by decide
theorem leL_49 {j : Nat} (h : j < 2 ^ 31) : (49 : Int32) ≤ nI j ↔ 49 ≤ j := nI_leI (a := 49) (by decide) h
theorem geL_49 {j : Nat} (h : j < 2 ^ 31) : nI j ≤ (49 : Int32) ↔ j ≤ 49 := nI_leI (b := 49) h (by decide)
theorem ltL_49 {j : Nat} (h : j < 2 ^ 31) : (49 : Int32) < nI j ↔ 49 < j := nI_ltI (a := 49) (by decide) h
theorem gtL_49 {j : Nat} (h : j < 2 ^ 31) : nI j < (49 : Int32) ↔ j < 49 := nI_ltI (b := 49) h (by decide)
theorem eqL_49 {j : Nat} (h : j < 2 ^ 31) : nI j = (49 : Int32) ↔ j = 49 := nI_eq (b := 49) h (by decide)
theorem adL_49 {j : Nat} : nI j + (49 : Int32) = nI (j + 49) := nI_add j 49
theorem muL_49 {j : Nat} : (49 : Int32) * nI j = nI (49 * j) := nI_mul 49 j
theorem suL_49 {j : Nat} (h : 49 ≤ j) : nI j - (49 : Int32) = nI (j - 49) := nI_sub (b := 49) h
theorem slL_49 {j : Nat} (h : j ≤ 49) : (49 : Int32) - nI j = nI (49 - j) := nI_sub (a := 49) h
theorem alL_49 {j : Nat} : (49 : Int32) + nI j = nI (49 + j) := nI_add 49 j
theorem tnL_49 : (49 : Int32).toNatClampNeg = 49 := by decide
theorem leL_63 {j : Nat} (h : j < 2 ^ 31) : (63 : Int32) ≤ nI j ↔ 63 ≤ j := nI_leI (a := 63) (by decide) h
theorem geL_63 {j : Nat} (h : j < 2 ^ 31) : nI j ≤ (63 : Int32) ↔ j ≤ 63 := nI_leI (b := 63) h (by decide)
theorem ltL_63 {j : Nat} (h : j < 2 ^ 31) : (63 : Int32) < nI j ↔ 63 < j := nI_ltI (a := 63) (by decide) h
theorem gtL_63 {j : Nat} (h : j < 2 ^ 31) : nI j < (63 : Int32) ↔ j < 63 := nI_ltI (b := 63) h (by decide)
theorem eqL_63 {j : Nat} (h : j < 2 ^ 31) : nI j = (63 : Int32) ↔ j = 63 := nI_eq (b := 63) h (by decide)
theorem adL_63 {j : Nat} : nI j + (63 : Int32) = nI (j + 63) := nI_add j 63
theorem muL_63 {j : Nat} : (63 : Int32) * nI j = nI (63 * j) := nI_mul 63 j
theorem suL_63 {j : Nat} (h : 63 ≤ j) : nI j - (63 : Int32) = nI (j - 63) := nI_sub (b := 63) h
theorem slL_63 {j : Nat} (h : j ≤ 63) : (63 : Int32) - nI j = nI (63 - j) := nI_sub (a := 63) h
theorem alL_63 {j : Nat} : (63 : Int32) + nI j = nI (63 + j) := nI_add 63 j
theorem tnL_63 : (63 : Int32).toNatClampNeg = 63 := by decide
theorem leL_77 {j : Nat} (h : j < 2 ^ 31) : (77 : Int32) ≤ nI j ↔ 77 ≤ j := nI_leI (a := 77) (by decide) h
theorem geL_77 {j : Nat} (h : j < 2 ^ 31) : nI j ≤ (77 : Int32) ↔ j ≤ 77 := nI_leI (b := 77) h (by decide)
theorem ltL_77 {j : Nat} (h : j < 2 ^ 31) : (77 : Int32) < nI j ↔ 77 < j := nI_ltI (a := 77) (by decide) h
theorem gtL_77 {j : Nat} (h : j < 2 ^ 31) : nI j < (77 : Int32) ↔ j < 77 := nI_ltI (b := 77) h (by decide)
theorem eqL_77 {j : Nat} (h : j < 2 ^ 31) : nI j = (77 : Int32) ↔ j = 77 := nI_eq (b := 77) h (by decide)
theorem adL_77 {j : Nat} : nI j + (77 : Int32) = nI (j + 77) := nI_add j 77
theorem muL_77 {j : Nat} : (77 : Int32) * nI j = nI (77 * j) := nI_mul 77 j
theorem suL_77 {j : Nat} (h : 77 ≤ j) : nI j - (77 : Int32) = nI (j - 77) := nI_sub (b := 77) h
theorem slL_77 {j : Nat} (h : j ≤ 77) : (77 : Int32) - nI j = nI (77 - j) := nI_sub (a := 77) h
theorem alL_77 {j : Nat} : (77 : Int32) + nI j = nI (77 + j) := nI_add 77 j
theorem tnL_77 : (77 : Int32).toNatClampNeg = 77 := by decide
theorem leL_99 {j : Nat} (h : j < 2 ^ 31) : (99 : Int32) ≤ nI j ↔ 99 ≤ j := nI_leI (a := 99) (by decide) h
theorem geL_99 {j : Nat} (h : j < 2 ^ 31) : nI j ≤ (99 : Int32) ↔ j ≤ 99 := nI_leI (b := 99) h (by decide)
theorem ltL_99 {j : Nat} (h : j < 2 ^ 31) : (99 : Int32) < nI j ↔ 99 < j := nI_ltI (a := 99) (by decide) h
theorem gtL_99 {j : Nat} (h : j < 2 ^ 31) : nI j < (99 : Int32) ↔ j < 99 := nI_ltI (b := 99) h (by decide)
theorem eqL_99 {j : Nat} (h : j < 2 ^ 31) : nI j = (99 : Int32) ↔ j = 99 := nI_eq (b := 99) h (by decide)
theorem adL_99 {j : Nat} : nI j + (99 : Int32) = nI (j + 99) := nI_add j 99
theorem muL_99 {j : Nat} : (99 : Int32) * nI j = nI (99 * j) := nI_mul 99 j
theorem suL_99 {j : Nat} (h : 99 ≤ j) : nI j - (99 : Int32) = nI (j - 99) := nI_sub (b := 99) h
theorem slL_99 {j : Nat} (h : j ≤ 99) : (99 : Int32) - nI j = nI (99 - j) := nI_sub (a := 99) h
theorem alL_99 {j : Nat} : (99 : Int32) + nI j = nI (99 + j) := nI_add 99 j
theorem tnL_99 : (99 : Int32).toNatClampNeg = 99 := by decide
theorem leL_100 {j : Nat} (h : j < 2 ^ 31) : (100 : Int32) ≤ nI j ↔ 100 ≤ j := nI_leI (a := 100) (by decide) h
theorem geL_100 {j : Nat} (h : j < 2 ^ 31) : nI j ≤ (100 : Int32) ↔ j ≤ 100 := nI_leI (b := 100) h (by decide)
theorem ltL_100 {j : Nat} (h : j < 2 ^ 31) : (100 : Int32) < nI j ↔ 100 < j := nI_ltI (a := 100) (by decide) h
theorem gtL_100 {j : Nat} (h : j < 2 ^ 31) : nI j < (100 : Int32) ↔ j < 100 := nI_ltI (b := 100) h (by decide)
theorem eqL_100 {j : Nat} (h : j < 2 ^ 31) : nI j = (100 : Int32) ↔ j = 100 := nI_eq (b := 100) h (by decide)
theorem adL_100 {j : Nat} : nI j + (100 : Int32) = nI (j + 100) := nI_add j 100
theorem muL_100 {j : Nat} : (100 : Int32) * nI j = nI (100 * j) := nI_mul 100 j
theorem suL_100 {j : Nat} (h : 100 ≤ j) : nI j - (100 : Int32) = nI (j - 100) := nI_sub (b := 100) h
theorem slL_100 {j : Nat} (h : j ≤ 100) : (100 : Int32) - nI j = nI (100 - j) := nI_sub (a := 100) h
theorem alL_100 {j : Nat} : (100 : Int32) + nI j = nI (100 + j) := nI_add 100 j
theorem tnL_100 : (100 : Int32).toNatClampNeg = 100 := by decide
theorem leL_119 {j : Nat} (h : j < 2 ^ 31) : (119 : Int32) ≤ nI j ↔ 119 ≤ j := nI_leI (a := 119) (by decide) h
theorem geL_119 {j : Nat} (h : j < 2 ^ 31) : nI j ≤ (119 : Int32) ↔ j ≤ 119 := nI_leI (b := 119) h (by decide)
theorem ltL_119 {j : Nat} (h : j < 2 ^ 31) : (119 : Int32) < nI j ↔ 119 < j := nI_ltI (a := 119) (by decide) h
theorem gtL_119 {j : Nat} (h : j < 2 ^ 31) : nI j < (119 : Int32) ↔ j < 119 := nI_ltI (b := 119) h (by decide)
theorem eqL_119 {j : Nat} (h : j < 2 ^ 31) : nI j = (119 : Int32) ↔ j = 119 := nI_eq (b := 119) h (by decide)
theorem adL_119 {j : Nat} : nI j + (119 : Int32) = nI (j + 119) := nI_add j 119
theorem muL_119 {j : Nat} : (119 : Int32) * nI j = nI (119 * j) := nI_mul 119 j
theorem suL_119 {j : Nat} (h : 119 ≤ j) : nI j - (119 : Int32) = nI (j - 119) := nI_sub (b := 119) h
theorem slL_119 {j : Nat} (h : j ≤ 119) : (119 : Int32) - nI j = nI (119 - j) := nI_sub (a := 119) h
theorem alL_119 {j : Nat} : (119 : Int32) + nI j = nI (119 + j) := nI_add 119 j
theorem tnL_119 : (119 : Int32).toNatClampNeg = 119 := by decide
theorem leL_120 {j : Nat} (h : j < 2 ^ 31) : (120 : Int32) ≤ nI j ↔ 120 ≤ j := nI_leI (a := 120) (by decide) h
theorem geL_120 {j : Nat} (h : j < 2 ^ 31) : nI j ≤ (120 : Int32) ↔ j ≤ 120 := nI_leI (b := 120) h (by decide)
theorem ltL_120 {j : Nat} (h : j < 2 ^ 31) : (120 : Int32) < nI j ↔ 120 < j := nI_ltI (a := 120) (by decide) h
theorem gtL_120 {j : Nat} (h : j < 2 ^ 31) : nI j < (120 : Int32) ↔ j < 120 := nI_ltI (b := 120) h (by decide)
theorem eqL_120 {j : Nat} (h : j < 2 ^ 31) : nI j = (120 : Int32) ↔ j = 120 := nI_eq (b := 120) h (by decide)
theorem adL_120 {j : Nat} : nI j + (120 : Int32) = nI (j + 120) := nI_add j 120
theorem muL_120 {j : Nat} : (120 : Int32) * nI j = nI (120 * j) := nI_mul 120 j
theorem suL_120 {j : Nat} (h : 120 ≤ j) : nI j - (120 : Int32) = nI (j - 120) := nI_sub (b := 120) h
theorem slL_120 {j : Nat} (h : j ≤ 120) : (120 : Int32) - nI j = nI (120 - j) := nI_sub (a := 120) h
theorem alL_120 {j : Nat} : (120 : Int32) + nI j = nI (120 + j) := nI_add 120 j
theorem tnL_120 : (120 : Int32).toNatClampNeg = 120 := by decide
theorem leL_200 {j : Nat} (h : j < 2 ^ 31) : (200 : Int32) ≤ nI j ↔ 200 ≤ j := nI_leI (a := 200) (by decide) h
theorem geL_200 {j : Nat} (h : j < 2 ^ 31) : nI j ≤ (200 : Int32) ↔ j ≤ 200 := nI_leI (b := 200) h (by decide)
theorem ltL_200 {j : Nat} (h : j < 2 ^ 31) : (200 : Int32) < nI j ↔ 200 < j := nI_ltI (a := 200) (by decide) h
theorem gtL_200 {j : Nat} (h : j < 2 ^ 31) : nI j < (200 : Int32) ↔ j < 200 := nI_ltI (b := 200) h (by decide)
theorem eqL_200 {j : Nat} (h : j < 2 ^ 31) : nI j = (200 : Int32) ↔ j = 200 := nI_eq (b := 200) h (by decide)
theorem adL_200 {j : Nat} : nI j + (200 : Int32) = nI (j + 200) := nI_add j 200
theorem muL_200 {j : Nat} : (200 : Int32) * nI j = nI (200 * j) := nI_mul 200 j
theorem suL_200 {j : Nat} (h : 200 ≤ j) : nI j - (200 : Int32) = nI (j - 200) := nI_sub (b := 200) h
theorem slL_200 {j : Nat} (h : j ≤ 200) : (200 : Int32) - nI j = nI (200 - j) := nI_sub (a := 200) h
theorem alL_200 {j : Nat} : (200 : Int32) + nI j = nI (200 + j) := nI_add 200 j
theorem tnL_200 : (200 : Int32).toNatClampNeg = 200 := by decide
theorem leL_217 {j : Nat} (h : j < 2 ^ 31) : (217 : Int32) ≤ nI j ↔ 217 ≤ j := nI_leI (a := 217) (by decide) h
theorem geL_217 {j : Nat} (h : j < 2 ^ 31) : nI j ≤ (217 : Int32) ↔ j ≤ 217 := nI_leI (b := 217) h (by decide)
theorem ltL_217 {j : Nat} (h : j < 2 ^ 31) : (217 : Int32) < nI j ↔ 217 < j := nI_ltI (a := 217) (by decide) h
theorem gtL_217 {j : Nat} (h : j < 2 ^ 31) : nI j < (217 : Int32) ↔ j < 217 := nI_ltI (b := 217) h (by decide)
theorem eqL_217 {j : Nat} (h : j < 2 ^ 31) : nI j = (217 : Int32) ↔ j = 217 := nI_eq (b := 217) h (by decide)
theorem adL_217 {j : Nat} : nI j + (217 : Int32) = nI (j + 217) := nI_add j 217
theorem muL_217 {j : Nat} : (217 : Int32) * nI j = nI (217 * j) := nI_mul 217 j
theorem suL_217 {j : Nat} (h : 217 ≤ j) : nI j - (217 : Int32) = nI (j - 217) := nI_sub (b := 217) h
theorem slL_217 {j : Nat} (h : j ≤ 217) : (217 : Int32) - nI j = nI (217 - j) := nI_sub (a := 217) h
theorem alL_217 {j : Nat} : (217 : Int32) + nI j = nI (217 + j) := nI_add 217 j
theorem tnL_217 : (217 : Int32).toNatClampNeg = 217 := by decide
theorem leL_255 {j : Nat} (h : j < 2 ^ 31) : (255 : Int32) ≤ nI j ↔ 255 ≤ j := nI_leI (a := 255) (by decide) h
theorem geL_255 {j : Nat} (h : j < 2 ^ 31) : nI j ≤ (255 : Int32) ↔ j ≤ 255 := nI_leI (b := 255) h (by decide)
theorem ltL_255 {j : Nat} (h : j < 2 ^ 31) : (255 : Int32) < nI j ↔ 255 < j := nI_ltI (a := 255) (by decide) h
theorem gtL_255 {j : Nat} (h : j < 2 ^ 31) : nI j < (255 : Int32) ↔ j < 255 := nI_ltI (b := 255) h (by decide)
theorem eqL_255 {j : Nat} (h : j < 2 ^ 31) : nI j = (255 : Int32) ↔ j = 255 := nI_eq (b := 255) h (by decide)
theorem adL_255 {j : Nat} : nI j + (255 : Int32) = nI (j + 255) := nI_add j 255
theorem muL_255 {j : Nat} : (255 : Int32) * nI j = nI (255 * j) := nI_mul 255 j
theorem suL_255 {j : Nat} (h : 255 ≤ j) : nI j - (255 : Int32) = nI (j - 255) := nI_sub (b := 255) h
theorem slL_255 {j : Nat} (h : j ≤ 255) : (255 : Int32) - nI j = nI (255 - j) := nI_sub (a := 255) h
theorem alL_255 {j : Nat} : (255 : Int32) + nI j = nI (255 + j) := nI_add 255 j
theorem tnL_255 : (255 : Int32).toNatClampNeg = 255 := by decide
theorem e10 : ((1 : Int32) = 0) = False := by decide
theorem e01 : ((0 : Int32) = 1) = False := by decide
theorem em0 : ((-1 : Int32) = 0) = False := by decide
theorem em1 : ((-1 : Int32) = 1) = False := by decide
theorem e21 : ((2 : Int32) = 1) = False := by decide
theorem ckL_0 {α : Type} {x : Option α} : chk (inB (0 : Int32) 217) x = x := chk_t (by decide)
theorem ckL_1 {α : Type} {x : Option α} : chk (inB (1 : Int32) 217) x = x := chk_t (by decide)
theorem ckL_2 {α : Type} {x : Option α} : chk (inB (2 : Int32) 217) x = x := chk_t (by decide)
theorem ckL_3 {α : Type} {x : Option α} : chk (inB (3 : Int32) 217) x = x := chk_t (by decide)
theorem ckL_4 {α : Type} {x : Option α} : chk (inB (4 : Int32) 217) x = x := chk_t (by decide)
theorem ckL_5 {α : Type} {x : Option α} : chk (inB (5 : Int32) 217) x = x := chk_t (by decide)
theorem ckL_6 {α : Type} {x : Option α} : chk (inB (6 : Int32) 217) x = x := chk_t (by decide)
theorem ckL_7 {α : Type} {x : Option α} : chk (inB (7 : Int32) 217) x = x := chk_t (by decide)
theorem ckL_8 {α : Type} {x : Option α} : chk (inB (8 : Int32) 217) x = x := chk_t (by decide)
theorem ckL_9 {α : Type} {x : Option α} : chk (inB (9 : Int32) 217) x = x := chk_t (by decide)
theorem ckL_10 {α : Type} {x : Option α} : chk (inB (10 : Int32) 217) x = x := chk_t (by decide)
theorem ckL_11 {α : Type} {x : Option α} : chk (inB (11 : Int32) 217) x = x := chk_t (by decide)
theorem ckL_12 {α : Type} {x : Option α} : chk (inB (12 : Int32) 217) x = x := chk_t (by decide)
/-! tiles -/
def lo (t : Nat) : Nat := (lowT t).toNatClampNeg
def hi (t : Nat) : Nat := (highT t).toNatClampNeg
theorem tl_all : (List.range 28).all (fun t => decide (lowT t = nI (lo t) ∧ highT t = nI (hi t) ∧ lo t ≤ hi t ∧ hi t ≤ 6)) = true := by decide +kernel
theorem tl {t : Nat} (h : t < 28) : lowT t = nI (lo t) ∧ highT t = nI (hi t) ∧ lo t ≤ hi t ∧ hi t ≤ 6 := of_decide_eq_true (List.all_eq_true.mp tl_all t (List.mem_range.mpr h))
theorem f_isTile_n {t : Nat} (h : t < 28) : f_X5_isTile (nI t) = some 1 := by
  unfold f_X5_isTile
  simp (disch := omega) only [nI_leI, nI_ltI, nI_eq, nI_clamp, nI_add, nI_mul, nI_sub, nI_ne_m1, nI_ne_m1', chk_n, if_pos, if_neg, if_true, if_false, reduceCtorEq, Nat.add_zero, Nat.zero_add, not_true_eq_false, not_false_eq_true, Nat.not_lt_zero, Nat.zero_le, Option.bind_some, eq_self, e10, e01, em0, em1, e21, ckL_0, ckL_1, ckL_2, ckL_3, ckL_4, ckL_5, ckL_6, ckL_7, ckL_8, ckL_9, ckL_10, ckL_11, ckL_12, leL_0, geL_0, ltL_0, gtL_0, eqL_0, adL_0, muL_0, suL_0, slL_0, alL_0, tnL_0, leL_1, geL_1, ltL_1, gtL_1, eqL_1, adL_1, muL_1, suL_1, slL_1, alL_1, tnL_1, leL_2, geL_2, ltL_2, gtL_2, eqL_2, adL_2, muL_2, suL_2, slL_2, alL_2, tnL_2, leL_3, geL_3, ltL_3, gtL_3, eqL_3, adL_3, muL_3, suL_3, slL_3, alL_3, tnL_3, leL_4, geL_4, ltL_4, gtL_4, eqL_4, adL_4, muL_4, suL_4, slL_4, alL_4, tnL_4, leL_5, geL_5, ltL_5, gtL_5, eqL_5, adL_5, muL_5, suL_5, slL_5, alL_5, tnL_5, leL_6, geL_6, ltL_6, gtL_6, eqL_6, adL_6, muL_6, suL_6, slL_6, alL_6, tnL_6, leL_7, geL_7, ltL_7, gtL_7, eqL_7, adL_7, muL_7, suL_7, slL_7, alL_7, tnL_7, leL_8, geL_8, ltL_8, gtL_8, eqL_8, adL_8, muL_8, suL_8, slL_8, alL_8, tnL_8, leL_9, geL_9, ltL_9, gtL_9, eqL_9, adL_9, muL_9, suL_9, slL_9, alL_9, tnL_9, leL_10, geL_10, ltL_10, gtL_10, eqL_10, adL_10, muL_10, suL_10, slL_10, alL_10, tnL_10, leL_11, geL_11, ltL_11, gtL_11, eqL_11, adL_11, muL_11, suL_11, slL_11, alL_11, tnL_11, leL_12, geL_12, ltL_12, gtL_12, eqL_12, adL_12, muL_12, suL_12, slL_12, alL_12, tnL_12, leL_13, geL_13, ltL_13, gtL_13, eqL_13, adL_13, muL_13, suL_13, slL_13, alL_13, tnL_13, leL_14, geL_14, ltL_14, gtL_14, eqL_14, adL_14, muL_14, suL_14, slL_14, alL_14, tnL_14, leL_15, geL_15, ltL_15, gtL_15, eqL_15, adL_15, muL_15, suL_15, slL_15, alL_15, tnL_15, leL_16, geL_16, ltL_16, gtL_16, eqL_16, adL_16, muL_16, suL_16, slL_16, alL_16, tnL_16, leL_17, geL_17, ltL_17, gtL_17, eqL_17, adL_17, muL_17, suL_17, slL_17, alL_17, tnL_17, leL_21, geL_21, ltL_21, gtL_21, eqL_21, adL_21, muL_21, suL_21, slL_21, alL_21, tnL_21, leL_24, geL_24, ltL_24, gtL_24, eqL_24, adL_24, muL_24, suL_24, slL_24, alL_24, tnL_24, leL_25, geL_25, ltL_25, gtL_25, eqL_25, adL_25, muL_25, suL_25, slL_25, alL_25, tnL_25, leL_26, geL_26, ltL_26, gtL_26, eqL_26, adL_26, muL_26, suL_26, slL_26, alL_26, tnL_26, leL_27, geL_27, ltL_27, gtL_27, eqL_27, adL_27, muL_27, suL_27, slL_27, alL_27, tnL_27, leL_28, geL_28, ltL_28, gtL_28, eqL_28, adL_28, muL_28, suL_28, slL_28, alL_28, tnL_28, leL_48, geL_48, ltL_48, gtL_48, eqL_48, adL_48, muL_48, suL_48, slL_48, alL_48, tnL_48, leL_49, geL_49, ltL_49, gtL_49, eqL_49, adL_49, muL_49, suL_49, slL_49, alL_49, tnL_49, leL_63, geL_63, ltL_63, gtL_63, eqL_63, adL_63, muL_63, suL_63, slL_63, alL_63, tnL_63, leL_77, geL_77, ltL_77, gtL_77, eqL_77, adL_77, muL_77, suL_77, slL_77, alL_77, tnL_77, leL_99, geL_99, ltL_99, gtL_99, eqL_99, adL_99, muL_99, suL_99, slL_99, alL_99, tnL_99, leL_100, geL_100, ltL_100, gtL_100, eqL_100, adL_100, muL_100, suL_100, slL_100, alL_100, tnL_100, leL_119, geL_119, ltL_119, gtL_119, eqL_119, adL_119, muL_119, suL_119, slL_119, alL_119, tnL_119, leL_120, geL_120, ltL_120, gtL_120, eqL_120, adL_120, muL_120, suL_120, slL_120, alL_120, tnL_120, leL_200, geL_200, ltL_200, gtL_200, eqL_200, adL_200, muL_200, suL_200, slL_200, alL_200, tnL_200, leL_217, geL_217, ltL_217, gtL_217, eqL_217, adL_217, muL_217, suL_217, slL_217, alL_217, tnL_217, leL_255, geL_255, ltL_255, gtL_255, eqL_255, adL_255, muL_255, suL_255, slL_255, alL_255, tnL_255]
theorem f_lowOf_n {t : Nat} (h : t < 28) : f_X5_lowOf (nI t) = some (nI (lo t)) := by
  unfold f_X5_lowOf
  simp (disch := omega) only [nI_leI, nI_ltI, nI_eq, nI_clamp, nI_add, nI_mul, nI_sub, nI_ne_m1, nI_ne_m1', chk_n, if_pos, if_neg, if_true, if_false, reduceCtorEq, Nat.add_zero, Nat.zero_add, not_true_eq_false, not_false_eq_true, Nat.not_lt_zero, Nat.zero_le, Option.bind_some, eq_self, e10, e01, em0, em1, e21, ckL_0, ckL_1, ckL_2, ckL_3, ckL_4, ckL_5, ckL_6, ckL_7, ckL_8, ckL_9, ckL_10, ckL_11, ckL_12, leL_0, geL_0, ltL_0, gtL_0, eqL_0, adL_0, muL_0, suL_0, slL_0, alL_0, tnL_0, leL_1, geL_1, ltL_1, gtL_1, eqL_1, adL_1, muL_1, suL_1, slL_1, alL_1, tnL_1, leL_2, geL_2, ltL_2, gtL_2, eqL_2, adL_2, muL_2, suL_2, slL_2, alL_2, tnL_2, leL_3, geL_3, ltL_3, gtL_3, eqL_3, adL_3, muL_3, suL_3, slL_3, alL_3, tnL_3, leL_4, geL_4, ltL_4, gtL_4, eqL_4, adL_4, muL_4, suL_4, slL_4, alL_4, tnL_4, leL_5, geL_5, ltL_5, gtL_5, eqL_5, adL_5, muL_5, suL_5, slL_5, alL_5, tnL_5, leL_6, geL_6, ltL_6, gtL_6, eqL_6, adL_6, muL_6, suL_6, slL_6, alL_6, tnL_6, leL_7, geL_7, ltL_7, gtL_7, eqL_7, adL_7, muL_7, suL_7, slL_7, alL_7, tnL_7, leL_8, geL_8, ltL_8, gtL_8, eqL_8, adL_8, muL_8, suL_8, slL_8, alL_8, tnL_8, leL_9, geL_9, ltL_9, gtL_9, eqL_9, adL_9, muL_9, suL_9, slL_9, alL_9, tnL_9, leL_10, geL_10, ltL_10, gtL_10, eqL_10, adL_10, muL_10, suL_10, slL_10, alL_10, tnL_10, leL_11, geL_11, ltL_11, gtL_11, eqL_11, adL_11, muL_11, suL_11, slL_11, alL_11, tnL_11, leL_12, geL_12, ltL_12, gtL_12, eqL_12, adL_12, muL_12, suL_12, slL_12, alL_12, tnL_12, leL_13, geL_13, ltL_13, gtL_13, eqL_13, adL_13, muL_13, suL_13, slL_13, alL_13, tnL_13, leL_14, geL_14, ltL_14, gtL_14, eqL_14, adL_14, muL_14, suL_14, slL_14, alL_14, tnL_14, leL_15, geL_15, ltL_15, gtL_15, eqL_15, adL_15, muL_15, suL_15, slL_15, alL_15, tnL_15, leL_16, geL_16, ltL_16, gtL_16, eqL_16, adL_16, muL_16, suL_16, slL_16, alL_16, tnL_16, leL_17, geL_17, ltL_17, gtL_17, eqL_17, adL_17, muL_17, suL_17, slL_17, alL_17, tnL_17, leL_21, geL_21, ltL_21, gtL_21, eqL_21, adL_21, muL_21, suL_21, slL_21, alL_21, tnL_21, leL_24, geL_24, ltL_24, gtL_24, eqL_24, adL_24, muL_24, suL_24, slL_24, alL_24, tnL_24, leL_25, geL_25, ltL_25, gtL_25, eqL_25, adL_25, muL_25, suL_25, slL_25, alL_25, tnL_25, leL_26, geL_26, ltL_26, gtL_26, eqL_26, adL_26, muL_26, suL_26, slL_26, alL_26, tnL_26, leL_27, geL_27, ltL_27, gtL_27, eqL_27, adL_27, muL_27, suL_27, slL_27, alL_27, tnL_27, leL_28, geL_28, ltL_28, gtL_28, eqL_28, adL_28, muL_28, suL_28, slL_28, alL_28, tnL_28, leL_48, geL_48, ltL_48, gtL_48, eqL_48, adL_48, muL_48, suL_48, slL_48, alL_48, tnL_48, leL_49, geL_49, ltL_49, gtL_49, eqL_49, adL_49, muL_49, suL_49, slL_49, alL_49, tnL_49, leL_63, geL_63, ltL_63, gtL_63, eqL_63, adL_63, muL_63, suL_63, slL_63, alL_63, tnL_63, leL_77, geL_77, ltL_77, gtL_77, eqL_77, adL_77, muL_77, suL_77, slL_77, alL_77, tnL_77, leL_99, geL_99, ltL_99, gtL_99, eqL_99, adL_99, muL_99, suL_99, slL_99, alL_99, tnL_99, leL_100, geL_100, ltL_100, gtL_100, eqL_100, adL_100, muL_100, suL_100, slL_100, alL_100, tnL_100, leL_119, geL_119, ltL_119, gtL_119, eqL_119, adL_119, muL_119, suL_119, slL_119, alL_119, tnL_119, leL_120, geL_120, ltL_120, gtL_120, eqL_120, adL_120, muL_120, suL_120, slL_120, alL_120, tnL_120, leL_200, geL_200, ltL_200, gtL_200, eqL_200, adL_200, muL_200, suL_200, slL_200, alL_200, tnL_200, leL_217, geL_217, ltL_217, gtL_217, eqL_217, adL_217, muL_217, suL_217, slL_217, alL_217, tnL_217, leL_255, geL_255, ltL_255, gtL_255, eqL_255, adL_255, muL_255, suL_255, slL_255, alL_255, tnL_255, (tl h).1]
theorem f_highOf_n {t : Nat} (h : t < 28) : f_X5_highOf (nI t) = some (nI (hi t)) := by
  unfold f_X5_highOf
  simp (disch := omega) only [nI_leI, nI_ltI, nI_eq, nI_clamp, nI_add, nI_mul, nI_sub, nI_ne_m1, nI_ne_m1', chk_n, if_pos, if_neg, if_true, if_false, reduceCtorEq, Nat.add_zero, Nat.zero_add, not_true_eq_false, not_false_eq_true, Nat.not_lt_zero, Nat.zero_le, Option.bind_some, eq_self, e10, e01, em0, em1, e21, ckL_0, ckL_1, ckL_2, ckL_3, ckL_4, ckL_5, ckL_6, ckL_7, ckL_8, ckL_9, ckL_10, ckL_11, ckL_12, leL_0, geL_0, ltL_0, gtL_0, eqL_0, adL_0, muL_0, suL_0, slL_0, alL_0, tnL_0, leL_1, geL_1, ltL_1, gtL_1, eqL_1, adL_1, muL_1, suL_1, slL_1, alL_1, tnL_1, leL_2, geL_2, ltL_2, gtL_2, eqL_2, adL_2, muL_2, suL_2, slL_2, alL_2, tnL_2, leL_3, geL_3, ltL_3, gtL_3, eqL_3, adL_3, muL_3, suL_3, slL_3, alL_3, tnL_3, leL_4, geL_4, ltL_4, gtL_4, eqL_4, adL_4, muL_4, suL_4, slL_4, alL_4, tnL_4, leL_5, geL_5, ltL_5, gtL_5, eqL_5, adL_5, muL_5, suL_5, slL_5, alL_5, tnL_5, leL_6, geL_6, ltL_6, gtL_6, eqL_6, adL_6, muL_6, suL_6, slL_6, alL_6, tnL_6, leL_7, geL_7, ltL_7, gtL_7, eqL_7, adL_7, muL_7, suL_7, slL_7, alL_7, tnL_7, leL_8, geL_8, ltL_8, gtL_8, eqL_8, adL_8, muL_8, suL_8, slL_8, alL_8, tnL_8, leL_9, geL_9, ltL_9, gtL_9, eqL_9, adL_9, muL_9, suL_9, slL_9, alL_9, tnL_9, leL_10, geL_10, ltL_10, gtL_10, eqL_10, adL_10, muL_10, suL_10, slL_10, alL_10, tnL_10, leL_11, geL_11, ltL_11, gtL_11, eqL_11, adL_11, muL_11, suL_11, slL_11, alL_11, tnL_11, leL_12, geL_12, ltL_12, gtL_12, eqL_12, adL_12, muL_12, suL_12, slL_12, alL_12, tnL_12, leL_13, geL_13, ltL_13, gtL_13, eqL_13, adL_13, muL_13, suL_13, slL_13, alL_13, tnL_13, leL_14, geL_14, ltL_14, gtL_14, eqL_14, adL_14, muL_14, suL_14, slL_14, alL_14, tnL_14, leL_15, geL_15, ltL_15, gtL_15, eqL_15, adL_15, muL_15, suL_15, slL_15, alL_15, tnL_15, leL_16, geL_16, ltL_16, gtL_16, eqL_16, adL_16, muL_16, suL_16, slL_16, alL_16, tnL_16, leL_17, geL_17, ltL_17, gtL_17, eqL_17, adL_17, muL_17, suL_17, slL_17, alL_17, tnL_17, leL_21, geL_21, ltL_21, gtL_21, eqL_21, adL_21, muL_21, suL_21, slL_21, alL_21, tnL_21, leL_24, geL_24, ltL_24, gtL_24, eqL_24, adL_24, muL_24, suL_24, slL_24, alL_24, tnL_24, leL_25, geL_25, ltL_25, gtL_25, eqL_25, adL_25, muL_25, suL_25, slL_25, alL_25, tnL_25, leL_26, geL_26, ltL_26, gtL_26, eqL_26, adL_26, muL_26, suL_26, slL_26, alL_26, tnL_26, leL_27, geL_27, ltL_27, gtL_27, eqL_27, adL_27, muL_27, suL_27, slL_27, alL_27, tnL_27, leL_28, geL_28, ltL_28, gtL_28, eqL_28, adL_28, muL_28, suL_28, slL_28, alL_28, tnL_28, leL_48, geL_48, ltL_48, gtL_48, eqL_48, adL_48, muL_48, suL_48, slL_48, alL_48, tnL_48, leL_49, geL_49, ltL_49, gtL_49, eqL_49, adL_49, muL_49, suL_49, slL_49, alL_49, tnL_49, leL_63, geL_63, ltL_63, gtL_63, eqL_63, adL_63, muL_63, suL_63, slL_63, alL_63, tnL_63, leL_77, geL_77, ltL_77, gtL_77, eqL_77, adL_77, muL_77, suL_77, slL_77, alL_77, tnL_77, leL_99, geL_99, ltL_99, gtL_99, eqL_99, adL_99, muL_99, suL_99, slL_99, alL_99, tnL_99, leL_100, geL_100, ltL_100, gtL_100, eqL_100, adL_100, muL_100, suL_100, slL_100, alL_100, tnL_100, leL_119, geL_119, ltL_119, gtL_119, eqL_119, adL_119, muL_119, suL_119, slL_119, alL_119, tnL_119, leL_120, geL_120, ltL_120, gtL_120, eqL_120, adL_120, muL_120, suL_120, slL_120, alL_120, tnL_120, leL_200, geL_200, ltL_200, gtL_200, eqL_200, adL_200, muL_200, suL_200, slL_200, alL_200, tnL_200, leL_217, geL_217, ltL_217, gtL_217, eqL_217, adL_217, muL_217, suL_217, slL_217, alL_217, tnL_217, leL_255, geL_255, ltL_255, gtL_255, eqL_255, adL_255, muL_255, suL_255, slL_255, alL_255, tnL_255, (tl h).2.1]
theorem f_pipsOn_n {t : Nat} (h : t < 28) : f_X5_pipsOn (nI t) = some (nI (lo t + hi t)) := by
  unfold f_X5_pipsOn
  simp (disch := omega) only [nI_leI, nI_ltI, nI_eq, nI_clamp, nI_add, nI_mul, nI_sub, nI_ne_m1, nI_ne_m1', chk_n, if_pos, if_neg, if_true, if_false, reduceCtorEq, Nat.add_zero, Nat.zero_add, not_true_eq_false, not_false_eq_true, Nat.not_lt_zero, Nat.zero_le, Option.bind_some, eq_self, e10, e01, em0, em1, e21, ckL_0, ckL_1, ckL_2, ckL_3, ckL_4, ckL_5, ckL_6, ckL_7, ckL_8, ckL_9, ckL_10, ckL_11, ckL_12, leL_0, geL_0, ltL_0, gtL_0, eqL_0, adL_0, muL_0, suL_0, slL_0, alL_0, tnL_0, leL_1, geL_1, ltL_1, gtL_1, eqL_1, adL_1, muL_1, suL_1, slL_1, alL_1, tnL_1, leL_2, geL_2, ltL_2, gtL_2, eqL_2, adL_2, muL_2, suL_2, slL_2, alL_2, tnL_2, leL_3, geL_3, ltL_3, gtL_3, eqL_3, adL_3, muL_3, suL_3, slL_3, alL_3, tnL_3, leL_4, geL_4, ltL_4, gtL_4, eqL_4, adL_4, muL_4, suL_4, slL_4, alL_4, tnL_4, leL_5, geL_5, ltL_5, gtL_5, eqL_5, adL_5, muL_5, suL_5, slL_5, alL_5, tnL_5, leL_6, geL_6, ltL_6, gtL_6, eqL_6, adL_6, muL_6, suL_6, slL_6, alL_6, tnL_6, leL_7, geL_7, ltL_7, gtL_7, eqL_7, adL_7, muL_7, suL_7, slL_7, alL_7, tnL_7, leL_8, geL_8, ltL_8, gtL_8, eqL_8, adL_8, muL_8, suL_8, slL_8, alL_8, tnL_8, leL_9, geL_9, ltL_9, gtL_9, eqL_9, adL_9, muL_9, suL_9, slL_9, alL_9, tnL_9, leL_10, geL_10, ltL_10, gtL_10, eqL_10, adL_10, muL_10, suL_10, slL_10, alL_10, tnL_10, leL_11, geL_11, ltL_11, gtL_11, eqL_11, adL_11, muL_11, suL_11, slL_11, alL_11, tnL_11, leL_12, geL_12, ltL_12, gtL_12, eqL_12, adL_12, muL_12, suL_12, slL_12, alL_12, tnL_12, leL_13, geL_13, ltL_13, gtL_13, eqL_13, adL_13, muL_13, suL_13, slL_13, alL_13, tnL_13, leL_14, geL_14, ltL_14, gtL_14, eqL_14, adL_14, muL_14, suL_14, slL_14, alL_14, tnL_14, leL_15, geL_15, ltL_15, gtL_15, eqL_15, adL_15, muL_15, suL_15, slL_15, alL_15, tnL_15, leL_16, geL_16, ltL_16, gtL_16, eqL_16, adL_16, muL_16, suL_16, slL_16, alL_16, tnL_16, leL_17, geL_17, ltL_17, gtL_17, eqL_17, adL_17, muL_17, suL_17, slL_17, alL_17, tnL_17, leL_21, geL_21, ltL_21, gtL_21, eqL_21, adL_21, muL_21, suL_21, slL_21, alL_21, tnL_21, leL_24, geL_24, ltL_24, gtL_24, eqL_24, adL_24, muL_24, suL_24, slL_24, alL_24, tnL_24, leL_25, geL_25, ltL_25, gtL_25, eqL_25, adL_25, muL_25, suL_25, slL_25, alL_25, tnL_25, leL_26, geL_26, ltL_26, gtL_26, eqL_26, adL_26, muL_26, suL_26, slL_26, alL_26, tnL_26, leL_27, geL_27, ltL_27, gtL_27, eqL_27, adL_27, muL_27, suL_27, slL_27, alL_27, tnL_27, leL_28, geL_28, ltL_28, gtL_28, eqL_28, adL_28, muL_28, suL_28, slL_28, alL_28, tnL_28, leL_48, geL_48, ltL_48, gtL_48, eqL_48, adL_48, muL_48, suL_48, slL_48, alL_48, tnL_48, leL_49, geL_49, ltL_49, gtL_49, eqL_49, adL_49, muL_49, suL_49, slL_49, alL_49, tnL_49, leL_63, geL_63, ltL_63, gtL_63, eqL_63, adL_63, muL_63, suL_63, slL_63, alL_63, tnL_63, leL_77, geL_77, ltL_77, gtL_77, eqL_77, adL_77, muL_77, suL_77, slL_77, alL_77, tnL_77, leL_99, geL_99, ltL_99, gtL_99, eqL_99, adL_99, muL_99, suL_99, slL_99, alL_99, tnL_99, leL_100, geL_100, ltL_100, gtL_100, eqL_100, adL_100, muL_100, suL_100, slL_100, alL_100, tnL_100, leL_119, geL_119, ltL_119, gtL_119, eqL_119, adL_119, muL_119, suL_119, slL_119, alL_119, tnL_119, leL_120, geL_120, ltL_120, gtL_120, eqL_120, adL_120, muL_120, suL_120, slL_120, alL_120, tnL_120, leL_200, geL_200, ltL_200, gtL_200, eqL_200, adL_200, muL_200, suL_200, slL_200, alL_200, tnL_200, leL_217, geL_217, ltL_217, gtL_217, eqL_217, adL_217, muL_217, suL_217, slL_217, alL_217, tnL_217, leL_255, geL_255, ltL_255, gtL_255, eqL_255, adL_255, muL_255, suL_255, slL_255, alL_255, tnL_255, (tl h).1, (tl h).2.1]
theorem bd_eq {α β : Type} {x : Option α} {v : α} {k : α → Option β} {r : Option β} (h : x = some v) (hk : k v = r) : x.bind k = r := by
  rw [h]
  exact hk
theorem ck_eq {P : Prop} [Decidable P] {α : Type} {x r : Option α} (h : P) (hk : x = r) : chk P x = r := by
  rw [chk_t h]
  exact hk
theorem ip_eq {c : Prop} [Decidable c] {α : Type} {a b r : α} (h : c) (hk : a = r) : (if c then a else b) = r := by
  rw [if_pos h]
  exact hk
theorem in_eq {c : Prop} [Decidable c] {α : Type} {a b r : α} (h : ¬ c) (hk : b = r) : (if c then a else b) = r := by
  rw [if_neg h]
  exact hk
