/-! PURE LEVEL: counting -/
def cB (q : Nat → Bool) : Nat → Nat
  | 0 => 0
  | j + 1 => cB q j + if q j then 1 else 0
theorem cB_le (q : Nat → Bool) : ∀ N, cB q N ≤ N := by
  intro N
  induction N with
  | zero => exact Nat.le_refl 0
  | succ N ih =>
    simp only [cB]
    split <;> omega
theorem cB_congr {q q' : Nat → Bool} : ∀ N, (∀ j, j < N → q j = q' j) → cB q N = cB q' N := by
  intro N
  induction N with
  | zero => intro _; rfl
  | succ N ih =>
    intro h
    simp only [cB]
    rw [ih (fun j hj => h j (by omega)), h N (by omega)]
theorem cB_0 {q : Nat → Bool} : ∀ N, (∀ j, j < N → q j = false) → cB q N = 0 := by
  intro N
  induction N with
  | zero => intro _; rfl
  | succ N ih =>
    intro h
    simp only [cB]
    rw [ih (fun j hj => h j (by omega)), h N (by omega)]
    rfl
theorem cB_add {q q' : Nat → Bool} {u : Nat} (hu : q u = false) (h : ∀ j, q' j = (q j || decide (j = u))) : ∀ N, cB q' N = cB q N + if u < N then 1 else 0 := by
  intro N
  induction N with
  | zero => rfl
  | succ N ih =>
    simp only [cB]
    rw [ih, h N]
    by_cases e : N = u
    · subst e
      rw [hu, if_neg (Nat.lt_irrefl N), if_pos (Nat.lt_succ_self N)]
      simp
    · rw [decide_eq_false e, Bool.or_false]
      by_cases l : u < N
      · rw [if_pos l, if_pos (show u < N + 1 by omega)]
        omega
      · rw [if_neg l, if_neg (show ¬ u < N + 1 by omega)]
        omega
/-- m tiles, all of them different -/
theorem cB_img {f : Nat → Nat} : ∀ m, (∀ k, k < m → f k < 28) → (∀ j k, j < m → k < m → f j = f k → j = k) → ∀ q : Nat → Bool, (∀ t, t < 28 → (q t = true ↔ ∃ k, k < m ∧ f k = t)) → cB q 28 = m := by
  intro m
  induction m with
  | zero =>
    intro _ _ q hq
    refine cB_0 28 (fun j hj => ?_)
    cases h : q j with
    | false => rfl
    | true =>
      obtain ⟨k, hk, _⟩ := (hq j hj).mp h
      omega
  | succ m ih =>
    intro h1 h2 q hq
    have i1 := ih (fun k hk => h1 k (by omega)) (fun j k hj hk e => h2 j k (by omega) (by omega) e) (fun t => decide (∃ k, k < m ∧ f k = t)) (fun t _ => decide_eq_true_iff)
    have hu : (fun t => decide (∃ k, k < m ∧ f k = t)) (f m) = false := decide_eq_false (fun ⟨k, hk, e⟩ => by
      have := h2 k m (by omega) (by omega) e
      omega)
    have i2 := cB_add (q := fun t => decide (∃ k, k < m ∧ f k = t)) (q' := fun t => decide (∃ k, k < m ∧ f k = t) || decide (t = f m)) hu (fun _ => rfl) 28
    rw [i1, if_pos (h1 m (by omega))] at i2
    rw [← i2]
    refine cB_congr 28 (fun t ht => ?_)
    have h3 := hq t ht
    cases hh : q t with
    | true =>
      obtain ⟨k, hk, e⟩ := h3.mp hh
      symm
      rw [Bool.or_eq_true]
      by_cases ek : k = m
      · subst ek
        exact Or.inr (decide_eq_true e.symm)
      · exact Or.inl (decide_eq_true ⟨k, by omega, e⟩)
    | false =>
      symm
      rw [Bool.or_eq_false_iff]
      constructor
      · exact decide_eq_false (fun ⟨k, hk, e⟩ => by
          rw [h3.mpr ⟨k, by omega, e⟩] at hh
          cases hh)
      · exact decide_eq_false (fun e => by
          rw [h3.mpr ⟨m, by omega, e.symm⟩] at hh
          cases hh)
theorem cntH_cB (h : Nat → Int32) (p : Int32) : ∀ N, cntH h p N = cB (fun t => decide (h t = p)) N := by
  intro N
  induction N with
  | zero => rfl
  | succ N ih =>
    simp only [cntH, cB, ih]
    by_cases e : h N = p
    · rw [if_pos e, if_pos (decide_eq_true e)]
    · rw [if_neg e, if_neg (by simp [e])]
theorem cB_rmv {h : Nat → Bool} {t : Nat} (ht : t < 28) (hh : h t = true) : cB (rmv h t) 28 + 1 = cB h 28 := by
  have hu : rmv h t t = false := by
    unfold rmv
    simp
  have := cB_add (q := rmv h t) (q' := h) hu (fun j => by
    unfold rmv
    by_cases e : j = t
    · subst e
      simp [hh]
    · simp [e]) 28
  rw [if_pos ht] at this
  exact this.symm
/-! the players' tiles and pips -/
theorem one_hand {v : Int32} (h : v = -1 ∨ ∃ p, p < 4 ∧ v = nI p) : (if v = nI 0 then 1 else 0) + (if v = nI 1 then 1 else 0) + (if v = nI 2 then 1 else 0) + (if v = nI 3 then 1 else 0) = (if (!decide (v = -1)) = true then 1 else 0 : Nat) := by
  rcases h with rfl | ⟨p, hp, rfl⟩
  · decide
  · have hp' : p = 0 ∨ p = 1 ∨ p = 2 ∨ p = 3 := by omega
    rcases hp' with rfl | rfl | rfl | rfl <;> decide
theorem sum_hands {h : Nat → Int32} : ∀ N, N ≤ 28 → (∀ t, t < 28 → h t = -1 ∨ ∃ p, p < 4 ∧ h t = nI p) → cntH h (nI 0) N + cntH h (nI 1) N + cntH h (nI 2) N + cntH h (nI 3) N = cB (fun t => !decide (h t = -1)) N := by
  intro N
  induction N with
  | zero => intro _ _; rfl
  | succ N ih =>
    intro hN ho
    have i1 := ih (by omega) ho
    have i2 := one_hand (ho N (by omega))
    simp only [cntH, cB]
    omega
theorem cntH_upd (h : Nat → Int32) {p : Int32} (hp : ¬ (-1 : Int32) = p) (t : Nat) : ∀ N, cntH (upd h t (-1)) p N + (if t < N ∧ h t = p then 1 else 0) = cntH h p N := by
  intro N
  induction N with
  | zero => rfl
  | succ N ih =>
    simp only [cntH]
    by_cases e : N = t
    · subst e
      rw [upd_eq rfl, if_neg hp]
      rw [if_neg (fun q => Nat.lt_irrefl N q.1)] at ih
      by_cases q : h N = p
      · rw [if_pos ⟨Nat.lt_succ_self N, q⟩, if_pos q]
        omega
      · rw [if_neg (fun z => q z.2), if_neg q]
        omega
    · rw [upd_ne e]
      have e2 : (if t < N + 1 ∧ h t = p then 1 else 0) = (if t < N ∧ h t = p then 1 else 0 : Nat) := by
        by_cases q : t < N ∧ h t = p
        · rw [if_pos q, if_pos ⟨by omega, q.2⟩]
        · rw [if_neg q, if_neg (fun z => q ⟨by omega, z.2⟩)]
      rw [e2]
      omega
theorem pipH_upd (h : Nat → Int32) {p : Int32} (hp : ¬ (-1 : Int32) = p) (t : Nat) : ∀ N, pipH (upd h t (-1)) p N + (if t < N ∧ h t = p then pp t else 0) = pipH h p N := by
  intro N
  induction N with
  | zero => rfl
  | succ N ih =>
    simp only [pipH]
    by_cases e : N = t
    · subst e
      rw [upd_eq rfl, if_neg hp]
      rw [if_neg (fun q => Nat.lt_irrefl N q.1)] at ih
      by_cases q : h N = p
      · rw [if_pos ⟨Nat.lt_succ_self N, q⟩, if_pos q]
        unfold pp
        omega
      · rw [if_neg (fun z => q z.2), if_neg q]
        omega
    · rw [upd_ne e]
      have e2 : (if t < N + 1 ∧ h t = p then pp t else 0) = (if t < N ∧ h t = p then pp t else 0 : Nat) := by
        by_cases q : t < N ∧ h t = p
        · rw [if_pos q, if_pos ⟨by omega, q.2⟩]
        · rw [if_neg q, if_neg (fun z => q ⟨by omega, z.2⟩)]
      rw [e2]
      omega
theorem pipH_0 {h : Nat → Int32} {p : Int32} : ∀ N, cntH h p N = 0 → pipH h p N = 0 := by
  intro N
  induction N with
  | zero => intro _; rfl
  | succ N ih =>
    intro h1
    simp only [cntH] at h1
    by_cases e : h N = p
    · rw [if_pos e] at h1
      omega
    · rw [if_neg e] at h1
      simp only [pipH, if_neg e]
      exact ih h1
theorem cntH_no {h : Nat → Int32} {p : Int32} : ∀ N, (∀ t, t < N → ¬ h t = p) → cntH h p N = 0 := by
  intro N
  induction N with
  | zero => intro _; rfl
  | succ N ih =>
    intro h1
    simp only [cntH, if_neg (h1 N (by omega))]
    exact ih (fun t ht => h1 t (by omega))
/-! chains: at most so many tiles, at most the hand -/
theorem bf_min (g : Nat → Nat) (q : Nat → Bool) (X : Nat) : ∀ c, bf (fun t => min X (g t)) q c = min X (bf g q c) := by
  intro c
  induction c with
  | zero => simp [bf]
  | succ c ih =>
    simp only [bf, ih]
    split <;> omega
theorem cl_min : ∀ m (h : Nat → Bool) e, cl m h e = min m (cl (m + 1) h e) := by
  intro m
  induction m with
  | zero => intro h e; simp [cl]
  | succ m ih =>
    intro h e
    show bf (fun t => 1 + cl m (rmv h t) (endB t e)) (fun t => h t && fitB t e) 28 = min (m + 1) (bf (fun t => 1 + cl (m + 1) (rmv h t) (endB t e)) (fun t => h t && fitB t e) 28)
    rw [← bf_min]
    refine bf_congr 28 (Nat.le_refl _) (fun _ _ => rfl) (fun t _ => ?_)
    have := ih (rmv h t) (endB t e)
    omega
theorem cl_hand : ∀ m (h : Nat → Bool) e, cl m h e ≤ cB h 28 := by
  intro m
  induction m with
  | zero => intro h e; exact Nat.zero_le _
  | succ m ih =>
    intro h e
    refine bf_le _ _ _ 28 (Nat.le_refl _) (fun t _ ht hq => ?_)
    have h1 := ih (rmv h t) (endB t e)
    have h2 : h t = true := ((Bool.and_eq_true _ _).mp hq).1
    have h3 := cB_rmv ht h2
    show 1 + cl m (rmv h t) (endB t e) ≤ cB h 28
    omega
theorem cl_pos {m : Nat} {h : Nat → Bool} {e : Int32} {t : Nat} (ht : t < 28) (h1 : h t = true) (h2 : fitB t e = true) : 1 ≤ cl (m + 1) h e := by
  have := bf_ge (fun t => 1 + cl m (rmv h t) (endB t e)) (fun t => h t && fitB t e) 28 (Nat.le_refl _) t (by omega) ht (by
    show (h t && fitB t e) = true
    rw [h1, h2]
    rfl)
  have h5 : 1 + cl m (rmv h t) (endB t e) ≤ cl (m + 1) h e := this
  omega
