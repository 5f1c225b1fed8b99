/-! PURE LEVEL: the heaviest tile that can be laid -/
def bestP (G : GS) (N : Nat) (r : Int32) : Prop := (r = -1 ∧ ∀ t, t < N → ¬ rsn G t = 0) ∨ ∃ b, b < 28 ∧ b < N ∧ r = nI b ∧ rsn G b = 0 ∧ ∀ t, t < N → rsn G t = 0 → pp t < pp b ∨ (pp t = pp b ∧ b ≤ t)
theorem f_best {n : Nat} (hn : 28 < n) {G : GS} {B : Nat} (V : VG G B) : ∃ r, f_X0_heaviestPlayable n G = some r ∧ bestP G 28 r := by
  unfold f_X0_heaviestPlayable
  refine for2 28 (fun j a => bestP G j a) _ ?_ ?_ n 0 (-1) (by omega) (by omega) (Or.inl ⟨rfl, fun t ht => by omega⟩)
  · intro K a hI
    exact ⟨a, ip_eq (by decide) rfl, hI⟩
  · intro K a j hj hI
    left
    have hr := (f_reason V hj).1
    have hj6 := tl hj
    have hle : ¬ (28 : Int32) ≤ nI j := fun q => by
      have := (leL_28 (j := j) (by omega)).mp q
      omega
    have e1 : nI j + 1 = nI (j + 1) := nI_1 j
    by_cases h0 : rsn G j = 0
    · rcases hI with ⟨rfl, hI⟩ | ⟨b, hb, hbj, rfl, hb0, hI⟩
      · refine ⟨nI j, in_eq hle (bd_eq hr (ip_eq h0 (ip_eq rfl ?_))), Or.inr ⟨j, hj, by omega, rfl, h0, fun t ht h => ?_⟩⟩
        · show K (nI j) (nI j + 1) = _
          rw [e1]
        · by_cases e : t = j
          · subst e; exact Or.inr ⟨rfl, Nat.le_refl _⟩
          · exact absurd h (hI t (by omega))
      · have hb6 := tl hb
        have hpj : pp j = lo j + hi j := rfl
        have hpb : pp b = lo b + hi b := rfl
        by_cases hc : pp j ≤ pp b
        · refine ⟨nI b, in_eq hle (bd_eq hr (ip_eq h0 (in_eq (nI_ne_m1 (by omega)) (bd_eq (f_pipsOn_n hj) (bd_eq (f_pipsOn_n hb) (ip_eq ?_ ?_)))))), Or.inr ⟨b, hb, by omega, rfl, hb0, fun t ht h => ?_⟩⟩
          · exact (nI_leI (by omega) (by omega)).mpr hc
          · show K (nI b) (nI j + 1) = _
            rw [e1]
          · by_cases e : t = j
            · subst e
              rcases Nat.lt_or_ge (pp t) (pp b) with q | q
              · exact Or.inl q
              · exact Or.inr ⟨by omega, by omega⟩
            · exact hI t (by omega) h
        · refine ⟨nI j, in_eq hle (bd_eq hr (ip_eq h0 (in_eq (nI_ne_m1 (by omega)) (bd_eq (f_pipsOn_n hj) (bd_eq (f_pipsOn_n hb) (in_eq ?_ ?_)))))), Or.inr ⟨j, hj, by omega, rfl, h0, fun t ht h => ?_⟩⟩
          · exact fun q => hc ((nI_leI (by omega) (by omega)).mp q)
          · show K (nI j) (nI j + 1) = _
            rw [e1]
          · by_cases e : t = j
            · subst e; exact Or.inr ⟨rfl, Nat.le_refl _⟩
            · rcases hI t (by omega) h with q | q
              · exact Or.inl (by omega)
              · exact Or.inl (by omega)
    · refine ⟨a, in_eq hle (bd_eq hr (in_eq h0 ?_)), ?_⟩
      · show K a (nI j + 1) = _
        rw [e1]
      · rcases hI with ⟨rfl, hI⟩ | ⟨b, hb, hbj, rfl, hb0, hI⟩
        · refine Or.inl ⟨rfl, fun t ht h => ?_⟩
          by_cases e : t = j
          · subst e; exact h0 h
          · exact hI t (by omega) h
        · refine Or.inr ⟨b, hb, by omega, rfl, hb0, fun t ht h => ?_⟩
          by_cases e : t = j
          · subst e; exact absurd h h0
          · exact hI t (by omega) h
