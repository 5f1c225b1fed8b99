/-! PURE LEVEL: calls that only look -/
def Call (B : Nat) (f : Option (Int32 × CS × Int32)) (g : Option (MS × Int32)) (l : List (Int32 × Int32)) : Prop := ∃ code k c' v M', f = some (code, c', v) ∧ g = some (M', v) ∧ M'.1 0 = k ∧ (code, k) ∈ l ∧ WR B c' M'
theorem mem_1 {α : Type} {a : α} {l : List α} : a ∈ a :: l := List.mem_cons_self
theorem mem_2 {α : Type} {a b : α} {l : List α} : a ∈ b :: a :: l := List.mem_cons_of_mem _ List.mem_cons_self
theorem mem_3 {α : Type} {a b d : α} {l : List α} : a ∈ b :: d :: a :: l := List.mem_cons_of_mem _ (List.mem_cons_of_mem _ List.mem_cons_self)
theorem in_yes {m : Nat} {l u : Nat} (hm : m < 2 ^ 31) (h1 : l ≤ m) (h2 : m ≤ u) (hu : u < 2 ^ 31) : ¬ (nI m < nI l ∨ nI u < nI m) := fun q => q.elim (fun z => by
  have := (nI_ltI hm (by omega)).mp z
  omega) (fun z => by
  have := (nI_ltI hu hm).mp z
  omega)
theorem about_n {n : Nat} (hn : 28 < n) {M : MS} {G : GS} {B : Nat} (V : VG G B) (R : RG G (M.2 1)) : ∀ w, w < 12 → ∃ v, f_X0_numberOfGame n G (nI w) = some v ∧ f_X6_about_b18 n (nI w) M 0 = some (mS M 0 0, v)
  | 0, _ => by
    have e : M.2 1 (nI 0).toNatClampNeg = G.1 0 := by
      rw [show (nI 0).toNatClampNeg = 0 by decide]
      exact R.r0
    refine ⟨G.1 0, ip_eq rfl (rfl), ?_⟩
    unfold f_X6_about_b18
    exact bd_eq (m_refused M 0) (ip_eq rfl (in_eq (by decide) (in_eq (by decide) (in_eq (by decide) (in_eq (by decide) (in_eq (by decide) (in_eq (by decide) (in_eq (by decide) (in_eq (by decide) (in_eq (by decide) (ck_eq (by decide) (congrArg (fun z => some (mS M 0 0, z)) e))))))))))))
  | 1, _ => by
    have e : M.2 1 (nI 1).toNatClampNeg = G.1 3 := by
      rw [show (nI 1).toNatClampNeg = 1 by decide]
      exact R.r1
    refine ⟨G.1 3, in_eq (by decide) (ip_eq rfl (rfl)), ?_⟩
    unfold f_X6_about_b18
    exact bd_eq (m_refused M 0) (ip_eq rfl (in_eq (by decide) (in_eq (by decide) (in_eq (by decide) (in_eq (by decide) (in_eq (by decide) (in_eq (by decide) (in_eq (by decide) (in_eq (by decide) (in_eq (by decide) (ck_eq (by decide) (congrArg (fun z => some (mS M 0 0, z)) e))))))))))))
  | 2, _ => by
    have e : M.2 1 (nI 2).toNatClampNeg = G.1 4 := by
      rw [show (nI 2).toNatClampNeg = 2 by decide]
      exact R.r2
    refine ⟨G.1 4, in_eq (by decide) (in_eq (by decide) (ip_eq rfl (rfl))), ?_⟩
    unfold f_X6_about_b18
    exact bd_eq (m_refused M 0) (ip_eq rfl (in_eq (by decide) (in_eq (by decide) (in_eq (by decide) (in_eq (by decide) (in_eq (by decide) (in_eq (by decide) (in_eq (by decide) (in_eq (by decide) (in_eq (by decide) (ck_eq (by decide) (congrArg (fun z => some (mS M 0 0, z)) e))))))))))))
  | 3, _ => by
    by_cases hp : G.1 3 = 1
    · refine ⟨G.1 5, in_eq (by decide) (in_eq (by decide) (in_eq (by decide) (ip_eq rfl (bd_eq (v := G.1 5) (bd_eq f_isPlayed (by rw [if_pos hp]; rfl)) rfl)))), ?_⟩
      unfold f_X6_about_b18
      exact bd_eq (m_refused M 0) (ip_eq rfl (ip_eq rfl (ck_eq (by decide) (ip_eq (by rw [tnL_1]; exact R.r1.trans hp) (ck_eq (by decide) (congrArg (fun z => some (mS M 0 0, z)) (by rw [tnL_3]; exact R.r3)))))))
    · refine ⟨-1, in_eq (by decide) (in_eq (by decide) (in_eq (by decide) (ip_eq rfl (bd_eq (v := -1) (bd_eq f_isPlayed (by rw [if_neg hp]; rfl)) rfl)))), ?_⟩
      unfold f_X6_about_b18
      exact bd_eq (m_refused M 0) (ip_eq rfl (ip_eq rfl (ck_eq (by decide) (in_eq (by rw [tnL_1]; exact fun z => hp (R.r1.symm.trans z)) rfl))))
  | 4, _ => by
    have e : M.2 1 (nI 4).toNatClampNeg = nI (28 - hbG G) := by
      rw [show (nI 4).toNatClampNeg = 4 by decide]
      exact R.r4
    refine ⟨nI (28 - hbG G), in_eq (by decide) (in_eq (by decide) (in_eq (by decide) (in_eq (by decide) (ip_eq rfl (bd_eq (v := nI (28 - hbG G)) (by unfold f_X0_heapSize; rw [V.hb, slL_28 V.hb28]) rfl))))), ?_⟩
    unfold f_X6_about_b18
    exact bd_eq (m_refused M 0) (ip_eq rfl (in_eq (by decide) (ip_eq rfl (ck_eq (by decide) (congrArg (fun z => some (mS M 0 0, z)) e)))))
  | 5, _ => by
    have e : M.2 1 (nI 5).toNatClampNeg = nI (szG G) := by
      rw [show (nI 5).toNatClampNeg = 5 by decide]
      exact R.r5
    refine ⟨nI (szG G), in_eq (by decide) (in_eq (by decide) (in_eq (by decide) (in_eq (by decide) (in_eq (by decide) (ip_eq rfl (bd_eq (v := nI (szG G)) (congrArg some V.sz) rfl)))))), ?_⟩
    unfold f_X6_about_b18
    exact bd_eq (m_refused M 0) (ip_eq rfl (in_eq (by decide) (in_eq (by decide) (ip_eq rfl (ck_eq (by decide) (congrArg (fun z => some (mS M 0 0, z)) e))))))
  | 6, _ => by
    have e : M.2 1 (nI 6).toNatClampNeg = G.2.1 1 := by
      rw [show (nI 6).toNatClampNeg = 6 by decide]
      exact R.r6
    refine ⟨G.2.1 1, in_eq (by decide) (in_eq (by decide) (in_eq (by decide) (in_eq (by decide) (in_eq (by decide) (in_eq (by decide) (ip_eq rfl (bd_eq (v := G.2.1 1) rfl rfl))))))), ?_⟩
    unfold f_X6_about_b18
    exact bd_eq (m_refused M 0) (ip_eq rfl (in_eq (by decide) (in_eq (by decide) (in_eq (by decide) (ip_eq rfl (ck_eq (by decide) (congrArg (fun z => some (mS M 0 0, z)) e)))))))
  | 7, _ => by
    have e : M.2 1 (nI 7).toNatClampNeg = G.2.1 2 := by
      rw [show (nI 7).toNatClampNeg = 7 by decide]
      exact R.r7
    refine ⟨G.2.1 2, in_eq (by decide) (in_eq (by decide) (in_eq (by decide) (in_eq (by decide) (in_eq (by decide) (in_eq (by decide) (in_eq (by decide) (ip_eq rfl (bd_eq (v := G.2.1 2) rfl rfl)))))))), ?_⟩
    unfold f_X6_about_b18
    exact bd_eq (m_refused M 0) (ip_eq rfl (in_eq (by decide) (in_eq (by decide) (in_eq (by decide) (in_eq (by decide) (ip_eq rfl (ck_eq (by decide) (congrArg (fun z => some (mS M 0 0, z)) e))))))))
  | 8, _ => by
    have e : M.2 1 (nI 8).toNatClampNeg = G.1 6 := by
      rw [show (nI 8).toNatClampNeg = 8 by decide]
      exact R.r8
    refine ⟨G.1 6, in_eq (by decide) (in_eq (by decide) (in_eq (by decide) (in_eq (by decide) (in_eq (by decide) (in_eq (by decide) (in_eq (by decide) (in_eq (by decide) (ip_eq rfl (rfl))))))))), ?_⟩
    unfold f_X6_about_b18
    exact bd_eq (m_refused M 0) (ip_eq rfl (in_eq (by decide) (in_eq (by decide) (in_eq (by decide) (in_eq (by decide) (in_eq (by decide) (ip_eq rfl (ck_eq (by decide) (congrArg (fun z => some (mS M 0 0, z)) e)))))))))
  | 9, _ => by
    obtain ⟨v, h1, h2⟩ := pips_both hn hn V R
    refine ⟨v, in_eq (by decide) (in_eq (by decide) (in_eq (by decide) (in_eq (by decide) (in_eq (by decide) (in_eq (by decide) (in_eq (by decide) (in_eq (by decide) (in_eq (by decide) (ip_eq rfl (bd_eq h1 rfl)))))))))), ?_⟩
    unfold f_X6_about_b18
    exact bd_eq (m_refused M 0) (ip_eq rfl (in_eq (by decide) (in_eq (by decide) (in_eq (by decide) (in_eq (by decide) (in_eq (by decide) (in_eq (by decide) (ip_eq rfl (bd_eq h2 rfl)))))))))
  | 10, _ => by
    have e : M.2 1 (nI 10 - (1 : Int32)).toNatClampNeg = G.1 1 := by
      rw [show (nI 10 - (1 : Int32)).toNatClampNeg = 9 by decide]
      exact R.r9
    refine ⟨G.1 1, in_eq (by decide) (in_eq (by decide) (in_eq (by decide) (in_eq (by decide) (in_eq (by decide) (in_eq (by decide) (in_eq (by decide) (in_eq (by decide) (in_eq (by decide) (in_eq (by decide) (ip_eq rfl (rfl))))))))))), ?_⟩
    unfold f_X6_about_b18
    exact bd_eq (m_refused M 0) (ip_eq rfl (in_eq (by decide) (in_eq (by decide) (in_eq (by decide) (in_eq (by decide) (in_eq (by decide) (in_eq (by decide) (in_eq (by decide) (ip_eq rfl (ck_eq (by decide) (congrArg (fun z => some (mS M 0 0, z)) e)))))))))))
  | 11, _ => by
    have e : M.2 1 (nI 11 - (1 : Int32)).toNatClampNeg = G.1 2 := by
      rw [show (nI 11 - (1 : Int32)).toNatClampNeg = 10 by decide]
      exact R.r10
    refine ⟨G.1 2, in_eq (by decide) (in_eq (by decide) (in_eq (by decide) (in_eq (by decide) (in_eq (by decide) (in_eq (by decide) (in_eq (by decide) (in_eq (by decide) (in_eq (by decide) (in_eq (by decide) (in_eq (by decide) (rfl))))))))))), ?_⟩
    unfold f_X6_about_b18
    exact bd_eq (m_refused M 0) (ip_eq rfl (in_eq (by decide) (in_eq (by decide) (in_eq (by decide) (in_eq (by decide) (in_eq (by decide) (in_eq (by decide) (in_eq (by decide) (in_eq (by decide) (ip_eq rfl (ck_eq (by decide) (congrArg (fun z => some (mS M 0 0, z)) e))))))))))))
theorem c_about {n B : Nat} (hn : 28 < n) {c : CS} {M : MS} (W : WR B c M) (x : Int32) : Call B (f_X5_about n c x) (f_X6_about n M x) [(0, 0), (1, 1)] := by
  have hin := m_inL x 0 11 0 11 (by decide) (by decide)
  unfold f_X5_about f_X5_about_b10 f_X6_about
  rcases rng x 0 11 (by omega) (by omega) with h | h | ⟨w, _, h2, rfl⟩
  · have h' : x < 0 := h
    rw [if_pos (Or.inl h')] at hin
    exact ⟨1, 1, c, 0, mS M 0 1, ip_eq h' rfl, bd_eq hin (ip_eq rfl (bd_eq (m_refused M 1) rfl)), rfl, mem_2, W.fr (frC_rfl c) (frM_S M 1)⟩
  · have h' : 11 < x := h
    rw [if_pos (Or.inr h')] at hin
    refine ⟨1, 1, c, 0, mS M 0 1, ?_, bd_eq hin (ip_eq rfl (bd_eq (m_refused M 1) rfl)), rfl, mem_2, W.fr (frC_rfl c) (frM_S M 1)⟩
    by_cases h9 : x < 0
    · exact ip_eq h9 rfl
    · exact in_eq h9 (in_eq (lt_nle h') rfl)
  · rw [if_neg (show ¬ (_ < (0 : Int32) ∨ (11 : Int32) < _) from in_yes (l := 0) (u := 11) (by omega) (by omega) h2 (by omega))] at hin
    obtain ⟨v, g1, g2⟩ := about_n hn W.g W.r w (by omega)
    exact ⟨0, 0, c, v, mS M 0 0, in_eq (nI_pos (by omega)) (ip_eq ((geL_11 (by omega)).mpr h2) (bd_eq g1 rfl)), bd_eq hin (in_eq (by decide) g2), rfl, mem_1, W.fr (frC_rfl c) (frM_S M 0)⟩
theorem m_isTile (x : Int32) : f_X6_isTile x = some (if x < 0 ∨ 27 < x then 0 else 1) := by
  unfold f_X6_isTile
  refine bd_eq (m_inL x 0 27 0 27 (by decide) (by decide)) ?_
  by_cases h : x < 0 ∨ 27 < x
  · rw [if_pos h]
    rfl
  · rw [if_neg h]
    rfl
theorem tile_no {x : Int32} (h : x < 0 ∨ 27 < x) : f_X5_isTile x = some 0 ∧ f_X6_isTile x = some 0 := by
  refine ⟨?_, by rw [m_isTile, if_pos h]⟩
  unfold f_X5_isTile
  by_cases h1 : x < 0
  · exact ip_eq h1 rfl
  · obtain ⟨m, hm, rfl⟩ := nI_of h1
    have := (nI_ltI (a := 27) (by omega) hm).mp (h.resolve_left h1)
    exact in_eq h1 (ip_eq ((leL_28 hm).mpr (by omega)) rfl)
theorem tile_yes {t : Nat} (h : t < 28) : f_X5_isTile (nI t) = some 1 ∧ f_X6_isTile (nI t) = some 1 := by
  refine ⟨f_isTile_n h, ?_⟩
  rw [m_isTile, if_neg (show ¬ (_ < (0 : Int32) ∨ (27 : Int32) < _) from in_yes (l := 0) (u := 27) (by omega) (by omega) (by omega) (by omega))]
theorem tile_rng (x : Int32) : (x < 0 ∨ 27 < x) ∨ ∃ t, t < 28 ∧ x = nI t := by
  rcases rng x 0 27 (by omega) (by omega) with h | h | ⟨t, _, h2, rfl⟩
  · exact Or.inl (Or.inl h)
  · exact Or.inl (Or.inr h)
  · exact Or.inr ⟨t, by omega, rfl⟩
theorem player_no {x : Int32} (h : x < 0 ∨ 3 < x) : f_X5_isPlayer x = some 0 ∧ f_X6_in x.toInt64 0 3 = some 0 := by
  refine ⟨?_, by rw [m_inL x 0 3 0 3 (by decide) (by decide), if_pos h]⟩
  unfold f_X5_isPlayer
  by_cases h1 : x < 0
  · exact ip_eq h1 rfl
  · obtain ⟨m, hm, rfl⟩ := nI_of h1
    have := (nI_ltI (a := 3) (by omega) hm).mp (h.resolve_left h1)
    exact in_eq h1 (ip_eq ((leL_4 hm).mpr (by omega)) rfl)
theorem player_yes {p : Nat} (h : p < 4) : f_X5_isPlayer (nI p) = some 1 ∧ f_X6_in (nI p).toInt64 0 3 = some 1 := by
  refine ⟨f_isPlayer_n h, ?_⟩
  rw [m_inL _ 0 3 0 3 (by decide) (by decide), if_neg (show ¬ (_ < (0 : Int32) ∨ (3 : Int32) < _) from in_yes (l := 0) (u := 3) (by omega) (by omega) (by omega) (by omega))]
theorem player_rng (x : Int32) : (x < 0 ∨ 3 < x) ∨ ∃ p, p < 4 ∧ x = nI p := by
  rcases rng x 0 3 (by omega) (by omega) with h | h | ⟨t, _, h2, rfl⟩
  · exact Or.inl (Or.inl h)
  · exact Or.inl (Or.inr h)
  · exact Or.inr ⟨t, by omega, rfl⟩
theorem c_tileOf {n B : Nat} (hn : 28 < n) {c : CS} {M : MS} (W : WR B c M) (x y : Int32) : Call B (f_X5_tileOf n c x y) (f_X6_tileOf n M x y) [(0, 0), (3, 1), (1, 2)] := by
  have hin := m_inL y 0 4 0 4 (by decide) (by decide)
  unfold f_X5_tileOf f_X5_tileOf_b26 f_X6_tileOf f_X6_tileOf_b29
  rcases tile_rng x with hx | ⟨t, ht, rfl⟩
  · obtain ⟨q1, q2⟩ := tile_no hx
    exact ⟨3, 1, c, 0, mS M 0 1, bd_eq q1 (ip_eq rfl rfl), bd_eq q2 (ip_eq rfl (bd_eq (m_refused M 1) rfl)), rfl, mem_2, W.fr (frC_rfl c) (frM_S M 1)⟩
  · obtain ⟨q1, q2⟩ := tile_yes ht
    rcases rng y 0 4 (by omega) (by omega) with h | h | ⟨w, _, hw, rfl⟩
    · have h' : y < 0 := h
      rw [if_pos (Or.inl h')] at hin
      exact ⟨1, 2, c, 0, mS M 0 2, bd_eq q1 (in_eq (by decide) (ip_eq h' rfl)), bd_eq q2 (in_eq (by decide) (bd_eq hin (ip_eq rfl (bd_eq (m_refused M 2) rfl)))), rfl, mem_3, W.fr (frC_rfl c) (frM_S M 2)⟩
    · have h' : 4 < y := h
      rw [if_pos (Or.inr h')] at hin
      refine ⟨1, 2, c, 0, mS M 0 2, bd_eq q1 (in_eq (by decide) ?_), bd_eq q2 (in_eq (by decide) (bd_eq hin (ip_eq rfl (bd_eq (m_refused M 2) rfl)))), rfl, mem_3, W.fr (frC_rfl c) (frM_S M 2)⟩
      by_cases h9 : y < 0
      · exact ip_eq h9 rfl
      · exact in_eq h9 (in_eq (lt_nle h') rfl)
    · rw [if_neg (show ¬ (_ < (0 : Int32) ∨ (4 : Int32) < _) from in_yes (l := 0) (u := 4) (by omega) (by omega) hw (by omega))] at hin
      obtain ⟨v, g1, g2⟩ := tile_both hn hn W.g W.r ht (show w < 5 by omega)
      refine ⟨0, 0, c, v, mS M 0 0, bd_eq q1 (in_eq (by decide) (in_eq (nI_pos (by omega)) (ip_eq ((geL_4 (by omega)).mpr hw) (bd_eq g1 rfl)))), bd_eq q2 (in_eq (by decide) (bd_eq hin (in_eq (by decide) (bd_eq (m_refused M 0) (ip_eq rfl ?_))))), rfl, mem_1, W.fr (frC_rfl c) (frM_S M 0)⟩
      match w, hw with
      | 0, _ => exact ip_eq rfl (bd_eq g2 rfl)
      | 1, _ => exact in_eq (by decide) (ip_eq rfl (bd_eq g2 rfl))
      | 2, _ =>
        have g2' : M.2 1 (21 + t) = v := Option.some.inj g2
        refine in_eq (by decide) (in_eq (by decide) (ip_eq rfl (ck_eq (by rw [alL_21]; exact in_n (by omega) (by omega)) ?_)))
        rw [alL_21, nI_clamp (by omega)]
        exact congrArg (fun z => some (mS M 0 0, z)) g2'
      | 3, _ => exact in_eq (by decide) (in_eq (by decide) (in_eq (by decide) (ip_eq rfl (bd_eq g2 rfl))))
      | 4, _ => exact in_eq (by decide) (in_eq (by decide) (in_eq (by decide) (in_eq (by decide) (bd_eq g2 rfl))))
theorem place_rng {G : GS} {B : Nat} (V : VG G B) {s : Nat → Int32} (R : RG G s) (x : Int32) : ((x < 0 ∨ s 5 - 1 < x) ∧ (x < 0 ∨ ¬ x < G.2.1 0)) ∨ ∃ k, k < szG G ∧ x = nI k ∧ ¬ (x < 0 ∨ s 5 - 1 < x) ∧ x < G.2.1 0 := by
  have h28 := V.sz28
  have hs : (nI (szG G) - nI 1).toInt = (szG G : Int) - 1 := pk_sub_toInt (by omega) (by omega)
  have e5 : s 5 - 1 = nI (szG G) - nI 1 := by
    rw [R.r5]
    rfl
  rw [e5, V.sz]
  by_cases h : x < 0
  · exact Or.inl ⟨Or.inl h, Or.inl h⟩
  · obtain ⟨k, hk, rfl⟩ := nI_of h
    have hk2 := nI_toInt hk
    by_cases h2 : k < szG G
    · refine Or.inr ⟨k, h2, rfl, ?_, nI_lt h2 (by omega)⟩
      rintro (q | q)
      · exact h q
      · rw [Int32.lt_iff_toInt_lt] at q
        omega
    · refine Or.inl ⟨Or.inr ?_, Or.inr (nI_nlt (by omega) hk)⟩
      rw [Int32.lt_iff_toInt_lt]
      omega
theorem c_laid {n B : Nat} (hn : 28 < n) {c : CS} {M : MS} (W : WR B c M) (x y : Int32) : Call B (f_X5_laid c x y) (f_X6_laid n M x y) [(0, 0), (3, 1), (1, 2)] := by
  have hin := m_inL y 0 5 0 5 (by decide) (by decide)
  have hin1 := m_inL x 0 (M.2 1 5 - 1) 0 ((M.2 1 5 - 1).toInt64) (by decide) rfl
  unfold f_X5_laid f_X5_laid_b18 f_X5_laid_b37 f_X6_laid f_X6_laid_b40
  rcases place_rng W.g W.r x with ⟨q1, q2⟩ | ⟨k, hk, rfl, q1, q2⟩
  · rw [if_pos q1] at hin1
    refine ⟨3, 1, c, 0, mS M 0 1, ?_, ck_eq (by decide) (bd_eq (v := 0) (by rw [tnL_5]; exact hin1) (ip_eq rfl (bd_eq (m_refused M 1) rfl))), rfl, mem_2, W.fr (frC_rfl c) (frM_S M 1)⟩
    by_cases h9 : x < 0
    · exact ip_eq h9 rfl
    · exact in_eq h9 (bd_eq (v := ()) rfl (bd_eq (v := (c.2.2 0).2.1 0) rfl (in_eq (q2.resolve_left h9) rfl)))
  · rw [if_neg q1] at hin1
    have hx0 : ¬ nI k < 0 := fun z => q1 (Or.inl z)
    rcases rng y 0 5 (by omega) (by omega) with h | h | ⟨w, _, hw, rfl⟩
    · have h' : y < 0 := h
      rw [if_pos (Or.inl h')] at hin
      exact ⟨1, 2, c, 0, mS M 0 2, in_eq hx0 (bd_eq (v := ()) rfl (bd_eq (v := (c.2.2 0).2.1 0) rfl (ip_eq q2 (ip_eq h' rfl)))), ck_eq (by decide) (bd_eq (v := 1) (by rw [tnL_5]; exact hin1) (in_eq (by decide) (bd_eq hin (ip_eq rfl (bd_eq (m_refused M 2) rfl))))), rfl, mem_3, W.fr (frC_rfl c) (frM_S M 2)⟩
    · have h' : 5 < y := h
      rw [if_pos (Or.inr h')] at hin
      refine ⟨1, 2, c, 0, mS M 0 2, in_eq hx0 (bd_eq (v := ()) rfl (bd_eq (v := (c.2.2 0).2.1 0) rfl (ip_eq q2 ?_))), ck_eq (by decide) (bd_eq (v := 1) (by rw [tnL_5]; exact hin1) (in_eq (by decide) (bd_eq hin (ip_eq rfl (bd_eq (m_refused M 2) rfl))))), rfl, mem_3, W.fr (frC_rfl c) (frM_S M 2)⟩
      by_cases h9 : y < 0
      · exact ip_eq h9 rfl
      · exact in_eq h9 (in_eq (lt_nle h') rfl)
    · rw [if_neg (show ¬ (_ < (0 : Int32) ∨ (5 : Int32) < _) from in_yes (l := 0) (u := 5) (by omega) (by omega) hw (by omega))] at hin
      obtain ⟨v, g1, g2⟩ := laid_both hn W.g W.r hk (show w < 6 by omega)
      refine ⟨0, 0, c, v, mS M 0 0, in_eq hx0 (bd_eq (v := ()) rfl (bd_eq (v := (c.2.2 0).2.1 0) rfl (ip_eq q2 (in_eq (nI_pos (by omega)) (ip_eq ((geL_5 (by omega)).mpr hw) (bd_eq (v := ()) rfl (bd_eq g1 rfl))))))), ck_eq (by decide) (bd_eq (v := 1) (by rw [tnL_5]; exact hin1) (in_eq (by decide) (bd_eq hin (in_eq (by decide) (bd_eq (m_refused M 0) (ip_eq rfl ?_)))))), rfl, mem_1, W.fr (frC_rfl c) (frM_S M 0)⟩
      by_cases h5 : (5 : Int32) ≤ nI w
      · rw [if_pos h5] at g2
        exact ip_eq h5 (bd_eq g2 rfl)
      · rw [if_neg h5] at g2
        exact in_eq h5 (bd_eq g2 rfl)
theorem c_playerOf {n B : Nat} (hn : 28 < n) {c : CS} {M : MS} (W : WR B c M) (x y : Int32) : Call B (f_X5_playerOf n c x y) (f_X6_playerOf n M x y) [(0, 0), (3, 1), (1, 2)] := by
  have hin := m_inL y 0 3 0 3 (by decide) (by decide)
  unfold f_X5_playerOf f_X5_playerOf_b26 f_X6_playerOf f_X6_playerOf_b34
  rcases player_rng x with hx | ⟨p, hp, rfl⟩
  · obtain ⟨q1, q2⟩ := player_no hx
    exact ⟨3, 1, c, 0, mS M 0 1, bd_eq q1 (ip_eq rfl rfl), bd_eq q2 (ip_eq rfl (bd_eq (m_refused M 1) rfl)), rfl, mem_2, W.fr (frC_rfl c) (frM_S M 1)⟩
  · obtain ⟨q1, q2⟩ := player_yes hp
    rcases rng y 0 3 (by omega) (by omega) with h | h | ⟨w, _, hw, rfl⟩
    · have h' : y < 0 := h
      rw [if_pos (Or.inl h')] at hin
      exact ⟨1, 2, c, 0, mS M 0 2, bd_eq q1 (in_eq (by decide) (ip_eq h' rfl)), bd_eq q2 (in_eq (by decide) (bd_eq hin (ip_eq rfl (bd_eq (m_refused M 2) rfl)))), rfl, mem_3, W.fr (frC_rfl c) (frM_S M 2)⟩
    · have h' : 3 < y := h
      rw [if_pos (Or.inr h')] at hin
      refine ⟨1, 2, c, 0, mS M 0 2, bd_eq q1 (in_eq (by decide) ?_), bd_eq q2 (in_eq (by decide) (bd_eq hin (ip_eq rfl (bd_eq (m_refused M 2) rfl)))), rfl, mem_3, W.fr (frC_rfl c) (frM_S M 2)⟩
      by_cases h9 : y < 0
      · exact ip_eq h9 rfl
      · exact in_eq h9 (in_eq (lt_nle h') rfl)
    · rw [if_neg (show ¬ (_ < (0 : Int32) ∨ (3 : Int32) < _) from in_yes (l := 0) (u := 3) (by omega) (by omega) hw (by omega))] at hin
      have key : ∀ v, f_X0_numberOfPlayer n (c.2.2 0) (nI p) (nI w) = some v → (f_X6_refused M 0).bind (fun q34 => if q34.2 = 0 then (if nI w = 0 then ((f_X6_handMany n (q34.1.2 1) (nI p)).bind (fun q51 => some (q34.1, q51))) else (if nI w = (1 : Int32) then ((f_X6_handPips n (q34.1.2 1) (nI p)).bind (fun q67 => some (q34.1, q67))) else (if nI w = (2 : Int32) then (chk (inB ((13 : Int32) + nI p) 217) (some (q34.1, (q34.1.2 1 ((13 : Int32) + nI p).toNatClampNeg)))) else (chk (inB ((17 : Int32) + nI p) 217) (some (q34.1, (q34.1.2 1 ((17 : Int32) + nI p).toNatClampNeg))))))) else (some (q34.1, (0 : Int32)))) = some (mS M 0 0, v) → Call B ((f_X5_isPlayer (nI p)).bind (fun q1 => if q1 = 0 then (some ((3 : Int32), c, (0 : Int32))) else (if nI w < 0 then some ((1 : Int32), c, (0 : Int32)) else (if nI w ≤ (3 : Int32) then ((f_X0_numberOfPlayer n (c.2.2 0) (nI p) (nI w)).bind (fun q42 => some ((0 : Int32), c, q42))) else some ((1 : Int32), c, (0 : Int32)))))) ((f_X6_in (nI p).toInt64 (0 : Int64) (3 : Int64)).bind (fun q7 => if q7 = 0 then (f_X6_playerOf_b34 n (nI p) (nI w) M (1 : Int32)) else ((f_X6_in (nI w).toInt64 (0 : Int64) (3 : Int64)).bind (fun q23 => if q23 = 0 then (f_X6_playerOf_b34 n (nI p) (nI w) M (2 : Int32)) else (f_X6_playerOf_b34 n (nI p) (nI w) M (0 : Int32)))))) [(0, 0), (3, 1), (1, 2)] := fun v g1 g2 =>
        ⟨0, 0, c, v, mS M 0 0, bd_eq q1 (in_eq (by decide) (in_eq (nI_pos (by omega)) (ip_eq ((nI_leI (b := 3) (by omega) (by omega)).mpr hw) (bd_eq g1 rfl)))), bd_eq q2 (in_eq (by decide) (bd_eq hin (in_eq (by decide) g2))), rfl, mem_1, W.fr (frC_rfl c) (frM_S M 0)⟩
      match w, hw with
      | 0, _ =>
        refine key (nI (cntH ((c.2.2 0).2.2 1) (nI p) 28)) ?_ (bd_eq (m_refused M 0) (ip_eq rfl (ip_eq rfl (bd_eq (r_handMany hn W.r (nI p)) rfl))))
        unfold f_X0_numberOfPlayer
        exact bd_eq q1 (in_eq (by decide) (ip_eq rfl (bd_eq (f_tilesOf hn _ _) rfl)))
      | 1, _ =>
        refine key (nI (pipH ((c.2.2 0).2.2 1) (nI p) 28)) ?_ (bd_eq (m_refused M 0) (ip_eq rfl (in_eq (by decide) (ip_eq rfl (bd_eq (r_handPips hn W.r (nI p)) rfl)))))
        unfold f_X0_numberOfPlayer
        exact bd_eq q1 (in_eq (by decide) (in_eq (by decide) (ip_eq rfl (bd_eq (f_pipsOf hn _ _) rfl))))
      | 2, _ =>
        refine key ((c.2.2 0).2.2 2 p) ?_ (bd_eq (m_refused M 0) (ip_eq rfl (in_eq (by decide) (in_eq (by decide) (ip_eq rfl (ck_eq (by rw [alL_13]; exact in_n (by omega) (by omega)) ?_))))))
        · unfold f_X0_numberOfPlayer
          refine bd_eq q1 (in_eq (by decide) (in_eq (by decide) (in_eq (by decide) (ip_eq rfl (ck_eq (in_n hp (by omega)) ?_)))))
          rw [nI_clamp (by omega)]
        · rw [alL_13, nI_clamp (by omega)]
          exact congrArg (fun z => some (mS M 0 0, z)) (W.r.sc p hp)
      | 3, _ =>
        refine key ((c.2.2 0).2.2 3 p) ?_ (bd_eq (m_refused M 0) (ip_eq rfl (in_eq (by decide) (in_eq (by decide) (in_eq (by decide) (ck_eq (by rw [alL_17]; exact in_n (by omega) (by omega)) ?_))))))
        · unfold f_X0_numberOfPlayer
          refine bd_eq q1 (in_eq (by decide) (in_eq (by decide) (in_eq (by decide) (in_eq (by decide) (ck_eq (in_n hp (by omega)) ?_)))))
          rw [nI_clamp (by omega)]
        · rw [alL_17, nI_clamp (by omega)]
          exact congrArg (fun z => some (mS M 0 0, z)) (W.r.wo p hp)
theorem c_at {n B : Nat} (hn : 28 < n) {c : CS} {M : MS} (W : WR B c M) (x y : Int32) : Call B (f_X5_at n c x y) (f_X6_at n M x y) [(0, 0), (3, 1)] := by
  have hx := m_inL x 0 24 0 24 (by decide) (by decide)
  have hy := m_inL y 0 24 0 24 (by decide) (by decide)
  have big : ∀ {z : Int32}, ¬ z < 0 → 24 < z → (25 : Int32) ≤ z := fun h1 h2 => by
    obtain ⟨m, hm, rfl⟩ := nI_of h1
    have := (nI_ltI (a := 24) (by omega) hm).mp h2
    exact (leL_25 hm).mpr (by omega)
  have bad : f_X5_isCell x y = some 0 → f_X6_at n M x y = some (mS M 0 1, 0) → Call B (f_X5_at n c x y) (f_X6_at n M x y) [(0, 0), (3, 1)] := fun h1 h2 => by
    unfold f_X5_at
    exact ⟨3, 1, c, 0, mS M 0 1, bd_eq h1 (ip_eq rfl rfl), h2, rfl, mem_2, W.fr (frC_rfl c) (frM_S M 1)⟩
  have hb30 : f_X6_at_b29 n x y M = some (mS M 0 1, 0) := by
    unfold f_X6_at_b29 f_X6_at_b30
    exact bd_eq (m_refused M 1) rfl
  by_cases qx : x < 0 ∨ 24 < x
  · rw [if_pos qx] at hx
    refine bad ?_ ?_
    · unfold f_X5_isCell
      by_cases h9 : x < 0
      · exact ip_eq h9 rfl
      · exact in_eq h9 (ip_eq (big h9 (qx.resolve_left h9)) rfl)
    · unfold f_X6_at
      exact bd_eq hx (ip_eq rfl hb30)
  · rw [if_neg qx] at hx
    have x1 : ¬ x < 0 := fun z => qx (Or.inl z)
    obtain ⟨a, ha, rfl⟩ := nI_of x1
    have ha2 : a < 25 := Nat.lt_of_not_le fun z => qx (Or.inr (nI_lt (a := 24) (by omega) ha))
    have x2 : ¬ (25 : Int32) ≤ nI a := nI_ge (a := a) (b := 25) ha2 (by omega)
    by_cases qy : y < 0 ∨ 24 < y
    · rw [if_pos qy] at hy
      refine bad ?_ ?_
      · unfold f_X5_isCell
        refine in_eq x1 (in_eq x2 ?_)
        by_cases h9 : y < 0
        · exact ip_eq h9 rfl
        · exact in_eq h9 (ip_eq (big h9 (qy.resolve_left h9)) rfl)
      · unfold f_X6_at
        exact bd_eq hx (in_eq (by decide) (bd_eq hy (ip_eq rfl hb30)))
    · rw [if_neg qy] at hy
      have y1 : ¬ y < 0 := fun z => qy (Or.inl z)
      obtain ⟨b, hb, rfl⟩ := nI_of y1
      have hb2 : b < 25 := Nat.lt_of_not_le fun z => qy (Or.inr (nI_lt (a := 24) (by omega) hb))
      have y2 : ¬ (25 : Int32) ≤ nI b := nI_ge (a := b) (b := 25) hb2 (by omega)
      obtain ⟨v, g1, g2⟩ := cell_both hn hn W.g W.r (nI a) (nI b)
      refine ⟨0, 0, c, v, mS M 0 0, ?_, ?_, rfl, mem_1, W.fr (frC_rfl c) (frM_S M 0)⟩
      · unfold f_X5_at f_X5_isCell
        exact bd_eq (v := 1) (in_eq x1 (in_eq x2 (in_eq y1 (in_eq y2 rfl)))) (in_eq (by decide) (bd_eq (v := ()) rfl (bd_eq g1 rfl)))
      · unfold f_X6_at f_X6_at_b30
        exact bd_eq hx (in_eq (by decide) (bd_eq hy (in_eq (by decide) (bd_eq (m_refused M 0) (ip_eq rfl (bd_eq g2 rfl))))))
theorem c_free {n B : Nat} (hn : 28 < n) {c : CS} {M : MS} (W : WR B c M) (x : Int32) : Call B (f_X5_free n c x) (f_X6_free M x) [(0, 0), (1, 1)] := by
  have hin := m_inL x 0 1 0 1 (by decide) (by decide)
  obtain ⟨v1, v2, v3⟩ := free_both hn W.g W.r
  have hm : f_X6_free_b16 x M 0 = some (mS M 0 0, nI (625 - 2 * szG (c.2.2 0))) := by
    unfold f_X6_free_b16
    refine bd_eq (m_refused M 0) (ip_eq rfl (ck_eq (by decide) ?_))
    rw [tnL_5]
    exact congrArg (fun z => some (mS M 0 0, z)) v3
  have hw : ∀ x' : Int32, f_X5_free_b19 n x' c = some (0, c, nI (625 - 2 * szG (c.2.2 0))) := fun x' => by
    unfold f_X5_free_b19
    by_cases h : x' = 0
    · exact ip_eq h (bd_eq (v := ()) rfl (bd_eq v1 rfl))
    · exact in_eq h (bd_eq (v := ()) rfl (bd_eq v2 rfl))
  unfold f_X5_free f_X6_free
  by_cases q : x < 0 ∨ 1 < x
  · rw [if_pos q] at hin
    refine ⟨1, 1, c, 0, mS M 0 1, in_eq (fun z => ?_) (in_eq (fun z => ?_) rfl), bd_eq hin (ip_eq rfl (bd_eq (m_refused M 1) rfl)), rfl, mem_2, W.fr (frC_rfl c) (frM_S M 1)⟩
    · rw [z] at q
      exact absurd q (by decide)
    · rw [z] at q
      exact absurd q (by decide)
  · rw [if_neg q] at hin
    refine ⟨0, 0, c, _, mS M 0 0, ?_, bd_eq hin (in_eq (by decide) hm), rfl, mem_1, W.fr (frC_rfl c) (frM_S M 0)⟩
    have x1 : ¬ x < 0 := fun z => q (Or.inl z)
    obtain ⟨a, ha, rfl⟩ := nI_of x1
    have ha2 : a < 2 := Nat.lt_of_not_le fun z => q (Or.inr (nI_lt (a := 1) (by omega) ha))
    have ha3 : a = 0 ∨ a = 1 := by omega
    clear hin ha ha2 x1 q
    rcases ha3 with rfl | rfl
    · exact ip_eq rfl (hw _)
    · exact in_eq (by decide) (ip_eq rfl (hw _))
theorem c_why {n B : Nat} (hn : 28 < n) {c : CS} {M : MS} (W : WR B c M) (x : Int32) : Call B (f_X5_why c x) (f_X6_why n M x) [(0, 0), (3, 1)] := by
  unfold f_X5_why f_X6_why f_X6_why_b13
  rcases tile_rng x with hx | ⟨t, ht, rfl⟩
  · obtain ⟨q1, q2⟩ := tile_no hx
    exact ⟨3, 1, c, 0, mS M 0 1, bd_eq q1 (ip_eq rfl rfl), bd_eq q2 (ip_eq rfl (bd_eq (m_refused M 1) rfl)), rfl, mem_2, W.fr (frC_rfl c) (frM_S M 1)⟩
  · obtain ⟨q1, q2⟩ := tile_yes ht
    obtain ⟨r1, r2, r3, r4⟩ := reason_rs hn W.g W.r ht
    by_cases hp : (c.2.2 0).1 3 = 1
    · rw [if_pos hp] at r2
      exact ⟨0, 0, c, _, mS M 0 0, bd_eq q1 (in_eq (by decide) (bd_eq r2 rfl)), bd_eq q2 (in_eq (by decide) (bd_eq (m_refused M 0) (ip_eq rfl (ck_eq (by decide) (ip_eq (by rw [tnL_1]; exact W.r.r1.trans hp) (bd_eq r1 rfl)))))), rfl, mem_1, W.fr (frC_rfl c) (frM_S M 0)⟩
    · rw [if_neg hp] at r2
      exact ⟨0, 0, c, _, mS M 0 0, bd_eq q1 (in_eq (by decide) (bd_eq r2 rfl)), bd_eq q2 (in_eq (by decide) (bd_eq (m_refused M 0) (ip_eq rfl (ck_eq (by decide) (in_eq (by rw [tnL_1]; exact fun z => hp (W.r.r1.symm.trans z)) rfl))))), rfl, mem_1, W.fr (frC_rfl c) (frM_S M 0)⟩
theorem reach_n {n : Nat} (hn : 57 < n) {M : MS} {G : GS} {B : Nat} (V : VG G B) (R : RG G (M.2 1)) : ∀ w, w < 6 → ∃ v, f_X2_numberOfReach n G (nI w) = some v ∧ f_X6_reach_b18 n (nI w) M 0 = some (mS M 0 0, v) := by
  have h28 := V.sz28
  have t1 := f_turns (n := n) (by omega) V 1
  have t3 := f_turns (n := n) (by omega) V 3
  have l1 := f_least_x (n := n) (by omega) V
  have l2 := f_greatest_x (n := n) (by omega) V
  have l3 := f_least_y (n := n) (by omega) V
  have l4 := f_greatest_y (n := n) (by omega) V
  have hm0 : szG G = 0 → ∀ w, w < 4 → f_X6_reach_b18 n (nI w) M 0 = some (mS M 0 0, -1) := fun hz w hw => by
    unfold f_X6_reach_b18
    refine bd_eq (m_refused M 0) (ip_eq rfl (ip_eq ((nI_leI (b := 3) (by omega) (by omega)).mpr (by omega)) (ck_eq (by decide) (ip_eq ?_ rfl))))
    rw [tnL_5]
    exact R.r5.trans (by rw [hz]; rfl)
  have hm1 : 0 < szG G → ∀ w v, w < 4 → f_X6_reached n (M.2 1) (nI w) = some v → f_X6_reach_b18 n (nI w) M 0 = some (mS M 0 0, v) := fun hz w v hw hv => by
    unfold f_X6_reach_b18
    refine bd_eq (m_refused M 0) (ip_eq rfl (ip_eq ((nI_leI (b := 3) (by omega) (by omega)).mpr (by omega)) (ck_eq (by decide) (in_eq ?_ (bd_eq hv rfl)))))
    rw [tnL_5]
    intro q
    exact nI_ne0 hz (by omega) (R.r5.symm.trans q)
  have hm2 : ∀ w, 4 ≤ w → w < 6 → ∀ v, M.2 1 (11 + (w - 4)) = v → f_X6_reach_b18 n (nI w) M 0 = some (mS M 0 0, v) := fun w h1 h2 v hv => by
    unfold f_X6_reach_b18
    have e : (11 : Int32) + nI w - (4 : Int32) = nI (11 + (w - 4)) := by
      rw [alL_11, suL_4 (by omega), show 11 + w - 4 = 11 + (w - 4) by omega]
    refine bd_eq (m_refused M 0) (ip_eq rfl (in_eq (fun q => ?_) (ck_eq (by rw [e]; exact in_n (by omega) (by omega)) ?_)))
    · have := (nI_leI (b := 3) (by omega) (by omega)).mp q
      omega
    · rw [e, nI_clamp (by omega)]
      exact congrArg (fun z => some (mS M 0 0, z)) hv
  intro w hw
  unfold f_X2_numberOfReach
  by_cases hz : szG G = 0
  · rw [if_pos hz] at l1 l2 l3 l4
    match w, hw with
    | 0, _ => exact ⟨-1, ip_eq rfl (bd_eq l1 rfl), hm0 hz 0 (by omega)⟩
    | 1, _ => exact ⟨-1, in_eq (by decide) (ip_eq rfl (bd_eq l2 rfl)), hm0 hz 1 (by omega)⟩
    | 2, _ => exact ⟨-1, in_eq (by decide) (in_eq (by decide) (ip_eq rfl (bd_eq l3 rfl))), hm0 hz 2 (by omega)⟩
    | 3, _ => exact ⟨-1, in_eq (by decide) (in_eq (by decide) (in_eq (by decide) (ip_eq rfl (bd_eq l4 rfl)))), hm0 hz 3 (by omega)⟩
    | 4, _ => exact ⟨_, in_eq (by decide) (in_eq (by decide) (in_eq (by decide) (in_eq (by decide) (ip_eq rfl (bd_eq t1 rfl))))), hm2 4 (by omega) (by omega) _ R.r11⟩
    | 5, _ => exact ⟨_, in_eq (by decide) (in_eq (by decide) (in_eq (by decide) (in_eq (by decide) (in_eq (by decide) (bd_eq t3 rfl))))), hm2 5 (by omega) (by omega) _ R.r12⟩
  · rw [if_neg hz] at l1 l2 l3 l4
    obtain ⟨q1, q2, q3, q4⟩ := m_reached hn V R (by omega)
    match w, hw with
    | 0, _ => exact ⟨_, ip_eq rfl (bd_eq l1 rfl), hm1 (by omega) 0 _ (by omega) q1⟩
    | 1, _ => exact ⟨_, in_eq (by decide) (ip_eq rfl (bd_eq l2 rfl)), hm1 (by omega) 1 _ (by omega) q2⟩
    | 2, _ => exact ⟨_, in_eq (by decide) (in_eq (by decide) (ip_eq rfl (bd_eq l3 rfl))), hm1 (by omega) 2 _ (by omega) q3⟩
    | 3, _ => exact ⟨_, in_eq (by decide) (in_eq (by decide) (in_eq (by decide) (ip_eq rfl (bd_eq l4 rfl)))), hm1 (by omega) 3 _ (by omega) q4⟩
    | 4, _ => exact ⟨_, in_eq (by decide) (in_eq (by decide) (in_eq (by decide) (in_eq (by decide) (ip_eq rfl (bd_eq t1 rfl))))), hm2 4 (by omega) (by omega) _ R.r11⟩
    | 5, _ => exact ⟨_, in_eq (by decide) (in_eq (by decide) (in_eq (by decide) (in_eq (by decide) (in_eq (by decide) (bd_eq t3 rfl))))), hm2 5 (by omega) (by omega) _ R.r12⟩
theorem c_reach {n B : Nat} (hn : 57 < n) {c : CS} {M : MS} (W : WR B c M) (x : Int32) : Call B (f_X5_reach n c x) (f_X6_reach n M x) [(0, 0), (1, 1)] := by
  have hin := m_inL x 0 5 0 5 (by decide) (by decide)
  unfold f_X5_reach f_X5_reach_b9 f_X6_reach
  rcases rng x 0 5 (by omega) (by omega) with h | h | ⟨w, _, h2, rfl⟩
  · have h' : x < 0 := h
    rw [if_pos (Or.inl h')] at hin
    exact ⟨1, 1, c, 0, mS M 0 1, ip_eq h' rfl, bd_eq hin (ip_eq rfl (bd_eq (m_refused M 1) rfl)), rfl, mem_2, W.fr (frC_rfl c) (frM_S M 1)⟩
  · have h' : 5 < x := h
    rw [if_pos (Or.inr h')] at hin
    refine ⟨1, 1, c, 0, mS M 0 1, ?_, bd_eq hin (ip_eq rfl (bd_eq (m_refused M 1) rfl)), rfl, mem_2, W.fr (frC_rfl c) (frM_S M 1)⟩
    by_cases h9 : x < 0
    · exact ip_eq h9 rfl
    · exact in_eq h9 (in_eq (lt_nle h') rfl)
  · rw [if_neg (show ¬ (_ < (0 : Int32) ∨ (5 : Int32) < _) from in_yes (l := 0) (u := 5) (by omega) (by omega) h2 (by omega))] at hin
    obtain ⟨v, g1, g2⟩ := reach_n hn W.g W.r w (by omega)
    exact ⟨0, 0, c, v, mS M 0 0, in_eq (nI_pos (by omega)) (ip_eq ((geL_5 (by omega)).mpr h2) (bd_eq (v := ()) rfl (bd_eq g1 rfl))), bd_eq hin (in_eq (by decide) g2), rfl, mem_1, W.fr (frC_rfl c) (frM_S M 0)⟩
theorem frM_YY (M : MS) (v : Int32) (tr en : Nat → Int32) : frM M (YY (mS M 0 v) tr en) := ⟨fun i hi => upd_ne (by omega), fun j h1 h2 => by
  unfold YY
  rw [mA_ne _ (by omega), mA_ne _ (by omega)]
  rfl⟩
theorem c_chain {n B : Nat} (hn : 28 < n) {c : CS} {M : MS} (W : WR B c M) (x y : Int32) : ∃ n2, Call B (f_X5_chain n c x y) (f_X6_chain n2 M x y) [(0, 0), (3, 1), (1, 2)] := by
  have hin := m_inL y 1 6 1 6 (by decide) (by decide)
  rcases player_rng x with hx | ⟨p, hp, rfl⟩
  · obtain ⟨q1, q2⟩ := player_no hx
    refine ⟨29, ?_⟩
    unfold f_X5_chain f_X6_chain f_X6_chain_b34
    exact ⟨3, 1, c, 0, mS M 0 1, bd_eq q1 (ip_eq rfl rfl), bd_eq q2 (ip_eq rfl (bd_eq (m_refused M 1) rfl)), rfl, mem_2, W.fr (frC_rfl c) (frM_S M 1)⟩
  · obtain ⟨q1, q2⟩ := player_yes hp
    rcases rng y 1 6 (by omega) (by omega) with h | h | ⟨w, hw1, hw, rfl⟩
    · have h' : y < 1 := h
      rw [if_pos (Or.inl h')] at hin
      refine ⟨29, ?_⟩
      unfold f_X5_chain f_X5_chain_b28 f_X6_chain f_X6_chain_b34
      exact ⟨1, 2, c, 0, mS M 0 2, bd_eq q1 (in_eq (by decide) (ip_eq h' rfl)), bd_eq q2 (in_eq (by decide) (bd_eq hin (ip_eq rfl (bd_eq (m_refused M 2) rfl)))), rfl, mem_3, W.fr (frC_rfl c) (frM_S M 2)⟩
    · have h' : 6 < y := h
      rw [if_pos (Or.inr h')] at hin
      refine ⟨29, ?_⟩
      unfold f_X5_chain f_X5_chain_b28 f_X6_chain f_X6_chain_b34
      refine ⟨1, 2, c, 0, mS M 0 2, bd_eq q1 (in_eq (by decide) ?_), bd_eq q2 (in_eq (by decide) (bd_eq hin (ip_eq rfl (bd_eq (m_refused M 2) rfl)))), rfl, mem_3, W.fr (frC_rfl c) (frM_S M 2)⟩
      by_cases h9 : y < 1
      · exact ip_eq h9 rfl
      · exact in_eq h9 (in_eq (lt_nle h') rfl)
    · rw [if_neg (show ¬ (_ < (1 : Int32) ∨ (6 : Int32) < _) from in_yes (l := 1) (u := 6) (by omega) hw1 hw (by omega))] at hin
      obtain ⟨D, rfl⟩ : ∃ D, w = D + 1 := ⟨w - 1, by omega⟩
      have hc := f_longest hn W.g (nI p) (m := D) (by omega)
      obtain ⟨k, tr, en, hk⟩ := m_longest (M := mS M 0 0) (G := c.2.2 0) W.r (p := p) (D := D) (by omega)
      have hcl : ∀ v, f_X0_longestChainOf n (c.2.2 0) (nI p) (nI (D + 1)) = some v → f_X5_chain n c (nI p) (nI (D + 1)) = some (0, c, v) := fun v hv => by
        unfold f_X5_chain
        refine bd_eq q1 (in_eq (by decide) (in_eq (fun q => ?_) (ip_eq ((geL_6 (by omega)).mpr hw) (bd_eq hv rfl))))
        have := (gtL_1 (j := D + 1) (by omega)).mp q
        omega
      refine ⟨k + 29, ?_⟩
      by_cases hph : (c.2.2 0).1 3 = 1
      · rw [if_pos hph] at hc
        refine ⟨0, 0, c, _, YY (mS M 0 0) tr en, hcl _ hc, ?_, rfl, mem_1, W.fr (frC_rfl c) (frM_YY M 0 tr en)⟩
        unfold f_X6_chain f_X6_chain_b34
        exact bd_eq q2 (in_eq (by decide) (bd_eq hin (in_eq (by decide) (bd_eq (m_refused M 0) (ip_eq rfl (ck_eq (by decide) (ip_eq (by rw [tnL_1]; exact W.r.r1.trans hph) (bd_eq (hk (k + 29) (by omega) (by omega)) rfl))))))))
      · rw [if_neg hph] at hc
        refine ⟨0, 0, c, _, mS M 0 0, hcl _ hc, ?_, rfl, mem_1, W.fr (frC_rfl c) (frM_S M 0)⟩
        unfold f_X6_chain f_X6_chain_b34
        exact bd_eq q2 (in_eq (by decide) (bd_eq hin (in_eq (by decide) (bd_eq (m_refused M 0) (ip_eq rfl (ck_eq (by decide) (in_eq (by rw [tnL_1]; exact fun z => hph (W.r.r1.symm.trans z)) rfl)))))))
