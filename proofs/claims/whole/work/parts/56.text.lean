/-! PURE LEVEL: the text; its figures -/
def TX (M : MS) (o p : Int32) (r s : Nat → Int32) : MS := MM (mS (mS M 4 o) 3 p) r s
theorem mS_mS (M : MS) (k : Nat) (v w : Int32) : mS (mS M k v) k w = mS M k w := by
  unfold mS
  refine Prod.ext (funext fun j => ?_) rfl
  show upd (upd M.1 k v) k w j = upd M.1 k w j
  by_cases e : j = k
  · rw [upd_eq e, upd_eq e]
  · rw [upd_ne e, upd_ne e, upd_ne e]
theorem mS_swap (M : MS) {k l : Nat} (h : k ≠ l) (v w : Int32) : mS (mS M k v) l w = mS (mS M l w) k v := by
  unfold mS
  refine Prod.ext (funext fun j => ?_) rfl
  show upd (upd M.1 k v) l w j = upd (upd M.1 l w) k v j
  by_cases e : j = k
  · subst e
    rw [upd_ne h, upd_eq rfl, upd_eq rfl]
  · by_cases e2 : j = l
    · rw [upd_eq e2, upd_ne e, upd_eq e2]
    · rw [upd_ne e2, upd_ne e, upd_ne e, upd_ne e2]
theorem mS_MM (M : MS) (r s : Nat → Int32) (k : Nat) (v : Int32) : mS (MM M r s) k v = MM (mS M k v) r s := rfl
theorem TX_3 (M : MS) (o p p' : Int32) (r s : Nat → Int32) : mS (TX M o p r s) 3 p' = TX M o p' r s := by
  unfold TX
  rw [mS_MM, mS_mS]
theorem TX_4 (M : MS) (o p o' : Int32) (r s : Nat → Int32) : mS (TX M o p r s) 4 o' = TX M o' p r s := by
  unfold TX
  rw [mS_MM, mS_swap _ (by decide), mS_mS]
theorem TX_2 (M : MS) (o p : Int32) (r s s' : Nat → Int32) : mA (TX M o p r s) 2 s' = TX M o p r s' := MM_2 _ r s s'
theorem TX_62 (M : MS) (o p : Int32) (r s r' s' : Nat → Int32) : mA (mA (TX M o p r s) 6 r') 2 s' = TX M o p r' s' := MM_62 _ r s r' s'
theorem TX_a3 (M : MS) (o p : Int32) (r s : Nat → Int32) : (TX M o p r s).1 3 = p := rfl
theorem TX_a4 (M : MS) (o p : Int32) (r s : Nat → Int32) : (TX M o p r s).1 4 = o := rfl
theorem TX_a1 (M : MS) (o p : Int32) (r s : Nat → Int32) : (TX M o p r s).1 1 = M.1 1 := rfl
theorem TX_b0 (M : MS) (o p : Int32) (r s : Nat → Int32) : (TX M o p r s).2 0 = M.2 0 := rfl
theorem TX_b2 (M : MS) (o p : Int32) (r s : Nat → Int32) : (TX M o p r s).2 2 = s := rfl
/-- a text of L characters, in both -/
def tX (L : Nat) (t : Nat → Int32) (M : MS) : Prop :=
  (L ≤ 120) ∧
  (M.1 1 = nI L) ∧
  (∀ i, i < L → M.2 0 i = t i) ∧
  (∀ i, i < L → ∃ v, v < 256 ∧ t i = nI v)
theorem tX.l {L : Nat} {t : Nat → Int32} {M : MS} (h : tX L t M) : L ≤ 120 := h.1
theorem tX.m1 {L : Nat} {t : Nat → Int32} {M : MS} (h : tX L t M) : M.1 1 = nI L := h.2.1
theorem tX.m0 {L : Nat} {t : Nat → Int32} {M : MS} (h : tX L t M) : ∀ i, i < L → M.2 0 i = t i := h.2.2.1
theorem tX.ch {L : Nat} {t : Nat → Int32} {M : MS} (h : tX L t M) : ∀ i, i < L → ∃ v, v < 256 ∧ t i = nI v := h.2.2.2
theorem tX.mk {L : Nat} {t : Nat → Int32} {M : MS} (l : L ≤ 120) (m1 : M.1 1 = nI L) (m0 : ∀ i, i < L → M.2 0 i = t i) (ch : ∀ i, i < L → ∃ v, v < 256 ∧ t i = nI v) : tX L t M := ⟨l, m1, m0, ch⟩
def dG (L : Nat) (t : Nat → Int32) (p v : Nat) : Prop := p < L ∧ v ≤ 9 ∧ t p = nI (48 + v)
def nD (L : Nat) (t : Nat → Int32) (p : Nat) : Prop := p = L ∨ (p < L ∧ (t p - 48 < 0 ∨ 9 < t p - 48))
theorem dig_or {L : Nat} {t : Nat → Int32} {M : MS} (X : tX L t M) {p : Nat} (hp : p ≤ L) : (∃ v, dG L t p v) ∨ nD L t p := by
  by_cases h : p = L
  · exact Or.inr (Or.inl h)
  · obtain ⟨c, hc, e⟩ := X.ch p (by omega)
    by_cases h1 : 48 ≤ c
    · have e2 : t p - 48 = nI (c - 48) := by rw [e, suL_48 h1]
      by_cases h2 : c ≤ 57
      · exact Or.inl ⟨c - 48, by omega, by omega, by rw [e, show 48 + (c - 48) = c by omega]⟩
      · refine Or.inr (Or.inr ⟨by omega, Or.inr ?_⟩)
        rw [e2]
        exact nI_lt (a := 9) (by omega) (by omega)
    · refine Or.inr (Or.inr ⟨by omega, Or.inl ?_⟩)
      rw [e]
      exact pk_sneg (a := c) (b := 48) (by omega) (by omega)
theorem dig_sub {L : Nat} {t : Nat → Int32} {p v : Nat} (h : dG L t p v) : t p - 48 = nI v := by
  rw [h.2.2, suL_48 (by omega), Nat.add_sub_cancel_left]
theorem fig_nd {n L p v u : Nat} {t : Nat → Int32} {M : MS} (X : tX L t M) (x1 x2 lw hg : Int32) (K : MS → Int32 → Int32 → Option (MS × Int32)) (o : Int32) (r s : Nat → Int32) (h : nD L t p) (h1 : ¬ x1 = -1) (hu : 0 < u) (hu2 : u < 100) : f_X6_figures_h16 n x1 x2 lw hg K (TX M o (nI p) r s) (nI v) (nI u) = some (TX M o (nI p) r s, -1) := by
  have hL := X.l
  unfold f_X6_figures_h16 f_X6_figures_b53
  refine in_eq (nI_nle hu (by omega)) (in_eq h1 ?_)
  rcases h with h | ⟨h, h2⟩
  · refine ip_eq ?_ (bd_eq (v := 0) (by decide) (ip_eq rfl rfl))
    show M.1 1 ≤ nI p
    rw [X.m1]
    exact nI_le (by omega) (by omega)
  · refine in_eq (fun q => ?_) (ck_eq (in_n (by omega) (by omega)) (bd_eq (v := 0) ?_ (ip_eq rfl rfl)))
    · have q' : M.1 1 ≤ nI p := q
      rw [X.m1] at q'
      have := (nI_leI (by omega) (by omega)).mp q'
      omega
    · show f_X6_in (M.2 0 (nI p).toNatClampNeg - 48).toInt64 0 9 = some 0
      rw [nI_clamp (by omega), X.m0 p h, m_inL _ 0 9 0 9 (by decide) (by decide), if_pos h2]
theorem fig_d {n L p v u d : Nat} {t : Nat → Int32} {M : MS} (X : tX L t M) (x1 x2 lw hg : Int32) (K : MS → Int32 → Int32 → Option (MS × Int32)) (o : Int32) (r s : Nat → Int32) (h : dG L t p d) (h1 : ¬ x1 = -1) (hu : 0 < u) (hu2 : u < 100) (hv : v < 1000) : f_X6_figures_h16 n x1 x2 lw hg K (TX M o (nI p) r s) (nI v) (nI u) = if hg < nI (v + d * u) then some (TX M o (nI p) r s, -1) else if lw ≤ nI (v + d * u + u - 1) then K (TX M o (nI (p + 1)) r s) (nI (v + d * u)) (nI (u / 10)) else some (TX M o (nI p) r s, -1) := by
  have hL := X.l
  obtain ⟨g1, g2, g3⟩ := h
  have hdu : d * u ≤ 9 * 100 := Nat.mul_le_mul g2 (by omega)
  have e0 : M.2 0 (nI p).toNatClampNeg - 48 = nI d := by
    rw [nI_clamp (by omega), X.m0 p g1]
    exact dig_sub ⟨g1, g2, g3⟩
  have e1 : nI v + nI d * nI u = nI (v + d * u) := by rw [nI_mul, nI_add]
  have e2 : nI v + nI d * nI u + nI u - 1 = nI (v + d * u + u - 1) := by rw [e1, nI_add, suL_1 (by omega)]
  have e3 : nI u / (10 : Int32) = nI (u / 10) := jdiv_n (d := 10) (by omega) (by decide) (by decide)
  unfold f_X6_figures_h16 f_X6_figures_b53
  refine in_eq (nI_nle hu (by omega)) (in_eq h1 (in_eq (fun q => ?_) (ck_eq (in_n (by omega) (by omega)) (bd_eq (v := 1) ?_ (in_eq (by decide) ?_)))))
  · have q' : M.1 1 ≤ nI p := q
    rw [X.m1] at q'
    have := (nI_leI (by omega) (by omega)).mp q'
    omega
  · show f_X6_in (M.2 0 (nI p).toNatClampNeg - 48).toInt64 0 9 = some 1
    rw [e0, m_inL _ 0 9 0 9 (by decide) (by decide), if_neg]
    rintro (q | q)
    · exact nI_pos (by omega) q
    · have := (nI_ltI (a := 9) (b := d) (by omega) (by omega)).mp q
      omega
  · show (if hg < nI v + (M.2 0 (nI p).toNatClampNeg - 48) * nI u then _ else if lw ≤ nI v + (M.2 0 (nI p).toNatClampNeg - 48) * nI u + nI u - 1 then chk _ (K (mS (TX M o (nI p) r s) 3 ((TX M o (nI p) r s).1 3 + 1)) (nI v + (M.2 0 (nI p).toNatClampNeg - 48) * nI u) (nI u / 10)) else _) = _
    rw [e0, e1]
    by_cases h5 : hg < nI (v + d * u)
    · rw [if_pos h5, if_pos h5]
    · rw [if_neg h5, if_neg h5]
      rw [e1] at e2
      rw [e2]
      by_cases h6 : lw ≤ nI (v + d * u + u - 1)
      · rw [if_pos h6, if_pos h6, chk_t (by decide), TX_a3, nI_1, TX_3, e3]
      · rw [if_neg h6, if_neg h6]
theorem fig_0 {n : Nat} (x1 x2 lw hg : Int32) (K : MS → Int32 → Int32 → Option (MS × Int32)) (M : MS) (v : Int32) (h1 : ¬ x1 = -1) : f_X6_figures_h16 n x1 x2 lw hg K M v (nI 0) = some (M, v) := by
  unfold f_X6_figures_h16 f_X6_figures_b122
  exact ip_eq (by decide) (in_eq h1 rfl)
/-- the players of a d -/
theorem fig_1 {n L p : Nat} (hn : 28 < n) {t : Nat → Int32} {M : MS} (X : tX L t M) (o : Int32) (r s : Nat → Int32) : (nD L t p → f_X6_figures n (TX M o (nI p) r s) 0 1 2 4 = some (TX M o (nI p) r s, -1)) ∧
    (∀ v, dG L t p v → f_X6_figures n (TX M o (nI p) r s) 0 1 2 4 = if 2 ≤ v ∧ v ≤ 4 then some (TX M o (nI (p + 1)) r s, nI v) else some (TX M o (nI p) r s, -1)) := by
  obtain ⟨n', e⟩ : ∃ k, n = k + 1 + 1 := ⟨n - 2, by omega⟩
  unfold f_X6_figures f_X6_figures_b14
  refine ⟨fun h => in_eq (by decide) ?_, fun v h => in_eq (by decide) ?_⟩
  · have := fig_nd (n := n) (v := 0) (u := 1) X 0 1 2 4 (lo3 (f_X6_figures_h16 n 0 1 2 4) (n' + 1)) o r s h (by decide) (by omega) (by omega)
    rw [show lo3 (f_X6_figures_h16 n 0 1 2 4) n = lo3 (f_X6_figures_h16 n 0 1 2 4) (n' + 1 + 1) by rw [← e], lo3_s]
    exact this
  · have h9 := h.2.1
    have := fig_d (n := n) (v := 0) (u := 1) X 0 1 2 4 (lo3 (f_X6_figures_h16 n 0 1 2 4) (n' + 1)) o r s h (by decide) (by omega) (by omega) (by omega)
    rw [show lo3 (f_X6_figures_h16 n 0 1 2 4) n = lo3 (f_X6_figures_h16 n 0 1 2 4) (n' + 1 + 1) by rw [← e], lo3_s]
    refine Eq.trans this ?_
    rw [show 0 + v * 1 = v by omega, show v + 1 - 1 = v by omega]
    by_cases h1 : 2 ≤ v ∧ v ≤ 4
    · rw [if_pos h1]
      refine in_eq (fun q => ?_) (ip_eq ?_ ?_)
      · have := (ltL_4 (j := v) (by omega)).mp q
        omega
      · exact (leL_2 (by omega)).mpr h1.1
      · rw [lo3_s]
        exact fig_0 0 1 2 4 _ _ _ (by decide)
    · rw [if_neg h1]
      by_cases h2 : 4 < v
      · exact ip_eq ((ltL_4 (by omega)).mpr h2) rfl
      · refine in_eq (fun q => h2 ((ltL_4 (by omega)).mp q)) (in_eq (fun q => ?_) rfl)
        have := (leL_2 (j := v) (by omega)).mp q
        omega
/-- two figures -/
theorem fig_2 {n L p h : Nat} (hn : 28 < n) {t : Nat → Int32} {M : MS} (X : tX L t M) (o : Int32) (r s : Nat → Int32) {a : Int32} (ha : ¬ a = -1) (hh : h < 100) :
    (nD L t p → f_X6_figures n (TX M o (nI p) r s) a 2 0 (nI h) = some (TX M o (nI p) r s, -1)) ∧
    (∀ v, dG L t p v → h < 10 * v → f_X6_figures n (TX M o (nI p) r s) a 2 0 (nI h) = some (TX M o (nI p) r s, -1)) ∧
    (∀ v, dG L t p v → 10 * v ≤ h → nD L t (p + 1) → f_X6_figures n (TX M o (nI p) r s) a 2 0 (nI h) = some (TX M o (nI (p + 1)) r s, -1)) ∧
    (∀ v w, dG L t p v → 10 * v ≤ h → dG L t (p + 1) w → f_X6_figures n (TX M o (nI p) r s) a 2 0 (nI h) = if 10 * v + w ≤ h then some (TX M o (nI (p + 2)) r s, nI (10 * v + w)) else some (TX M o (nI (p + 1)) r s, -1)) := by
  obtain ⟨n', e⟩ : ∃ k, n = k + 1 + 1 + 1 := ⟨n - 3, by omega⟩
  have hlo : lo3 (f_X6_figures_h16 n a 2 0 (nI h)) n = lo3 (f_X6_figures_h16 n a 2 0 (nI h)) (n' + 1 + 1 + 1) := by rw [← e]
  unfold f_X6_figures f_X6_figures_b14
  refine ⟨fun h1 => ip_eq rfl ?_, fun v h1 h2 => ip_eq rfl ?_, fun v h1 h2 h3 => ip_eq rfl ?_, fun v w h1 h2 h3 => ip_eq rfl ?_⟩
  · rw [hlo, lo3_s]
    exact fig_nd (v := 0) (u := 10) X a 2 0 (nI h) _ o r s h1 ha (by omega) (by omega)
  · have h9 := h1.2.1
    rw [hlo, lo3_s]
    refine Eq.trans (fig_d (v := 0) (u := 10) X a 2 0 (nI h) _ o r s h1 ha (by omega) (by omega) (by omega)) ?_
    exact ip_eq (nI_lt (by omega) (by omega)) rfl
  · have h9 := h1.2.1
    rw [hlo, lo3_s]
    refine Eq.trans (fig_d (v := 0) (u := 10) X a 2 0 (nI h) _ o r s h1 ha (by omega) (by omega) (by omega)) ?_
    refine in_eq (nI_nlt (by omega) (by omega)) (ip_eq (nI_pos' (by omega)) ?_)
    rw [lo3_s]
    exact fig_nd (v := 0 + v * 10) (u := 1) X a 2 0 (nI h) _ o r s h3 ha (by omega) (by omega)
  · have h9 := h1.2.1
    have h10 := h3.2.1
    rw [hlo, lo3_s]
    refine Eq.trans (fig_d (v := 0) (u := 10) X a 2 0 (nI h) _ o r s h1 ha (by omega) (by omega) (by omega)) ?_
    refine in_eq (nI_nlt (by omega) (by omega)) (ip_eq (nI_pos' (by omega)) ?_)
    rw [lo3_s]
    refine Eq.trans (fig_d (v := 0 + v * 10) (u := 1) X a 2 0 (nI h) _ o r s h3 ha (by omega) (by omega) (by omega)) ?_
    rw [show 0 + v * 10 + w * 1 = 10 * v + w by omega]
    by_cases h4 : 10 * v + w ≤ h
    · rw [if_pos h4]
      refine in_eq (nI_nlt h4 (by omega)) (ip_eq (nI_pos' (by omega)) ?_)
      rw [lo3_s]
      exact fig_0 a 2 0 (nI h) _ _ _ ha
    · rw [if_neg h4]
      exact ip_eq (nI_lt (by omega) (by omega)) rfl
theorem fig_m1 {n : Nat} (hn : 28 < n) (M : MS) (lw hg : Int32) : f_X6_figures n M (-1) 2 lw hg = some (M, -1) := by
  obtain ⟨n', e⟩ : ∃ k, n = k + 1 := ⟨n - 1, by omega⟩
  unfold f_X6_figures f_X6_figures_b14
  refine ip_eq rfl ?_
  rw [show lo3 (f_X6_figures_h16 n (-1) 2 lw hg) n = lo3 (f_X6_figures_h16 n (-1) 2 lw hg) (n' + 1) by rw [← e], lo3_s]
  unfold f_X6_figures_h16 f_X6_figures_b122
  exact in_eq (by decide) (ip_eq rfl (ip_eq rfl rfl))
theorem m_done (M : MS) (o p : Int32) (r s : Nat → Int32) (x : Int32) : f_X6_done (TX M o p r s) x = some (TX M (if x = 0 then o + 1 else o) p r s, 1) := by
  unfold f_X6_done f_X6_done_b14
  by_cases h : x = 0
  · rw [if_pos h, if_pos h, TX_4, TX_a4]
  · rw [if_neg h, if_neg h, TX_4, TX_a4, Int32.add_zero]
