/-! PURE LEVEL: the longest chain of a hand; the model's search -/
def YY (M : MS) (tr en : Nat → Int32) : MS := mA (mA M 8 en) 7 tr
theorem YY_7 (M : MS) (tr en tr' : Nat → Int32) : mA (YY M tr en) 7 tr' = YY M tr' en := mA_mA _ 7 tr tr'
theorem YY_8 (M : MS) (tr en en' : Nat → Int32) : mA (YY M tr en) 8 en' = YY M tr en' := by
  unfold YY mA va_up
  refine Prod.ext rfl (funext fun i => ?_)
  show (if i = 8 then en' else if i = 7 then tr else if i = 8 then en else M.2 i) = if i = 7 then tr else if i = 8 then en' else M.2 i
  by_cases e : i = 8
  · subst e
    rfl
  · rw [if_neg e, if_neg e, if_neg e]
theorem YY_at7 (M : MS) (tr en : Nat → Int32) : (YY M tr en).2 7 = tr := rfl
theorem YY_at8 (M : MS) (tr en : Nat → Int32) : (YY M tr en).2 8 = en := rfl
theorem YY_at1 (M : MS) (tr en : Nat → Int32) : (YY M tr en).2 1 = M.2 1 := rfl
def inT (tr : Nat → Int32) (t : Nat) : Nat → Bool
  | 0 => false
  | k + 1 => inT tr t k || decide (tr k = nI t)
theorem inT_congr {tr tr' : Nat → Int32} {t : Nat} : ∀ d, (∀ i, i < d → tr' i = tr i) → inT tr' t d = inT tr t d := by
  intro d
  induction d with
  | zero => intro _; rfl
  | succ d ih =>
    intro h
    simp only [inT]
    rw [ih (fun i hi => h i (by omega)), h d (by omega)]
theorem m_isTried {n : Nat} (hn : 28 < n) (M : MS) {t d : Nat} (hd : d ≤ 7) : f_X6_isTried n M (nI t) (nI d) = some (if inT (M.2 7) t d then 1 else 0) := by
  unfold f_X6_isTried
  refine ex_eq (for2 d (fun j a => a = if inT (M.2 7) t j then 1 else 0) _ ?_ ?_ n 0 0 (by omega) (by omega) rfl)
  · rintro K a rfl
    unfold f_X6_isTried_h5
    refine ⟨_, ip_eq (nI_le (Nat.le_refl d) (by omega)) (ck_eq ?_ rfl), rfl⟩
    split
    · exact Or.inr rfl
    · exact Or.inl rfl
  · rintro K a j hj rfl
    left
    refine ⟨if inT (M.2 7) t (j + 1) then 1 else 0, ?_, rfl⟩
    unfold f_X6_isTried_h5 f_X6_isTried_b26 f_X6_isTried_b31
    refine in_eq (fun q => ?_) ?_
    · have := (nI_leI (by omega) (by omega)).mp q
      omega
    · rcases Bool.eq_false_or_eq_true (inT (M.2 7) t j) with hb | hb
      · have e1 : inT (M.2 7) t (j + 1) = true := by
          show (inT (M.2 7) t j || decide (M.2 7 j = nI t)) = true
          rw [hb]
          rfl
        refine in_eq (by rw [hb]; decide) ?_
        rw [e1, nI_1]
        rfl
      · have e1 : inT (M.2 7) t (j + 1) = decide (M.2 7 j = nI t) := by
          show (inT (M.2 7) t j || decide (M.2 7 j = nI t)) = _
          rw [hb]
          rfl
        refine ip_eq (by rw [hb]; rfl) (ck_eq (in_n (by omega) (by omega)) ?_)
        rw [e1, nI_clamp (by omega), nI_1]
        by_cases e : M.2 7 j = nI t
        · rw [if_pos e, decide_eq_true e]
          rfl
        · rw [if_neg e, decide_eq_false e]
          rfl
theorem m_fitsTo {n : Nat} (hn : 28 < n) {t : Nat} (ht : t < 28) (e : Int32) : f_X6_fitsTo n (nI t) e = some (if fitB t e then 1 else 0) := by
  unfold f_X6_fitsTo f_X6_fitsTo_b21 fitB
  by_cases h1 : e = -1
  · rw [if_pos h1, decide_eq_true (Or.inl h1)]
    rfl
  · rw [if_neg h1]
    refine bd_eq (m_lesser (by omega) ht) ?_
    by_cases h2 : nI (lo t) = e
    · rw [if_pos h2, decide_eq_true (Or.inr (Or.inl h2))]
      rfl
    · rw [if_neg h2]
      refine bd_eq (m_greater (by omega) ht) ?_
      by_cases h3 : nI (hi t) = e
      · rw [if_pos h3, decide_eq_true (Or.inr (Or.inr h3))]
        rfl
      · rw [if_neg h3, decide_eq_false (fun q => q.elim h1 (fun q => q.elim h2 h3))]
        rfl
theorem m_endB {n : Nat} (hn : 28 < n) {t : Nat} (ht : t < 28) (e : Int32) : f_X6_endBehind n (nI t) e = some (endB t e) := by
  unfold f_X6_endBehind endB
  by_cases h1 : e = -1
  · rw [if_pos h1, if_pos h1]
    exact bd_eq (m_greater (by omega) ht) rfl
  · rw [if_neg h1, if_neg h1]
    exact bd_eq (m_pips (by omega) ht) rfl
/-- the first of the last c tiles with q; 28 if there is none -/
def nx (q : Nat → Bool) : Nat → Nat
  | 0 => 28
  | c + 1 => if q (28 - (c + 1)) then 28 - (c + 1) else nx q c
theorem nx_ok (q : Nat → Bool) : ∀ c, c ≤ 28 → nx q c ≤ 28 ∧ 28 - c ≤ nx q c ∧ (nx q c < 28 → q (nx q c) = true) := by
  intro c
  induction c with
  | zero => intro _; exact ⟨Nat.le_refl 28, Nat.le_refl 28, fun h => absurd h (Nat.lt_irrefl 28)⟩
  | succ c ih =>
    intro hc
    obtain ⟨h1, h2, h3⟩ := ih (by omega)
    simp only [nx]
    split
    · rename_i h
      exact ⟨by omega, Nat.le_refl _, fun _ => h⟩
    · exact ⟨h1, by omega, h3⟩
theorem bf_nx (g : Nat → Nat) (q : Nat → Bool) : ∀ c, c ≤ 28 → bf g q c = if nx q c = 28 then 0 else max (g (nx q c)) (bf g q (28 - (nx q c + 1))) := by
  intro c
  induction c with
  | zero => intro _; exact (if_pos rfl).symm
  | succ c ih =>
    intro hc
    by_cases h : q (28 - (c + 1)) = true
    · have e : nx q (c + 1) = 28 - (c + 1) := if_pos h
      simp only [bf]
      rw [e, if_pos h, if_neg (by omega), show 28 - (28 - (c + 1) + 1) = c by omega]
    · have e : nx q (c + 1) = nx q c := if_neg h
      simp only [bf]
      rw [e, if_neg h, ← ih (by omega)]
      omega
/-- the hand without the tiles of the path; those that can be tried -/
def hP (h0 : Nat → Bool) (tr : Nat → Int32) (d : Nat) (t : Nat) : Bool := h0 t && !inT tr t d
def qP (h0 : Nat → Bool) (tr en : Nat → Int32) (d : Nat) (t : Nat) : Bool := hP h0 tr d t && fitB t (en d)
theorem m_nextTried {n : Nat} (hn : 28 < n) (M : MS) {h0 : Nat → Bool} {p d : Nat} (hh : ∀ t, t < 28 → h0 t = decide (M.2 1 (21 + t) = nI p)) (hd : d < 7) (x3 : Int32) : ∀ c t0 m, t0 + c = 28 → c < m → lo1 (f_X6_nextTried_h3 n M (nI p) x3 (nI d)) m (nI t0) = some (nI (nx (qP h0 (M.2 7) (M.2 8) d) c)) := by
  intro c
  induction c with
  | zero =>
    intro t0 m h1 h2
    obtain ⟨m', rfl⟩ : ∃ k, m = k + 1 := ⟨m - 1, by omega⟩
    have e : t0 = 28 := by omega
    subst e
    rw [lo1_s]
    exact ip_eq (by decide) rfl
  | succ c ih =>
    intro t0 m h1 h2
    obtain ⟨m', rfl⟩ : ∃ k, m = k + 1 := ⟨m - 1, by omega⟩
    have e : 28 - (c + 1) = t0 := by omega
    have h3 := ih (t0 + 1) m' (by omega) (by omega)
    have h4 := hh t0 (by omega)
    rw [lo1_s]
    generalize lo1 (f_X6_nextTried_h3 n M (nI p) x3 (nI d)) m' = K at *
    simp only [nx]
    rw [e]
    unfold f_X6_nextTried_h3 f_X6_nextTried_b47
    refine in_eq (fun q => ?_) (ck_eq (by rw [alL_21]; exact in_n (by omega) (by omega)) ?_)
    · have := (leL_28 (j := t0) (by omega)).mp q
      omega
    · rw [alL_21, nI_clamp (by omega)]
      by_cases h5 : M.2 1 (21 + t0) = nI p
      · rw [decide_eq_true h5] at h4
        refine ip_eq h5 (bd_eq (m_isTried hn M (by omega)) ?_)
        cases h6 : inT (M.2 7) t0 d with
        | true =>
          have h7 : qP h0 (M.2 7) (M.2 8) d t0 = false := by
            unfold qP hP
            rw [h6]
            simp
          rw [h7]
          refine in_eq (show ¬ (1 : Int32) = 0 by decide) ?_
          rw [nI_1, h3]
          rfl
        | false =>
          refine ip_eq rfl (ck_eq (in_n (by omega) (by omega)) (bd_eq (m_fitsTo hn (by omega) _) ?_))
          rw [nI_clamp (by omega)]
          cases h8 : fitB t0 (M.2 8 d) with
          | true =>
            have h7 : qP h0 (M.2 7) (M.2 8) d t0 = true := by
              unfold qP hP
              rw [h6, h4, h8]
              rfl
            rw [h7]
            exact in_eq (show ¬ (1 : Int32) = 0 by decide) rfl
          | false =>
            have h7 : qP h0 (M.2 7) (M.2 8) d t0 = false := by
              unfold qP hP
              rw [h8]
              simp
            rw [h7]
            refine ip_eq rfl ?_
            rw [nI_1, h3]
            rfl
      · rw [decide_eq_false h5] at h4
        have h7 : qP h0 (M.2 7) (M.2 8) d t0 = false := by
          unfold qP hP
          rw [h4]
          rfl
        rw [h7]
        refine in_eq h5 ?_
        rw [nI_1, h3]
        rfl
/-- one step that finds no tile -/
theorem m_back {n : Nat} (hn : 28 < n) {M : MS} {h0 : Nat → Bool} {p mx d c t0 mo : Nat} {tr en : Nat → Int32} (hh : ∀ t, t < 28 → h0 t = decide (M.2 1 (21 + t) = nI p)) (hmx : mx ≤ 6) (hd : d < mx) (hc : t0 + c = 28) (hmo : mo < mx) (ht : tr d + 1 = nI t0) (hx : nx (qP h0 tr en d) c = 28) (m : Nat) : lo3 (f_X6_longest_h23 n (nI p) (nI mx)) (m + 1) (YY M tr en) (nI mo) (nI d) = lo3 (f_X6_longest_h23 n (nI p) (nI mx)) m (YY M (upd tr d (nI 28)) en) (nI mo) (nI d + (-1)) := by
  have h1 := m_nextTried hn (YY M tr en) (h0 := h0) (p := p) (d := d) hh (by omega) (nI t0) c t0 n hc (by omega)
  rw [lo3_s]
  generalize lo3 (f_X6_longest_h23 n (nI p) (nI mx)) m = K at *
  unfold f_X6_longest_h23 f_X6_longest_b130
  refine in_eq (nI_pos (by omega)) (in_eq (fun q => ?_) (ck_eq (in_n (by omega) (by omega)) ?_))
  · have := (nI_leI (by omega) (by omega)).mp q
    omega
  · refine bd_eq (v := nI 28) ?_ (ck_eq (in_n (by omega) (by omega)) (ip_eq rfl ?_))
    · rw [nI_clamp (by omega), YY_at7, ht]
      exact h1.trans (by rw [YY_at7, YY_at8, hx])
    · rw [YY_7, nI_clamp (by omega)]
      rfl
/-- one step that finds a tile -/
def trB (tr : Nat → Int32) (d t1 : Nat) : Nat → Int32 := if 6 ≤ d + 1 then upd tr d (nI t1) else upd (upd tr d (nI t1)) (d + 1) (-1)
theorem m_deep {n : Nat} (hn : 28 < n) {M : MS} {h0 : Nat → Bool} {p mx d c t0 t1 mo : Nat} {tr en : Nat → Int32} (hh : ∀ t, t < 28 → h0 t = decide (M.2 1 (21 + t) = nI p)) (hmx : mx ≤ 6) (hd : d < mx) (hc : t0 + c = 28) (hmo : mo < mx) (ht : tr d + 1 = nI t0) (hx : nx (qP h0 tr en d) c = t1) (ht1 : t1 < 28) (m : Nat) : lo3 (f_X6_longest_h23 n (nI p) (nI mx)) (m + 1) (YY M tr en) (nI mo) (nI d) = lo3 (f_X6_longest_h23 n (nI p) (nI mx)) m (YY M (trB tr d t1) (upd en (d + 1) (endB t1 (en d)))) (nI (max mo (d + 1))) (nI (d + 1)) := by
  have h1 := m_nextTried hn (YY M tr en) (h0 := h0) (p := p) (d := d) hh (by omega) (nI t0) c t0 n hc (by omega)
  rw [lo3_s]
  generalize lo3 (f_X6_longest_h23 n (nI p) (nI mx)) m = K at *
  have hb : ∀ (mo' : Nat) (tr9 en9 : Nat → Int32), f_X6_longest_b113 n (nI p) (nI mx) K (YY M tr9 en9) (nI (d + 1)) (nI mo') = K (YY M (if 6 ≤ d + 1 then tr9 else upd tr9 (d + 1) (-1)) en9) (nI mo') (nI (d + 1)) := fun mo' tr9 en9 => by
    unfold f_X6_longest_b113 f_X6_longest_b130
    by_cases h6 : 6 ≤ d + 1
    · rw [if_pos h6]
      exact ip_eq ((leL_6 (by omega)).mpr h6) rfl
    · rw [if_neg h6]
      refine in_eq (fun q => h6 ((leL_6 (by omega)).mp q)) (ck_eq (in_n (by omega) (by omega)) ?_)
      rw [YY_7, nI_clamp (by omega), YY_at7]
  unfold f_X6_longest_h23
  refine in_eq (nI_pos (by omega)) (in_eq (fun q => ?_) (ck_eq (in_n (by omega) (by omega)) ?_))
  · have := (nI_leI (by omega) (by omega)).mp q
    omega
  · refine bd_eq (v := nI t1) ?_ (ck_eq (in_n (by omega) (by omega)) (in_eq (fun q => ?_) (ck_eq (in_n (by omega) (by omega)) (bd_eq (v := endB t1 (en d)) ?_ (ck_eq (by rw [adL_1]; exact in_n (by omega) (by omega)) ?_)))))
    · rw [nI_clamp (by omega), YY_at7, ht]
      exact h1.trans (by rw [YY_at7, YY_at8, hx])
    · have := nI_inj (a := t1) (b := 28) (by omega) (by omega) q
      omega
    · rw [YY_7, YY_at8, nI_clamp (by omega)]
      exact m_endB hn ht1 _
    · have hM : mA (mA (YY M tr en) 7 (upd ((YY M tr en).2 7) (nI d).toNatClampNeg (nI t1))) 8 (upd ((mA (YY M tr en) 7 (upd ((YY M tr en).2 7) (nI d).toNatClampNeg (nI t1))).2 8) (nI d + 1).toNatClampNeg (endB t1 (en d))) = YY M (upd tr d (nI t1)) (upd en (d + 1) (endB t1 (en d))) := by
        rw [YY_7, YY_at8, YY_at7, YY_8, nI_clamp (by omega), adL_1, nI_clamp (by omega)]
      rw [hM]
      unfold stt
      unfold trB
      by_cases h7 : d + 1 ≤ mo
      · refine ip_eq (by rw [nI_1]; exact nI_le h7 (by omega)) ?_
        rw [nI_1, hb, Nat.max_eq_left h7]
      · refine in_eq (fun q => h7 (by rw [nI_1] at q; exact (nI_leI (by omega) (by omega)).mp q)) ?_
        rw [nI_1, hb, Nat.max_eq_right (by omega)]
theorem trB_lt {tr : Nat → Int32} {d t1 i : Nat} (h : i < d) : trB tr d t1 i = tr i := by
  unfold trB
  split
  · rw [upd_ne (by omega)]
  · rw [upd_ne (by omega), upd_ne (by omega)]
theorem trB_at {tr : Nat → Int32} {d t1 : Nat} : trB tr d t1 d = nI t1 := by
  unfold trB
  split
  · rw [upd_eq rfl]
  · rw [upd_ne (by omega), upd_eq rfl]
theorem trB_next {tr : Nat → Int32} {d t1 : Nat} (h : d + 1 < 6) : trB tr d t1 (d + 1) = -1 := by
  unfold trB
  rw [if_neg (by omega), upd_eq rfl]
theorem hP_next {h0 : Nat → Bool} {tr tr' : Nat → Int32} {d t1 : Nat} (hlt : ∀ i, i < d → tr' i = tr i) (hat : tr' d = nI t1) (ht1 : t1 < 28) {u : Nat} (hu : u < 28) : hP h0 tr' (d + 1) u = rmv (hP h0 tr d) t1 u := by
  unfold hP rmv
  simp only [inT]
  rw [inT_congr d hlt, hat]
  have e : decide (nI t1 = nI u) = decide (u = t1) := by
    by_cases q : u = t1
    · rw [decide_eq_true q, decide_eq_true (by rw [q])]
    · rw [decide_eq_false q, decide_eq_false (fun z => q (nI_inj (by omega) (by omega) z).symm)]
  rw [e]
  cases h0 u <;> cases inT tr u d <;> cases decide (u = t1) <;> rfl
def gP (h0 : Nat → Bool) (tr en : Nat → Int32) (d D : Nat) (t : Nat) : Nat := 1 + cl D (rmv (hP h0 tr d) t) (endB t (en d))
theorem m_exit {n : Nat} {M : MS} {p mx d mo : Nat} {tr en : Nat → Int32} (hd : d < 100) (hmo : mx ≤ mo) (h2 : mo < 100) (m : Nat) : lo3 (f_X6_longest_h23 n (nI p) (nI mx)) (m + 1) (YY M tr en) (nI mo) (nI d) = some (YY M tr en, nI mo) := by
  rw [lo3_s]
  unfold f_X6_longest_h23
  exact in_eq (nI_pos (by omega)) (ip_eq (nI_le hmo (by omega)) rfl)
theorem m_dfs {M : MS} {h0 : Nat → Bool} {p mx : Nat} (hh : ∀ t, t < 28 → h0 t = decide (M.2 1 (21 + t) = nI p)) (hmx : mx ≤ 6) : ∀ D d, d + (D + 1) = mx → ∀ N c t0, c ≤ N → t0 + c = 28 → ∀ (tr en : Nat → Int32) (mo : Nat), mo < mx → d ≤ mo → tr d + 1 = nI t0 → ∃ (k : Nat) (tr' en' : Nat → Int32) (R : Nat), R = max mo (d + bf (gP h0 tr en d D) (qP h0 tr en d) c) ∧ (∀ i, i < d → tr' i = tr i) ∧ (∀ i, i ≤ d → en' i = en i) ∧ ∀ n, 28 < n → ∀ m, lo3 (f_X6_longest_h23 n (nI p) (nI mx)) (m + k) (YY M tr en) (nI mo) (nI d) = if R < mx then lo3 (f_X6_longest_h23 n (nI p) (nI mx)) m (YY M tr' en') (nI R) (nI d + (-1)) else some (YY M tr' en', nI R) := by
  intro D
  induction D with
  | zero =>
    intro d hdD N c t0 hcN hc tr en mo hmo hdm ht
    obtain ⟨x1, x2, x3⟩ := nx_ok (qP h0 tr en d) c (by omega)
    have hbf := bf_nx (gP h0 tr en d 0) (qP h0 tr en d) c (by omega)
    generalize hx : nx (qP h0 tr en d) c = t1 at *
    by_cases e : t1 = 28
    · rw [if_pos e] at hbf
      refine ⟨1, upd tr d (nI 28), en, mo, by rw [hbf]; omega, fun i hi => upd_ne (by omega), fun _ _ => rfl, fun n hn m => ?_⟩
      rw [if_pos hmo]
      exact m_back hn hh hmx (by omega) hc hmo ht (by rw [hx, e]) m
    · rw [if_neg e] at hbf
      have hle : bf (gP h0 tr en d 0) (qP h0 tr en d) (28 - (t1 + 1)) ≤ 1 := bf_le _ _ _ _ (by omega) (fun t _ _ _ => by
        show 1 + cl 0 _ _ ≤ 1
        simp [cl])
      have hg : gP h0 tr en d 0 t1 = 1 := by
        show 1 + cl 0 _ _ = 1
        simp [cl]
      refine ⟨2, trB tr d t1, upd en (d + 1) (endB t1 (en d)), max mo (d + 1), by omega, fun i hi => trB_lt hi, fun i hi => upd_ne (by omega), fun n hn m => ?_⟩
      rw [if_neg (by omega)]
      refine (m_deep hn hh hmx (by omega) hc hmo ht hx (by omega) (m + 1)).trans ?_
      exact m_exit (by omega) (by omega) (by omega) m
  | succ D ihD =>
    intro d hdD N
    induction N with
    | zero =>
      intro c t0 hcN hc tr en mo hmo hdm ht
      have hc0 : c = 0 := by omega
      subst hc0
      refine ⟨1, upd tr d (nI 28), en, mo, by simp only [bf]; omega, fun i hi => upd_ne (by omega), fun _ _ => rfl, fun n hn m => ?_⟩
      rw [if_pos hmo]
      exact m_back hn hh hmx (by omega) hc hmo ht rfl m
    | succ N ihN =>
      intro c t0 hcN hc tr en mo hmo hdm ht
      obtain ⟨x1, x2, x3⟩ := nx_ok (qP h0 tr en d) c (by omega)
      have hbf := bf_nx (gP h0 tr en d (D + 1)) (qP h0 tr en d) c (by omega)
      generalize hx : nx (qP h0 tr en d) c = t1 at *
      by_cases e : t1 = 28
      · rw [if_pos e] at hbf
        refine ⟨1, upd tr d (nI 28), en, mo, by rw [hbf]; omega, fun i hi => upd_ne (by omega), fun _ _ => rfl, fun n hn m => ?_⟩
        rw [if_pos hmo]
        exact m_back hn hh hmx (by omega) hc hmo ht (by rw [hx, e]) m
      · rw [if_neg e] at hbf
        have hle : bf (gP h0 tr en d (D + 1)) (qP h0 tr en d) (28 - (t1 + 1)) ≤ 1 + (D + 1) := bf_le _ _ _ _ (by omega) (fun t _ _ _ => by
          have := cl_le (D + 1) (rmv (hP h0 tr d) t) (endB t (en d))
          show 1 + cl (D + 1) _ _ ≤ _
          omega)
        obtain ⟨k1, tr1, en1, R1, r1, r2, r3, r4⟩ := ihD (d + 1) (by omega) 28 28 0 (Nat.le_refl _) (by omega) (trB tr d t1) (upd en (d + 1) (endB t1 (en d))) (max mo (d + 1)) (by omega) (by omega) (by rw [trB_next (by omega)]; decide)
        have hcl : bf (gP h0 (trB tr d t1) (upd en (d + 1) (endB t1 (en d))) (d + 1) D) (qP h0 (trB tr d t1) (upd en (d + 1) (endB t1 (en d))) (d + 1)) 28 = cl (D + 1) (hP h0 (trB tr d t1) (d + 1)) (endB t1 (en d)) := by
          unfold gP qP
          rw [upd_eq rfl]
          rfl
        have hg : gP h0 tr en d (D + 1) t1 = 1 + cl (D + 1) (hP h0 (trB tr d t1) (d + 1)) (endB t1 (en d)) := by
          unfold gP
          rw [cl_congr (D + 1) (hP h0 (trB tr d t1) (d + 1)) (rmv (hP h0 tr d) t1) _ (fun u hu => hP_next (fun i hi => trB_lt hi) trB_at (by omega) hu)]
        have hcle := cl_le (D + 1) (hP h0 (trB tr d t1) (d + 1)) (endB t1 (en d))
        rw [hcl] at r1
        generalize cl (D + 1) (hP h0 (trB tr d t1) (d + 1)) (endB t1 (en d)) = v at *
        by_cases hR : R1 < mx
        · have e1 : tr1 d = nI t1 := by rw [r2 d (by omega), trB_at]
          have e2 : ∀ i, i < d → tr1 i = tr i := fun i hi => by rw [r2 i (by omega), trB_lt hi]
          have e3 : ∀ i, i ≤ d → en1 i = en i := fun i hi => by rw [r3 i (by omega), upd_ne (by omega)]
          obtain ⟨k2, tr2, en2, R2, s1, s2, s3, s4⟩ := ihN (28 - (t1 + 1)) (t1 + 1) (by omega) (by omega) tr1 en1 R1 hR (by omega) (by rw [e1, nI_1])
          have hP1 : hP h0 tr1 d = hP h0 tr d := by
            funext u
            unfold hP
            rw [inT_congr d e2]
          have hq1 : qP h0 tr1 en1 d = qP h0 tr en d := by
            funext u
            unfold qP
            rw [hP1, e3 d (Nat.le_refl _)]
          have hg1 : gP h0 tr1 en1 d (D + 1) = gP h0 tr en d (D + 1) := by
            funext u
            unfold gP
            rw [hP1, e3 d (Nat.le_refl _)]
          rw [hq1, hg1] at s1
          refine ⟨k2 + k1 + 1, tr2, en2, R2, by omega, fun i hi => by rw [s2 i hi, e2 i hi], fun i hi => by rw [s3 i hi, e3 i hi], fun n hn m => ?_⟩
          refine (m_deep hn hh hmx (by omega) hc hmo ht hx (by omega) (m + (k2 + k1))).trans ?_
          rw [show m + (k2 + k1) = (m + k2) + k1 by omega, r4 n hn (m + k2), if_pos hR, nI_m1]
          exact s4 n hn m
        · refine ⟨k1 + 1, tr1, en1, R1, by omega, fun i hi => by rw [r2 i (by omega), trB_lt hi], fun i hi => by rw [r3 i (by omega), upd_ne (by omega)], fun n hn m => ?_⟩
          refine (m_deep hn hh hmx (by omega) hc hmo ht hx (by omega) (m + k1)).trans ?_
          rw [r4 n hn m, if_neg hR, if_neg hR]
theorem m_longest {M : MS} {G : GS} (R : RG G (M.2 1)) {p D : Nat} (hD : D < 6) : ∃ k tr en, ∀ n, 28 < n → k ≤ n → f_X6_longest n M (nI p) (nI (D + 1)) = some (YY M tr en, nI (cl (D + 1) (hnd G (nI p)) (G.2.1 1))) := by
  have hh : ∀ t, t < 28 → hnd G (nI p) t = decide (M.2 1 (21 + t) = nI p) := fun t ht => by
    rw [R.ho t ht]
    rfl
  obtain ⟨k, tr', en', R', h1, h2, h3, h4⟩ := m_dfs (mx := D + 1) hh (by omega) D 0 (by omega) 28 28 0 (Nat.le_refl _) (by omega) (upd (M.2 7) 0 (-1)) (upd (M.2 8) 0 (M.2 1 6)) 0 (by omega) (Nat.le_refl _) (by rw [upd_eq rfl]; decide)
  have hcl : bf (gP (hnd G (nI p)) (upd (M.2 7) 0 (-1)) (upd (M.2 8) 0 (M.2 1 6)) 0 D) (qP (hnd G (nI p)) (upd (M.2 7) 0 (-1)) (upd (M.2 8) 0 (M.2 1 6)) 0) 28 = cl (D + 1) (hnd G (nI p)) (G.2.1 1) := by
    have e : hP (hnd G (nI p)) (upd (M.2 7) 0 (-1)) 0 = hnd G (nI p) := by
      funext u
      unfold hP
      simp [inT]
    unfold gP qP
    rw [upd_eq rfl, e, R.r6]
    rfl
  have hle := cl_le (D + 1) (hnd G (nI p)) (G.2.1 1)
  rw [hcl] at h1
  have hR : R' = cl (D + 1) (hnd G (nI p)) (G.2.1 1) := by omega
  refine ⟨k + 2, tr', en', fun n hn hk => ?_⟩
  have h5 := h4 n hn (n - k)
  rw [Nat.sub_add_cancel (by omega)] at h5
  unfold f_X6_longest stt
  refine ck_eq (by decide) (ck_eq (by decide) (ck_eq (by decide) ?_))
  refine Eq.trans (show _ = lo3 (f_X6_longest_h23 n (nI p) (nI (D + 1))) n (YY M (upd (M.2 7) 0 (-1)) (upd (M.2 8) 0 (M.2 1 6))) (nI 0) (nI 0) from rfl) (h5.trans ?_)
  rw [← hR]
  by_cases hlt : R' < D + 1
  · rw [if_pos hlt]
    obtain ⟨m, hm⟩ : ∃ m, n - k = m + 1 := ⟨n - k - 1, by omega⟩
    rw [hm, lo3_s]
    exact ip_eq (by decide) rfl
  · rw [if_neg hlt]
