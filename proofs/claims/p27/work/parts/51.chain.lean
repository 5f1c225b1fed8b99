/-! PURE LEVEL: the longest chain of a hand; the game's side -/
def rmv (h : Nat → Bool) (t : Nat) : Nat → Bool := fun u => h u && !decide (u = t)
def fitB (t : Nat) (e : Int32) : Bool := decide (e = -1 ∨ nI (lo t) = e ∨ nI (hi t) = e)
def endB (t : Nat) (e : Int32) : Int32 := if e = -1 then nI (hi t) else nI (lo t + hi t) - e
/-- the greatest of the g t for the last c tiles t with q t; 0 if there is none -/
def bf (g : Nat → Nat) (q : Nat → Bool) : Nat → Nat
  | 0 => 0
  | c + 1 => max (if q (28 - (c + 1)) then g (28 - (c + 1)) else 0) (bf g q c)
def cl : Nat → (Nat → Bool) → Int32 → Nat
  | 0, _, _ => 0
  | m + 1, h, e => bf (fun t => 1 + cl m (rmv h t) (endB t e)) (fun t => h t && fitB t e) 28
theorem bf_ge (g : Nat → Nat) (q : Nat → Bool) : ∀ c, c ≤ 28 → ∀ t, 28 - c ≤ t → t < 28 → q t = true → g t ≤ bf g q c := by
  intro c
  induction c with
  | zero => intro _ t h1 h2; omega
  | succ c ih =>
    intro hc t h1 h2 h3
    simp only [bf]
    by_cases e : t = 28 - (c + 1)
    · subst e
      rw [if_pos h3]
      omega
    · have := ih (by omega) t (by omega) h2 h3
      omega
theorem bf_le (g : Nat → Nat) (q : Nat → Bool) (X : Nat) : ∀ c, c ≤ 28 → (∀ t, 28 - c ≤ t → t < 28 → q t = true → g t ≤ X) → bf g q c ≤ X := by
  intro c
  induction c with
  | zero => intro _ _; exact Nat.zero_le _
  | succ c ih =>
    intro hc h
    have h1 := ih (by omega) (fun t h2 h3 h4 => h t (by omega) h3 h4)
    simp only [bf]
    split
    · rename_i h5
      have := h (28 - (c + 1)) (Nat.le_refl _) (by omega) h5
      omega
    · omega
theorem cl_le : ∀ m h e, cl m h e ≤ m := by
  intro m
  induction m with
  | zero => intro h e; exact Nat.le_refl 0
  | succ m ih =>
    intro h e
    exact bf_le _ _ _ 28 (Nat.le_refl _) (fun t _ _ _ => by
      have := ih (rmv h t) (endB t e)
      show 1 + cl m (rmv h t) (endB t e) ≤ m + 1
      omega)
theorem bf_congr {g g' : Nat → Nat} {q q' : Nat → Bool} : ∀ c, c ≤ 28 → (∀ t, t < 28 → q t = q' t) → (∀ t, t < 28 → g t = g' t) → bf g q c = bf g' q' c := by
  intro c
  induction c with
  | zero => intro _ _ _; rfl
  | succ c ih =>
    intro hc h1 h2
    simp only [bf]
    rw [ih (by omega) h1 h2, h1 _ (by omega), h2 _ (by omega)]
theorem cl_congr : ∀ m (h h' : Nat → Bool) e, (∀ t, t < 28 → h t = h' t) → cl m h e = cl m h' e := by
  intro m
  induction m with
  | zero => intro h h' e _; rfl
  | succ m ih =>
    intro h h' e hh
    refine bf_congr 28 (Nat.le_refl _) (fun t ht => by rw [hh t ht]) (fun t ht => ?_)
    show 1 + cl m (rmv h t) (endB t e) = 1 + cl m (rmv h' t) (endB t e)
    rw [ih (rmv h t) (rmv h' t) _ (fun u hu => by
      unfold rmv
      rw [hh u hu])]
/-- the greatest of the first ones -/
def bu (g : Nat → Nat) (q : Nat → Bool) : Nat → Nat
  | 0 => 0
  | t + 1 => max (bu g q t) (if q t then g t else 0)
theorem bu_ge (g : Nat → Nat) (q : Nat → Bool) : ∀ c t, t < c → q t = true → g t ≤ bu g q c := by
  intro c
  induction c with
  | zero => intro t h; omega
  | succ c ih =>
    intro t h1 h2
    simp only [bu]
    by_cases e : t = c
    · subst e
      rw [if_pos h2]
      omega
    · have := ih t (by omega) h2
      omega
theorem bu_le (g : Nat → Nat) (q : Nat → Bool) (X : Nat) : ∀ c, (∀ t, t < c → q t = true → g t ≤ X) → bu g q c ≤ X := by
  intro c
  induction c with
  | zero => intro _; exact Nat.zero_le _
  | succ c ih =>
    intro h
    have h1 := ih (fun t h2 h3 => h t (by omega) h3)
    simp only [bu]
    split
    · rename_i h5
      have := h c (by omega) h5
      omega
    · omega
theorem bu_mono (g : Nat → Nat) (q : Nat → Bool) {a : Nat} : ∀ b, a ≤ b → bu g q a ≤ bu g q b := by
  intro b
  induction b with
  | zero => intro h; rw [show a = 0 by omega]; exact Nat.le_refl _
  | succ b ih =>
    intro h
    by_cases e : a = b + 1
    · subst e; exact Nat.le_refl _
    · have := ih (by omega)
      simp only [bu]
      omega
/-! tiles with a half of their own -/
def tw (a b : Nat) : Nat := if a ≤ b then a * (15 - a) / 2 + (b - a) else b * (15 - b) / 2 + (a - b)
theorem tw_all : (List.range 7).all (fun a => (List.range 7).all (fun b => decide (f_X5_tileWith (nI a) (nI b) = some (nI (tw a b)) ∧ tw a b < 28 ∧ fitB (tw a b) (nI a) = true ∧ endB (tw a b) (nI a) = nI b))) = true := by decide +kernel
theorem tw_ok {a b : Nat} (ha : a < 7) (hb : b < 7) : f_X5_tileWith (nI a) (nI b) = some (nI (tw a b)) ∧ tw a b < 28 ∧ fitB (tw a b) (nI a) = true ∧ endB (tw a b) (nI a) = nI b := tab2 tw_all ha hb
theorem fit_all : (List.range 28).all (fun t => (List.range 7).all (fun a => decide (fitB t (nI a) = true → lo t + hi t - a < 7 ∧ t = tw a (lo t + hi t - a)))) = true := by decide +kernel
theorem fit_ok {t a : Nat} (ht : t < 28) (ha : a < 7) (h : fitB t (nI a) = true) : lo t + hi t - a < 7 ∧ t = tw a (lo t + hi t - a) := tab2 fit_all ht ha h
/-- a chain by the other half of its first tile -/
theorem cl_other (m : Nat) (h : Nat → Bool) {e : Nat} (he : e < 7) : bu (fun o => 1 + cl m (rmv h (tw e o)) (nI o)) (fun o => h (tw e o)) 7 = cl (m + 1) h (nI e) := by
  apply Nat.le_antisymm
  · refine bu_le _ _ _ 7 (fun o ho hq => ?_)
    obtain ⟨h1, h2, h3, h4⟩ := tw_ok he ho
    have h5 := bf_ge (fun t => 1 + cl m (rmv h t) (endB t (nI e))) (fun t => h t && fitB t (nI e)) 28 (Nat.le_refl _) (tw e o) (by omega) h2 (by
      show (h (tw e o) && fitB (tw e o) (nI e)) = true
      rw [hq, h3]
      rfl)
    show 1 + cl m (rmv h (tw e o)) (nI o) ≤ cl (m + 1) h (nI e)
    have h6 : (1 + cl m (rmv h (tw e o)) (endB (tw e o) (nI e))) ≤ cl (m + 1) h (nI e) := h5
    rwa [h4] at h6
  · refine bf_le _ _ _ 28 (Nat.le_refl _) (fun t _ ht hq => ?_)
    rw [Bool.and_eq_true] at hq
    obtain ⟨h1, h2⟩ := fit_ok ht he hq.2
    have h3 := bu_ge (fun o => 1 + cl m (rmv h (tw e o)) (nI o)) (fun o => h (tw e o)) 7 (lo t + hi t - e) h1 (by
      show h (tw e (lo t + hi t - e)) = true
      rw [← h2]
      exact hq.1)
    have h4 := (tw_ok he h1).2.2.2
    rw [← h2] at h4
    show 1 + cl m (rmv h t) (endB t (nI e)) ≤ _
    rw [h4]
    have h5 : 1 + cl m (rmv h (tw e (lo t + hi t - e))) (nI (lo t + hi t - e)) ≤ bu (fun o => 1 + cl m (rmv h (tw e o)) (nI o)) (fun o => h (tw e o)) 7 := h3
    rwa [← h2] at h5
theorem cl_any (m : Nat) (h : Nat → Bool) : bu (fun t => 1 + cl m (rmv h t) (nI (hi t))) h 28 = cl (m + 1) h (-1) := by
  have he : ∀ t, endB t (-1) = nI (hi t) := fun t => if_pos rfl
  have hf : ∀ t, fitB t (-1) = true := fun t => decide_eq_true (Or.inl rfl)
  apply Nat.le_antisymm
  · refine bu_le _ _ _ 28 (fun t ht hq => ?_)
    have h5 := bf_ge (fun t => 1 + cl m (rmv h t) (endB t (-1))) (fun t => h t && fitB t (-1)) 28 (Nat.le_refl _) t (by omega) ht (by
      show (h t && fitB t (-1)) = true
      rw [hq, hf]
      rfl)
    have h6 : (1 + cl m (rmv h t) (endB t (-1))) ≤ cl (m + 1) h (-1) := h5
    rwa [he] at h6
  · refine bf_le _ _ _ 28 (Nat.le_refl _) (fun t _ ht hq => ?_)
    rw [Bool.and_eq_true] at hq
    show 1 + cl m (rmv h t) (endB t (-1)) ≤ _
    rw [he]
    exact bu_ge (fun t => 1 + cl m (rmv h t) (nI (hi t))) h 28 t ht hq.1
theorem bit_rmv {x : Int32} {h : Nat → Bool} (hx : ∀ t, t < 28 → bt x t = h t) {t : Nat} (ht : t < 28) : ∀ u, u < 28 → bt (x &&& ((jshl (1 : Int32) (nI t)) ^^^ (-1 : Int32))) u = rmv h t u := fun u hu => by
  rw [bt_clr x (by omega) (by omega), hx u hu]
  rfl
theorem f_behind {n : Nat} (hn : 28 < n) : ∀ m fu, m < fu → ∀ (x : Int32) (h : Nat → Bool) (e : Nat), (∀ t, t < 28 → bt x t = h t) → e < 7 → m < 100 → lo3 (f_X0_mostBehind_R n) fu x (nI e) (nI m) = some (nI (cl m h (nI e))) := by
  intro m
  induction m with
  | zero =>
    intro fu hfu x h e hx he _
    obtain ⟨fu', rfl⟩ : ∃ k, fu = k + 1 := ⟨fu - 1, by omega⟩
    rw [lo3_s]
    unfold f_X0_mostBehind_R
    refine ex_eq (for2 0 (fun _ a => a = 0) _ ?_ ?_ n 0 0 (by omega) (by omega) rfl)
    · rintro K a rfl
      unfold f_X0_mostBehind_h5
      exact ⟨_, in_eq (by decide) (ip_eq (by decide) rfl), rfl⟩
    · intro K a j hj
      omega
  | succ m ih =>
    intro fu hfu x h e hx he hm
    obtain ⟨fu', rfl⟩ : ∃ k, fu = k + 1 := ⟨fu - 1, by omega⟩
    have ih' := ih fu' (by omega)
    rw [lo3_s, ← cl_other m h he]
    have hle : bu (fun o => 1 + cl m (rmv h (tw e o)) (nI o)) (fun o => h (tw e o)) 7 ≤ m + 1 := by
      rw [cl_other m h he]
      exact cl_le _ _ _
    generalize hb : bu (fun o => 1 + cl m (rmv h (tw e o)) (nI o)) (fun o => h (tw e o)) = b at *
    have hs : ∀ o, b (o + 1) = max (b o) (if h (tw e o) then 1 + cl m (rmv h (tw e o)) (nI o) else 0) := fun o => by
      rw [← hb]
      rfl
    have hmono : ∀ o, o ≤ 7 → b o ≤ b 7 := fun o ho => by
      rw [← hb]
      exact bu_mono _ _ 7 ho
    have hb0 : b 0 = 0 := by
      rw [← hb]
      rfl
    generalize lo3 (f_X0_mostBehind_R n) fu' = REC at *
    unfold f_X0_mostBehind_R
    refine ex_eq (for2 7 (fun j a => a = nI (b j)) _ ?_ ?_ n 0 0 (by omega) (by omega) (by rw [hb0]; rfl))
    · rintro K a rfl
      unfold f_X0_mostBehind_h5
      exact ⟨_, ip_eq (by decide) rfl, rfl⟩
    · rintro K a j hj rfl
      have h7 := hmono j (by omega)
      have h8 := hmono (j + 1) (by omega)
      obtain ⟨t1, t2, t3, t4⟩ := tw_ok he hj
      by_cases hx2 : m + 1 ≤ b j
      · right
        refine ⟨nI (b j), ?_, by rw [show b j = b 7 by omega]⟩
        unfold f_X0_mostBehind_h5
        refine in_eq (fun q => ?_) (ip_eq ?_ rfl)
        · have := (ltL_6 (j := j) (by omega)).mp q
          omega
        · exact (nI_leI (by omega) (by omega)).mpr hx2
      · left
        refine ⟨nI (b (j + 1)), ?_, rfl⟩
        unfold f_X0_mostBehind_h5 f_X0_mostBehind_b57
        refine in_eq (fun q => ?_) (in_eq (fun q => ?_) (bd_eq t1 ?_))
        · have := (ltL_6 (j := j) (by omega)).mp q
          omega
        · exact hx2 ((nI_leI (by omega) (by omega)).mp q)
        · have hs' := hs j
          cases hh : h (tw e j) with
          | false =>
            rw [hh] at hs'
            refine ip_eq ((bit_bt x (by omega)).mpr (by rw [hx _ t2, hh])) ?_
            rw [nI_1, hs']
            simp
          | true =>
            rw [hh, if_pos rfl] at hs'
            refine in_eq (fun q => by
              have := (bit_bt x (by omega)).mp q
              rw [hx _ t2, hh] at this
              cases this) ?_
            have h9 := ih' (x &&& ((jshl (1 : Int32) (nI (tw e j))) ^^^ (-1 : Int32))) (rmv h (tw e j)) j (bit_rmv hx t2) hj (by omega)
            have h10 := cl_le m (rmv h (tw e j)) (nI j)
            rw [suL_1 (by omega), Nat.add_sub_cancel]
            refine bd_eq h9 ?_
            rw [alL_1, jmax_n (by omega) (by omega), nI_1, ← hs']
def hnd (G : GS) (p : Int32) (t : Nat) : Bool := decide (G.2.2 1 t = p)
theorem f_any {n : Nat} (hn : 28 < n) {m : Nat} (hm : m < 6) (x : Int32) (h : Nat → Bool) (hx : ∀ t, t < 28 → bt x t = h t) : f_X0_mostFromAnyTile n x (nI (m + 1)) = some (nI (cl (m + 1) h (-1))) := by
  rw [← cl_any m h]
  have hle : bu (fun t => 1 + cl m (rmv h t) (nI (hi t))) h 28 ≤ m + 1 := by
    rw [cl_any m h]
    exact cl_le _ _ _
  generalize hb : bu (fun t => 1 + cl m (rmv h t) (nI (hi t))) h = b at *
  have hs : ∀ o, b (o + 1) = max (b o) (if h o then 1 + cl m (rmv h o) (nI (hi o)) else 0) := fun o => by
    rw [← hb]
    rfl
  have hmono : ∀ o, o ≤ 28 → b o ≤ b 28 := fun o ho => by
    rw [← hb]
    exact bu_mono _ _ 28 ho
  have hb0 : b 0 = 0 := by
    rw [← hb]
    rfl
  unfold f_X0_mostFromAnyTile
  refine ex_eq (for2 28 (fun j a => a = nI (b j)) _ ?_ ?_ n 0 0 (by omega) (by omega) (by rw [hb0]; rfl))
  · rintro K a rfl
    unfold f_X0_mostFromAnyTile_h4
    exact ⟨_, ip_eq (by decide) rfl, rfl⟩
  · rintro K a j hj rfl
    have h7 := hmono j (by omega)
    have h8 := hmono (j + 1) (by omega)
    have h6 := tl hj
    by_cases hx2 : m + 1 ≤ b j
    · right
      refine ⟨nI (b j), ?_, by rw [show b j = b 28 by omega]⟩
      unfold f_X0_mostFromAnyTile_h4
      refine in_eq (fun q => ?_) (ip_eq ?_ rfl)
      · have := (leL_28 (j := j) (by omega)).mp q
        omega
      · exact (nI_leI (by omega) (by omega)).mpr hx2
    · left
      refine ⟨nI (b (j + 1)), ?_, rfl⟩
      unfold f_X0_mostFromAnyTile_h4 f_X0_mostFromAnyTile_b47
      refine in_eq (fun q => ?_) (in_eq (fun q => ?_) ?_)
      · have := (leL_28 (j := j) (by omega)).mp q
        omega
      · exact hx2 ((nI_leI (by omega) (by omega)).mp q)
      · have hs' := hs j
        cases hh : h j with
        | false =>
          rw [hh] at hs'
          refine ip_eq ((bit_bt x (by omega)).mpr (by rw [hx _ hj, hh])) ?_
          rw [nI_1, hs']
          simp
        | true =>
          rw [hh, if_pos rfl] at hs'
          refine in_eq (fun q => by
            have := (bit_bt x (by omega)).mp q
            rw [hx _ hj, hh] at this
            cases this) ?_
          have h9 := f_behind hn m 9 (by omega) (x &&& ((jshl (1 : Int32) (nI j)) ^^^ (-1 : Int32))) (rmv h j) (hi j) (bit_rmv hx hj) (by omega) (by omega)
          have h10 := cl_le m (rmv h j) (nI (hi j))
          refine bd_eq (f_highOf_n hj) ?_
          rw [suL_1 (by omega), Nat.add_sub_cancel]
          refine bd_eq h9 ?_
          rw [alL_1, jmax_n (by omega) (by omega), nI_1, ← hs']
theorem f_longest {n : Nat} (hn : 28 < n) {G : GS} {B : Nat} (V : VG G B) (p : Int32) {m : Nat} (hm : m < 6) : f_X0_longestChainOf n G p (nI (m + 1)) = some (if G.1 3 = 1 then nI (cl (m + 1) (hnd G p) (G.2.1 1)) else 0) := by
  have h28 := V.sz28
  unfold f_X0_longestChainOf
  refine bd_eq f_isPlayed ?_
  by_cases hp : G.1 3 = 1
  · rw [if_pos hp, if_pos hp]
    refine in_eq (by decide) (bd_eq (f_handOf hn G p) (bd_eq (v := G.2.1 0) rfl ?_))
    have hx : ∀ t, t < 28 → bt (mskH (G.2.2 1) p 28) t = hnd G p t := fun t ht => by
      rw [bt_msk _ _ 28 (by omega) t (by omega)]
      unfold hnd
      congr 1
      exact propext ⟨fun q => q.2, fun q => ⟨ht, q⟩⟩
    rw [V.sz]
    rcases V.en with ⟨h1, h2⟩ | ⟨h1, e, h2, h3⟩
    · refine ip_eq ?_ (bd_eq (f_any hn hm _ _ hx) ?_)
      · rw [h1]
        decide
      · rw [h2]
    · refine in_eq (nI_nle h1 (by omega)) (bd_eq (v := nI e) (by rw [← h3]; rfl) (bd_eq (f_behind hn (m + 1) 9 (by omega) _ _ e hx (by omega) (by omega)) ?_))
      rw [h3]
  · rw [if_neg hp, if_neg hp]
    exact ip_eq rfl rfl
