/-! PURE LEVEL: the shuffle; pasted from kit/laws first -/
theorem wb_tb (n : Nat) : (lN n).toBitVec = BitVec.ofNat 64 n := rfl
theorem wb_inj {a b : Int64} (h : a.toBitVec = b.toBitVec) : a = b := Int64.toBitVec_inj.mp h
theorem wb_tn {n : Nat} (h : n < 2 ^ 64) : (lN n).toBitVec.toNat = n := by rw [wb_tb, BitVec.toNat_ofNat, Nat.mod_eq_of_lt h]
theorem wb_of (x : Int64) : ∃ n, n < 2 ^ 64 ∧ x = lN n := ⟨x.toBitVec.toNat, x.toBitVec.isLt, wb_inj (by rw [wb_tb]; simp)⟩
theorem wb_cu : ∀ k, k < 64 → ((nI k).toInt64.toUInt64 &&& Int64.toUInt64 63) = UInt64.ofNat k := by decide +kernel
theorem wb_shr {n k : Nat} (hn : n < 2 ^ 64) (hk : k < 64) : ((lN n).toUInt64 >>> ((nI k).toInt64.toUInt64 &&& Int64.toUInt64 63)).toInt64 = lN (n / 2 ^ k) := by
  rw [wb_cu k hk]
  apply wb_inj
  apply BitVec.eq_of_toNat_eq
  show ((lN n).toUInt64 >>> UInt64.ofNat k).toNat = (BitVec.ofNat 64 _).toNat
  have h1 : (UInt64.ofNat k).toNat = k := by
    show (BitVec.ofNat 64 k).toNat = k
    rw [BitVec.toNat_ofNat, Nat.mod_eq_of_lt (by omega)]
  have h2 : (lN n).toUInt64.toNat = n := wb_tn hn
  rw [UInt64.toNat_shiftRight, h1, h2, Nat.mod_eq_of_lt hk, Nat.shiftRight_eq_div_pow, BitVec.toNat_ofNat, Nat.mod_eq_of_lt (Nat.lt_of_le_of_lt (Nat.div_le_self _ _) hn)]
def ix (v : Int64) : Nat := (jlushr v (33 : Int32)).toInt32.toNatClampNeg
theorem ix_ok (v : Int64) : (jlushr v (33 : Int32)).toInt32 = nI (ix v) ∧ ix v < 2 ^ 31 := by
  obtain ⟨n, hn, rfl⟩ := wb_of v
  have h1 : jlushr (lN n) (33 : Int32) = lN (n / 2 ^ 33) := wb_shr (k := 33) hn (by decide)
  have h2 : n / 2 ^ 33 < 2 ^ 31 := by omega
  have h3 : ix (lN n) = n / 2 ^ 33 := by
    unfold ix
    rw [h1, lN_i, nI_clamp h2]
  rw [h3, h1, lN_i]
  exact ⟨rfl, h2⟩
theorem jr_ix (v : Int64) {m : Nat} (h0 : 0 < m) (h : m < 2 ^ 31) : jrem (jlushr v (33 : Int32)).toInt32 (nI m) = nI (ix v % m) := by
  rw [(ix_ok v).1]
  exact jrem_n (ix_ok v).2 h0 h
def lcg (x : Int64) : Int64 := x * (6364136223846793005 : Int64) + (1442695040888963407 : Int64)
def swp (f : Nat → Int32) (a b : Nat) : Nat → Int32 := upd (upd f a (f b)) b (f a)
def shu (f : Nat → Int32) (x : Int64) : Nat → (Nat → Int32)
  | 0 => f
  | k + 1 => shu (swp f (k + 1) (ix (lcg x) % (k + 1 + 1))) (lcg x) k
def ini (f : Nat → Int32) (j : Nat) : Nat → Int32 := fun k => if k < j then nI k else f k
theorem ini_0 (f : Nat → Int32) : ini f 0 = f := funext fun _ => if_neg (by omega)
theorem ini_s (f : Nat → Int32) (j : Nat) : upd (ini f j) j (nI j) = ini f (j + 1) := by
  funext k
  unfold upd ini
  by_cases e : k = j
  · subst e
    rw [if_pos rfl, if_pos (by omega)]
  · rw [if_neg e]
    by_cases h : k < j
    · rw [if_pos h, if_pos (by omega)]
    · rw [if_neg h, if_neg (by omega)]
def isP (f : Nat → Int32) : Prop := (∀ k, k < 28 → ∃ t, t < 28 ∧ f k = nI t) ∧ (∀ t, t < 28 → ∃ k, k < 28 ∧ f k = nI t) ∧ (∀ j k, j < 28 → k < 28 → f j = f k → j = k)
theorem isP_ini (f : Nat → Int32) : isP (ini f 28) := by
  have h : ∀ k, k < 28 → ini f 28 k = nI k := fun k hk => if_pos hk
  refine ⟨fun k hk => ⟨k, hk, h k hk⟩, fun t ht => ⟨t, ht, h t ht⟩, fun j k hj hk e => ?_⟩
  rw [h j hj, h k hk] at e
  exact nI_inj (by omega) (by omega) e
def tau (a b x : Nat) : Nat := if x = b then a else if x = a then b else x
theorem swp_tau (f : Nat → Int32) (a b x : Nat) : swp f a b x = f (tau a b x) := by
  unfold swp tau upd
  by_cases h : x = b
  · rw [if_pos h, if_pos h]
  · rw [if_neg h, if_neg h]
    by_cases h2 : x = a
    · rw [if_pos h2, if_pos h2]
    · rw [if_neg h2, if_neg h2]
theorem tau_lt {a b x : Nat} (ha : a < 28) (hb : b < 28) (hx : x < 28) : tau a b x < 28 := by
  unfold tau
  split
  · exact ha
  · split
    · exact hb
    · exact hx
theorem tau_tau (a b x : Nat) : tau a b (tau a b x) = x := by
  unfold tau
  by_cases h : x = b
  · rw [if_pos h]
    by_cases h2 : a = b
    · rw [if_pos h2]; omega
    · rw [if_neg h2, if_pos rfl]; omega
  · rw [if_neg h]
    by_cases h2 : x = a
    · rw [if_pos h2, if_pos rfl]; omega
    · rw [if_neg h2, if_neg h, if_neg h2]
theorem isP_swp {f : Nat → Int32} {a b : Nat} (ha : a < 28) (hb : b < 28) (h : isP f) : isP (swp f a b) := by
  obtain ⟨h1, h2, h3⟩ := h
  refine ⟨fun k hk => ?_, fun t ht => ?_, fun j k hj hk e => ?_⟩
  · rw [swp_tau]
    exact h1 _ (tau_lt ha hb hk)
  · obtain ⟨k, hk, e⟩ := h2 t ht
    exact ⟨tau a b k, tau_lt ha hb hk, by rw [swp_tau, tau_tau]; exact e⟩
  · rw [swp_tau, swp_tau] at e
    have e2 := h3 _ _ (tau_lt ha hb hj) (tau_lt ha hb hk) e
    rw [← tau_tau a b j, e2, tau_tau]
theorem ix_lt (x : Int64) (k : Nat) : ix x % (k + 1 + 1) < k + 1 + 1 := Nat.mod_lt _ (by omega)
theorem isP_shu : ∀ k f x, k < 28 → isP f → isP (shu f x k) := by
  intro k
  induction k with
  | zero => intro f x _ h; exact h
  | succ k ih =>
    intro f x hk h
    have h1 := ix_lt (lcg x) k
    exact ih _ _ (by omega) (isP_swp hk (by omega) h)
theorem shu_congr : ∀ k f g x, k < 28 → (∀ i, i < 28 → f i = g i) → ∀ i, i < 28 → shu f x k i = shu g x k i := by
  intro k
  induction k with
  | zero => intro f g x _ h; exact h
  | succ k ih =>
    intro f g x hk h
    have h1 := ix_lt (lcg x) k
    intro i hi
    show shu (swp f (k + 1) (ix (lcg x) % (k + 1 + 1))) (lcg x) k i = shu (swp g (k + 1) (ix (lcg x) % (k + 1 + 1))) (lcg x) k i
    exact ih (swp f (k + 1) (ix (lcg x) % (k + 1 + 1))) (swp g (k + 1) (ix (lcg x) % (k + 1 + 1))) (lcg x) (by omega) (fun i hi => by
      rw [swp_tau, swp_tau]
      exact h _ (tau_lt hk (by omega) hi)) i hi
theorem gA_gA (G : GS) (j : Nat) (f g : Nat → Int32) : gA (gA G j f) j g = gA G j g := by
  unfold gA va_up
  refine Prod.ext rfl (Prod.ext rfl (funext fun i => ?_))
  show (if i = j then g else if i = j then f else G.2.2 i) = if i = j then g else G.2.2 i
  by_cases e : i = j
  · rw [if_pos e, if_pos e]
  · rw [if_neg e, if_neg e, if_neg e]
theorem gA_self (G : GS) (j : Nat) : gA G j (G.2.2 j) = G := by
  unfold gA va_up
  refine Prod.ext rfl (Prod.ext rfl (funext fun i => ?_))
  show (if i = j then G.2.2 j else G.2.2 i) = G.2.2 i
  by_cases e : i = j
  · rw [if_pos e, e]
  · rw [if_neg e]
theorem gA_at (G : GS) (j : Nat) (f : Nat → Int32) : (gA G j f).2.2 j = f := if_pos rfl
theorem f_shu_down {n : Nat} (y1 : Int64) (G : GS) : ∀ k m f x, k < 28 → k < m → lo3 (f_X0_shuffle_h27 n y1) m (gA G 0 f) x (nI k) = some (gA G 0 (shu f x k)) := by
  intro k
  induction k with
  | zero =>
    intro m f x _ hm
    obtain ⟨m', rfl⟩ : ∃ m', m = m' + 1 := ⟨m - 1, by omega⟩
    rw [lo3_s]
    exact ip_eq (by decide) rfl
  | succ k ih =>
    intro m f x hk hm
    obtain ⟨m', rfl⟩ : ∃ m', m = m' + 1 := ⟨m - 1, by omega⟩
    have h1 := ix_lt (lcg x) k
    have h2 := ih m' (swp f (k + 1) (ix (lcg x) % (k + 1 + 1))) (lcg x) (by omega) (by omega)
    have h3 := jr_ix (lcg x) (m := k + 1 + 1) (by omega) (by omega)
    have h4 : shu f x (k + 1) = shu (swp f (k + 1) (ix (lcg x) % (k + 1 + 1))) (lcg x) k := rfl
    rw [lo3_s, h4]
    unfold f_X0_shuffle_h27 stt
    have h5 : x * (6364136223846793005 : Int64) + (1442695040888963407 : Int64) = lcg x := rfl
    rw [h5]
    generalize lcg x = x' at *
    refine in_eq (fun q => ?_) ?_
    · have := (gtL_1 (j := k + 1) (by omega)).mp q
      omega
    · refine ck_eq (by rw [adL_1]; exact nI_ne0 (by omega) (by omega)) ?_
      rw [adL_1, h3]
      generalize ix x' % (k + 1 + 1) = w at *
      refine ck_eq (in_n (by omega) (by omega)) (ck_eq (in_n (by omega) (by omega)) (ck_eq (in_n (by omega) (by omega)) (ck_eq (in_n (by omega) (by omega)) ?_)))
      rw [nI_clamp (n := k + 1) (by omega), nI_clamp (n := w) (by omega), nI_m1, gA_gA, gA_gA, gA_gA]
      exact h2
theorem f_shuffle {n : Nat} (hn : 28 < n) (G : GS) (y1 : Int64) : f_X0_shuffle n G y1 = some (gA G 0 (shu (ini (G.2.2 0) 28) y1 27)) := by
  unfold f_X0_shuffle
  refine ex_eq (for2 (A := GS) 28 (fun j g => g = gA G 0 (ini (G.2.2 0) j)) _ ?_ ?_ n 0 G (by omega) (by omega) (by rw [ini_0, gA_self]))
  · rintro K g rfl
    refine ⟨_, ?_, rfl⟩
    refine ip_eq (by decide) ?_
    exact f_shu_down y1 G 27 n _ _ (by omega) (by omega)
  · rintro K g j hj rfl
    left
    refine ⟨gA G 0 (ini (G.2.2 0) (j + 1)), ?_, rfl⟩
    unfold f_X0_shuffle_h2
    refine in_eq (fun q => ?_) ?_
    · have := (leL_28 (j := j) (by omega)).mp q
      omega
    · refine ck_eq (in_n hj (by omega)) ?_
      rw [nI_clamp (by omega), gA_at, gA_gA, ini_s, nI_1]
/-! filling an array -/
def fil (f : Nat → Int32) (x : Int32) (j : Nat) : Nat → Int32 := fun k => if k < j then x else f k
theorem fil_s (f : Nat → Int32) (x : Int32) (j : Nat) : upd (fil f x j) j x = fil f x (j + 1) := by
  funext k
  unfold upd fil
  by_cases e : k = j
  · subst e
    rw [if_pos rfl, if_pos (by omega)]
  · rw [if_neg e]
    by_cases h : k < j
    · rw [if_pos h, if_pos (by omega)]
    · rw [if_neg h, if_neg (by omega)]
theorem f_fill {n N : Nat} (hn : N < n) (hN : N < 2 ^ 31) (f : Nat → Int32) (x : Int32) : f_J7_fill_53178 n N f x = some (fil f x N) := by
  have h : ∀ d j m, j + d = N → d < m → lo3 (f_J7_fill_53178_h5 n N x) m (fil f x j) (nI j) (nI N) = some (fil f x N) := by
    intro d
    induction d with
    | zero =>
      intro j m h1 h2
      obtain ⟨m', rfl⟩ : ∃ m', m = m' + 1 := ⟨m - 1, by omega⟩
      rw [lo3_s]
      refine ip_eq ?_ ?_
      · exact (nI_leI hN (by omega)).mpr (by omega)
      · rw [show j = N by omega]
    | succ d ih =>
      intro j m h1 h2
      obtain ⟨m', rfl⟩ : ∃ m', m = m' + 1 := ⟨m - 1, by omega⟩
      rw [lo3_s]
      refine in_eq ?_ (ck_eq (in_n (by omega) hN) ?_)
      · exact fun q => by
          have := (nI_leI hN (by omega)).mp q
          omega
      · rw [nI_clamp (by omega), fil_s, nI_1]
        exact ih (j + 1) m' (by omega) (by omega)
  unfold f_J7_fill_53178
  have h0 : fil f x 0 = f := funext fun _ => if_neg (by omega)
  have h9 := h N 0 n (by omega) hn
  rw [h0] at h9
  exact h9
theorem fil_in {f : Nat → Int32} {x : Int32} {N k : Nat} (h : k < N) : fil f x N k = x := if_pos h
