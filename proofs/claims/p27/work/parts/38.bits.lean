/-! PURE LEVEL: how many bits -/
theorem and_split {h l hm lm : Nat} (hl : l < 256) (hlm : lm < 256) : (256 * h + l) &&& (256 * hm + lm) = 256 * (h &&& hm) + (l &&& lm) := by
  have hb : l &&& lm < 256 := Nat.lt_of_le_of_lt Nat.and_le_left hl
  apply Nat.eq_of_testBit_eq
  intro i
  rw [Nat.testBit_and, show (256 : Nat) = 2 ^ 8 from rfl, Nat.testBit_two_pow_mul_add _ (i := 8) hl, Nat.testBit_two_pow_mul_add _ (i := 8) hlm, Nat.testBit_two_pow_mul_add _ (i := 8) hb]
  split
  · rw [Nat.testBit_and]
  · rw [Nat.testBit_and]
theorem t55 : (List.range 2).all (fun b => (List.range 128).all (fun y => decide ((128 * b + y) &&& 85 = y &&& 85))) = true := by decide +kernel
theorem t33 : (List.range 4).all (fun b => (List.range 64).all (fun y => decide ((64 * b + y) &&& 51 = y &&& 51))) = true := by decide +kernel
theorem tab2 {n m : Nat} {p : Nat → Nat → Prop} [∀ a b, Decidable (p a b)] (h : (List.range n).all (fun a => (List.range m).all (fun b => decide (p a b))) = true) {a b : Nat} (ha : a < n) (hb : b < m) : p a b := of_decide_eq_true (List.all_eq_true.mp (List.all_eq_true.mp h a (List.mem_range.mpr ha)) b (List.mem_range.mpr hb))
theorem sh1 {h l hm : Nat} (hl : l < 256) : ((256 * h + l) / 2) &&& (256 * hm + 85) = 256 * ((h / 2) &&& hm) + ((l / 2) &&& 85) := by
  rw [show (256 * h + l) / 2 = 256 * (h / 2) + (128 * (h % 2) + l / 2) by omega, and_split (by omega) (by omega), tab2 t55 (by omega) (by omega)]
theorem sh2 {h l hm : Nat} (hl : l < 256) : ((256 * h + l) / 4) &&& (256 * hm + 51) = 256 * ((h / 4) &&& hm) + ((l / 4) &&& 51) := by
  rw [show (256 * h + l) / 4 = 256 * (h / 4) + (64 * (h % 4) + l / 4) by omega, and_split (by omega) (by omega), tab2 t33 (by omega) (by omega)]
/-! pasted from kit/laws: bits of an Int32 -/
def bt (x : Int32) (i : Nat) : Bool := x.toBitVec.getLsbD i
theorem b_ext {x y : Int32} (h : ∀ i, i < 32 → bt x i = bt y i) : x = y := Int32.toBitVec_inj.mp (BitVec.eq_of_getLsbD_eq (fun i hi => h i hi))
theorem b_or (x y : Int32) (i : Nat) : bt (x ||| y) i = (bt x i || bt y i) := by unfold bt; rw [Int32.toBitVec_or, BitVec.getLsbD_or]
theorem b_and (x y : Int32) (i : Nat) : bt (x &&& y) i = (bt x i && bt y i) := by unfold bt; rw [Int32.toBitVec_and, BitVec.getLsbD_and]
theorem b_xor (x y : Int32) (i : Nat) : bt (x ^^^ y) i = (bt x i ^^ bt y i) := by unfold bt; rw [Int32.toBitVec_xor, BitVec.getLsbD_xor]
theorem b_big {x : Int32} {i : Nat} (h : 32 ≤ i) : bt x i = false := BitVec.getLsbD_of_ge _ _ h
theorem b_m1 : ∀ i, i < 32 → bt (-1) i = true := by decide +kernel
theorem b_0 (i : Nat) : bt 0 i = false := BitVec.getLsbD_zero
theorem s_l : ∀ n, n < 32 → ((nI n &&& 31).toBitVec.smod 32).toNat = n := by decide +kernel
theorem s_u : ∀ n, n < 32 → (((nI n).toUInt32 &&& Int32.toUInt32 31).toBitVec % 32).toNat = n := by decide +kernel
theorem b_shl (n : Nat) (hn : n < 32) (x : Int32) {i : Nat} (hi : i < 32) : bt (x <<< (nI n &&& 31)) i = (decide (n ≤ i) && bt x (i - n)) := by
  unfold bt
  rw [Int32.toBitVec_shiftLeft]
  show (x.toBitVec <<< ((nI n &&& 31).toBitVec.smod 32).toNat).getLsbD i = _
  rw [s_l n hn, BitVec.getLsbD_shiftLeft]
  rcases Nat.lt_or_ge i n with h | h
  · simp [h, Nat.not_le.mpr h]
  · simp [hi, h, Nat.not_lt.mpr h]
theorem b_ushr (n : Nat) (hn : n < 32) (x : Int32) (i : Nat) : bt ((x.toUInt32 >>> ((nI n).toUInt32 &&& Int32.toUInt32 31)).toInt32) i = bt x (n + i) := by
  show (x.toUInt32 >>> ((nI n).toUInt32 &&& Int32.toUInt32 31)).toBitVec.getLsbD i = x.toUInt32.toBitVec.getLsbD (n + i)
  rw [UInt32.toBitVec_shiftRight]
  show (x.toUInt32.toBitVec >>> (((nI n).toUInt32 &&& Int32.toUInt32 31).toBitVec % 32).toNat).getLsbD i = _
  rw [s_u n hn, BitVec.getLsbD_ushiftRight]
theorem nx_and (a b : Nat) : nI a &&& nI b = nI (a &&& b) := by
  apply Int32.toBitVec_inj.1
  show BitVec.ofNat 32 a &&& BitVec.ofNat 32 b = BitVec.ofNat 32 (a &&& b)
  apply BitVec.eq_of_getLsbD_eq
  intro i hi
  simp [hi]
theorem nx_or (a b : Nat) : nI a ||| nI b = nI (a ||| b) := by
  apply Int32.toBitVec_inj.1
  show BitVec.ofNat 32 a ||| BitVec.ofNat 32 b = BitVec.ofNat 32 (a ||| b)
  apply BitVec.eq_of_getLsbD_eq
  intro i hi
  simp [hi]
theorem nx_or_sum {a k : Nat} (h : a < 2 ^ k) : nI a ||| nI (2 ^ k) = nI (a + 2 ^ k) := by
  rw [nx_or, Nat.or_comm]
  have h1 := Nat.two_pow_add_eq_or_of_lt h 1
  rw [Nat.mul_one] at h1
  rw [← h1, Nat.add_comm]
/-! one bit of a set -/
theorem b_one : ∀ i, i < 32 → bt 1 i = decide (i = 0) := by decide +kernel
theorem bit_bt (v : Int32) {k : Nat} (hk : k < 32) : (jushr v (nI k) &&& 1) = 0 ↔ bt v k = false := by
  have h1 : ∀ i, i < 32 → bt (jushr v (nI k) &&& 1) i = (bt v (k + i) && decide (i = 0)) := fun i hi => by
    rw [b_and, b_one i hi]
    unfold jushr
    rw [b_ushr k hk]
  constructor
  · intro h
    have h2 := h1 0 (by omega)
    rw [h, b_0] at h2
    simpa using h2.symm
  · intro h
    apply b_ext
    intro i hi
    rw [h1 i hi, b_0]
    by_cases e : i = 0
    · subst e
      rw [Nat.add_zero, h]
      rfl
    · rw [decide_eq_false e, Bool.and_false]
theorem bt_sh {i k : Nat} (hi : i < 32) (hk : k < 32) : bt (jshl 1 (nI k)) i = decide (i = k) := by
  unfold jshl
  rw [b_shl k hk 1 hi, b_one (i - k) (by omega)]
  by_cases h : k ≤ i
  · rw [decide_eq_true h, Bool.true_and]
    congr 1
    exact propext ⟨fun q => by omega, fun q => by omega⟩
  · rw [decide_eq_false h, Bool.false_and, decide_eq_false (by omega)]
theorem bt_set (v : Int32) {i k : Nat} (hi : i < 32) (hk : k < 32) : bt (v ||| jshl 1 (nI k)) i = (bt v i || decide (i = k)) := by
  rw [b_or, bt_sh hi hk]
theorem bt_clr (v : Int32) {i k : Nat} (hi : i < 32) (hk : k < 32) : bt (v &&& (jshl 1 (nI k) ^^^ (-1 : Int32))) i = (bt v i && !decide (i = k)) := by
  rw [b_and, b_xor, bt_sh hi hk, b_m1 i hi]
  cases decide (i = k) <;> rfl
theorem bt_msk (h : Nat → Int32) (p : Int32) : ∀ N, N ≤ 32 → ∀ i, i < 32 → bt (mskH h p N) i = decide (i < N ∧ h i = p) := by
  intro N
  induction N with
  | zero =>
    intro _ i _
    rw [decide_eq_false (fun q => absurd q.1 (by omega))]
    exact b_0 i
  | succ N ih =>
    intro hN i hi
    unfold mskH
    by_cases e : h N = p
    · rw [if_pos e, bt_set _ hi (by omega), ih (by omega) i hi]
      by_cases e2 : i = N
      · rw [decide_eq_true e2, Bool.or_true, decide_eq_true]
        exact ⟨by omega, by rw [e2]; exact e⟩
      · rw [decide_eq_false e2, Bool.or_false]
        congr 1
        exact propext ⟨fun q => ⟨by omega, q.2⟩, fun q => ⟨by omega, q.2⟩⟩
    · rw [if_neg e, ih (by omega) i hi]
      congr 1
      exact propext ⟨fun q => ⟨by omega, q.2⟩, fun q => ⟨by
        by_cases e2 : i = N
        · exact absurd (e2 ▸ q.2) e
        · omega, q.2⟩⟩
theorem msk_bit (h : Nat → Int32) (p : Int32) {i : Nat} (hi : i < 28) : (jushr (mskH h p 28) (nI i) &&& 1) = 0 ↔ ¬ h i = p := by
  rw [bit_bt _ (by omega), bt_msk h p 28 (by omega) i (by omega)]
  rw [decide_eq_false_iff_not]
  exact ⟨fun q r => q ⟨hi, r⟩, fun q r => q r.2⟩
/-! the count, byte by byte -/
theorem ju_n {n : Nat} (h : n < 2 ^ 31) {k : Int32} (j : Nat) (hk : ((k.toUInt32 &&& Int32.toUInt32 31).toBitVec % 32).toNat = j) : jushr (nI n) k = nI (n / 2 ^ j) := by
  have h1 := pk_ushr (nI n) k j hk
  rw [pk_tn (by omega)] at h1
  apply Int32.toBitVec_inj.1
  apply BitVec.eq_of_toNat_eq
  unfold jushr
  rw [h1, pk_tn (Nat.lt_of_le_of_lt (Nat.div_le_self n (2 ^ j)) (by omega))]
def c1 (l : Nat) : Nat := l - ((l / 2) &&& 85)
def c2 (l : Nat) : Nat := (l &&& 51) + ((l / 4) &&& 51)
def c3 (l : Nat) : Nat := (l + l / 16) % 16
def pc (l : Nat) : Nat := c3 (c2 (c1 l))
def B4 (a b c d : Nat) : Nat := 256 * (256 * (256 * d + c) + b) + a
theorem pc_all : (List.range 256).all (fun l => decide (c1 l < 256 ∧ c2 (c1 l) ≤ 68 ∧ c2 (c1 l) % 16 ≤ 4 ∧ pc l ≤ 8)) = true := by decide +kernel
theorem pc_ok {l : Nat} (h : l < 256) : c1 l < 256 ∧ c2 (c1 l) ≤ 68 ∧ c2 (c1 l) % 16 ≤ 4 ∧ pc l ≤ 8 := of_decide_eq_true (List.all_eq_true.mp pc_all l (List.mem_range.mpr h))
theorem c1_le (l : Nat) : ((l / 2) &&& 85) ≤ l := Nat.le_trans Nat.and_le_left (Nat.div_le_self l 2)
theorem st1 {a b c d : Nat} (ha : a < 256) (hb : b < 256) (hc : c < 256) : (B4 a b c d / 2) &&& 1431655765 ≤ B4 a b c d ∧ B4 a b c d - ((B4 a b c d / 2) &&& 1431655765) = B4 (c1 a) (c1 b) (c1 c) (c1 d) := by
  refine ⟨Nat.le_trans Nat.and_le_left (Nat.div_le_self _ 2), ?_⟩
  unfold B4 c1
  rw [show (1431655765 : Nat) = 256 * 5592405 + 85 from rfl, sh1 ha, show (5592405 : Nat) = 256 * 21845 + 85 from rfl, sh1 hb, show (21845 : Nat) = 256 * 85 + 85 from rfl, sh1 hc]
  have e1 := c1_le a
  have e2 := c1_le b
  have e3 := c1_le c
  have e4 := c1_le d
  generalize (a / 2) &&& 85 = u1 at *
  generalize (b / 2) &&& 85 = u2 at *
  generalize (c / 2) &&& 85 = u3 at *
  generalize (d / 2) &&& 85 = u4 at *
  omega
theorem st2 {a b c d : Nat} (ha : a < 256) (hb : b < 256) (hc : c < 256) : (B4 a b c d &&& 858993459) + ((B4 a b c d / 4) &&& 858993459) = B4 (c2 a) (c2 b) (c2 c) (c2 d) := by
  unfold B4 c2
  rw [show (858993459 : Nat) = 256 * 3355443 + 51 from rfl, sh2 ha, and_split ha (by omega), show (3355443 : Nat) = 256 * 13107 + 51 from rfl, sh2 hb, and_split hb (by omega), show (13107 : Nat) = 256 * 51 + 51 from rfl, sh2 hc, and_split hc (by omega)]
  generalize (a / 4) &&& 51 = u1
  generalize (b / 4) &&& 51 = u2
  generalize (c / 4) &&& 51 = u3
  generalize (d / 4) &&& 51 = u4
  generalize a &&& 51 = w1
  generalize b &&& 51 = w2
  generalize c &&& 51 = w3
  generalize d &&& 51 = w4
  omega
theorem sh3 {h l hm : Nat} (hl : l ≤ 68) (hh : h % 16 ≤ 4) : ((256 * h + l) + (256 * h + l) / 16) &&& (256 * hm + 15) = 256 * ((h + h / 16) &&& hm) + (l + l / 16) % 16 := by
  rw [show (256 * h + l) + (256 * h + l) / 16 = 256 * (h + h / 16) + (l + l / 16 + 16 * (h % 16)) by omega, and_split (by omega) (by omega), show (15 : Nat) = 2 ^ 4 - 1 from rfl, Nat.and_two_pow_sub_one_eq_mod]
  omega
theorem st3 {a b c d : Nat} (ha : a ≤ 68) (hb : b ≤ 68) (hc : c ≤ 68) (hb4 : b % 16 ≤ 4) (hc4 : c % 16 ≤ 4) (hd4 : d % 16 ≤ 4) : (B4 a b c d + B4 a b c d / 16) &&& 252645135 = B4 (c3 a) (c3 b) (c3 c) (c3 d) := by
  unfold B4 c3
  rw [show (252645135 : Nat) = 256 * 986895 + 15 from rfl, sh3 ha (by omega), show (986895 : Nat) = 256 * 3855 + 15 from rfl, sh3 hb (by omega), show (3855 : Nat) = 256 * 15 + 15 from rfl, sh3 hc (by omega), show (15 : Nat) = 2 ^ 4 - 1 from rfl, Nat.and_two_pow_sub_one_eq_mod]
theorem st4 {a b c d : Nat} (ha : a ≤ 8) (hb : b ≤ 8) (hc : c ≤ 8) (hd : d ≤ 8) : (B4 a b c d + B4 a b c d / 256 + (B4 a b c d + B4 a b c d / 256) / 65536) % 64 = a + b + c + d := by
  unfold B4
  have e1 : (256 * (256 * (256 * d + c) + b) + a) / 256 = 65536 * d + 256 * c + b := by omega
  have e2 : (256 * (256 * (256 * d + c) + b) + a + (65536 * d + 256 * c + b)) / 65536 = 256 * d + d + c := by omega
  rw [e1, e2, show 256 * (256 * (256 * d + c) + b) + a + (65536 * d + 256 * c + b) + (256 * d + d + c) = 64 * (262144 * d + 1024 * d + 4 * d + 1024 * c + 4 * c + 4 * b) + (a + b + c + d) by omega, Nat.mul_add_mod]
  omega
theorem f_bitCount {a b c d : Nat} (ha : a < 256) (hb : b < 256) (hc : c < 256) (hd : d < 64) : f_J6_bitCount_0f7a4 (nI (B4 a b c d)) = some (nI (pc a + pc b + pc c + pc d)) := by
  obtain ⟨a1, a2, a3, a4⟩ := pc_ok ha
  obtain ⟨b1, b2, b3, b4⟩ := pc_ok hb
  obtain ⟨k1, k2, k3, k4⟩ := pc_ok hc
  obtain ⟨d1, d2, d3, d4⟩ := pc_ok (l := d) (by omega)
  obtain ⟨q1, q2⟩ := st1 (d := d) ha hb hc
  have hx : B4 a b c d < 2 ^ 30 := by unfold B4; omega
  have hx1 : B4 (c1 a) (c1 b) (c1 c) (c1 d) < 2 ^ 30 := by rw [← q2]; omega
  have hx2 : B4 (c2 (c1 a)) (c2 (c1 b)) (c2 (c1 c)) (c2 (c1 d)) < 2 ^ 31 - 2 ^ 28 := by unfold B4; omega
  have hx3 : B4 (pc a) (pc b) (pc c) (pc d) < 2 ^ 30 := by unfold B4; omega
  have e1 : nI (B4 a b c d) - (jushr (nI (B4 a b c d)) (1 : Int32) &&& (1431655765 : Int32)) = nI (B4 (c1 a) (c1 b) (c1 c) (c1 d)) := by
    rw [ju_n (by omega) 1 (by decide +kernel), show (1431655765 : Int32) = nI 1431655765 from rfl, nx_and, nI_sub q1]
    exact congrArg nI q2
  have e2 : (nI (B4 (c1 a) (c1 b) (c1 c) (c1 d)) &&& (858993459 : Int32)) + (jushr (nI (B4 (c1 a) (c1 b) (c1 c) (c1 d))) (2 : Int32) &&& (858993459 : Int32)) = nI (B4 (c2 (c1 a)) (c2 (c1 b)) (c2 (c1 c)) (c2 (c1 d))) := by
    rw [ju_n (by omega) 2 (by decide +kernel), show (858993459 : Int32) = nI 858993459 from rfl, nx_and, nx_and, nI_add]
    exact congrArg nI (st2 a1 b1 k1)
  have e3 : (nI (B4 (c2 (c1 a)) (c2 (c1 b)) (c2 (c1 c)) (c2 (c1 d))) + jushr (nI (B4 (c2 (c1 a)) (c2 (c1 b)) (c2 (c1 c)) (c2 (c1 d)))) (4 : Int32)) &&& (252645135 : Int32) = nI (B4 (pc a) (pc b) (pc c) (pc d)) := by
    rw [ju_n (by omega) 4 (by decide +kernel), nI_add, show (252645135 : Int32) = nI 252645135 from rfl, nx_and]
    exact congrArg nI (st3 a2 b2 k2 b3 k3 d3)
  have e4 : nI (B4 (pc a) (pc b) (pc c) (pc d)) + jushr (nI (B4 (pc a) (pc b) (pc c) (pc d))) (8 : Int32) = nI (B4 (pc a) (pc b) (pc c) (pc d) + B4 (pc a) (pc b) (pc c) (pc d) / 256) := by
    rw [ju_n (by omega) 8 (by decide +kernel), nI_add]
  have e5 : jushr (nI (B4 (pc a) (pc b) (pc c) (pc d) + B4 (pc a) (pc b) (pc c) (pc d) / 256)) (16 : Int32) = nI ((B4 (pc a) (pc b) (pc c) (pc d) + B4 (pc a) (pc b) (pc c) (pc d) / 256) / 65536) := by
    rw [ju_n (by omega) 16 (by decide +kernel)]
  have e6 : ∀ v : Nat, nI v &&& (63 : Int32) = nI (v % 64) := fun v => by
    rw [show (63 : Int32) = nI 63 from rfl, nx_and, show (63 : Nat) = 2 ^ 6 - 1 from rfl, Nat.and_two_pow_sub_one_eq_mod]
  unfold f_J6_bitCount_0f7a4
  simp only [stt, e1, e2, e3, e4, e5, nI_add, e6]
  rw [st4 a4 b4 k4 d4]
theorem pc_step_all : (List.range 8).all (fun j => (List.range 256).all (fun l => decide (l < 2 ^ j → pc (l + 2 ^ j) = pc l + 1))) = true := by decide +kernel
theorem pc_step {j l : Nat} (hj : j < 8) (hl : l < 2 ^ j) : pc (l + 2 ^ j) = pc l + 1 := tab2 pc_step_all hj (Nat.lt_of_lt_of_le hl (Nat.pow_le_pow_right (by decide) (by omega) : 2 ^ j ≤ 2 ^ 8)) hl
/-- the set of the places from b on, as a number -/
def segN (h : Nat → Int32) (p : Int32) (b : Nat) : Nat → Nat
  | 0 => 0
  | k + 1 => segN h p b k + if h (b + k) = p then 2 ^ k else 0
theorem segN_lt (h : Nat → Int32) (p : Int32) (b : Nat) : ∀ k, segN h p b k < 2 ^ k := by
  intro k
  induction k with
  | zero => simp [segN]
  | succ k ih =>
    simp only [segN]
    have h2 : 2 ^ (k + 1) = 2 ^ k + 2 ^ k := by rw [Nat.pow_succ]; omega
    split <;> omega
theorem segN_add (h : Nat → Int32) (p : Int32) (b m : Nat) : ∀ k, segN h p b (m + k) = segN h p b m + 2 ^ m * segN h p (b + m) k := by
  intro k
  induction k with
  | zero => simp [segN]
  | succ k ih =>
    rw [← Nat.add_assoc]
    simp only [segN]
    rw [ih, ← Nat.add_assoc b m k, Nat.pow_add, Nat.mul_add]
    split
    · omega
    · simp
theorem segN_cnt (h : Nat → Int32) (p : Int32) (b : Nat) : ∀ k, k ≤ 8 → cntH h p (b + k) = cntH h p b + pc (segN h p b k) := by
  intro k
  induction k with
  | zero =>
    intro _
    show cntH h p b = cntH h p b + pc 0
    rw [show pc 0 = 0 by decide +kernel, Nat.add_zero]
  | succ k ih =>
    intro hk
    rw [← Nat.add_assoc]
    simp only [segN, cntH]
    rw [ih (by omega)]
    by_cases e : h (b + k) = p
    · rw [if_pos e, if_pos e, pc_step (by omega) (segN_lt h p b k)]
      omega
    · rw [if_neg e, if_neg e]
      rfl
theorem sh_tab : ∀ k, k < 31 → jshl 1 (nI k) = nI (2 ^ k) := by decide +kernel
theorem msk_seg (h : Nat → Int32) (p : Int32) : ∀ k, k < 31 → mskH h p k = nI (segN h p 0 k) := by
  intro k
  induction k with
  | zero => intro _; rfl
  | succ k ih =>
    intro hk
    simp only [mskH, segN, Nat.zero_add]
    by_cases e : h k = p
    · rw [if_pos e, if_pos e, ih (by omega), sh_tab k (by omega), nx_or_sum (segN_lt h p 0 k)]
    · rw [if_neg e, if_neg e, ih (by omega)]
      rfl
theorem count_msk (h : Nat → Int32) (p : Int32) : f_J6_bitCount_0f7a4 (mskH h p 28) = some (nI (cntH h p 28)) := by
  have s0 := segN_lt h p 0 8
  have s1 := segN_lt h p 8 8
  have s2 := segN_lt h p 16 8
  have s3 := segN_lt h p 24 4
  have e1 := segN_add h p 0 8 20
  have e2 := segN_add h p 8 8 12
  have e3 := segN_add h p 16 8 4
  have k0 := segN_cnt h p 0 8 (by omega)
  have k1 := segN_cnt h p 8 8 (by omega)
  have k2 := segN_cnt h p 16 8 (by omega)
  have k3 := segN_cnt h p 24 4 (by omega)
  have z : cntH h p 0 = 0 := rfl
  simp only [Nat.reduceAdd] at e1 e2 e3 k0 k1 k2 k3
  rw [msk_seg h p 28 (by omega), e1, e2, e3]
  have hB : segN h p 0 8 + 2 ^ 8 * (segN h p 8 8 + 2 ^ 8 * (segN h p 16 8 + 2 ^ 8 * segN h p 24 4)) = B4 (segN h p 0 8) (segN h p 8 8) (segN h p 16 8) (segN h p 24 4) := by
    unfold B4
    omega
  rw [hB, f_bitCount (by omega) (by omega) (by omega) (by omega)]
  congr 2
  omega
theorem f_tilesOf {n : Nat} (hn : 28 < n) (G : GS) (p : Int32) : f_X0_tilesOf n G p = some (nI (cntH (G.2.2 1) p 28)) := by
  unfold f_X0_tilesOf
  rw [f_handOf hn, Option.bind_some, count_msk, Option.bind_some]
