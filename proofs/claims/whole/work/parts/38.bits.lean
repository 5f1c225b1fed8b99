/-! PURE LEVEL: how many bits -/
theorem and_split {h l hm lm : Nat} (hl : l < 256) (hlm : lm < 256) : (256 * h + l) &&& (256 * hm + lm) = 256 * (h &&& hm) + (l &&& lm) := by
  have hb : l &&& lm < 256 := Nat.lt_of_le_of_lt Nat.and_le_left hl
  apply Nat.eq_of_testBit_eq
  intro i
  rw [Nat.testBit_and, show (256 : Nat) = 2 ^ 8 from rfl, Nat.testBit_two_pow_mul_add _ (i := 8) hl, Nat.testBit_two_pow_mul_add _ (i := 8) hlm, Nat.testBit_two_pow_mul_add _ (i := 8) hb]
  split
  · rw [Nat.testBit_and]
  · rw [Nat.testBit_and]
theorem t55 : (List.range 2).all (fun b => (List.range 128).all (fun y => decide ((128 * b + y) &&& 85 = y &&& 85))) = true := by decide +kernel
theorem t33 : (List.range 4).all (fun b => (List.range 64).all (fun y => decide ((64 * b + y) &&& 51 = y &&& 51))) = true := by decide +kernel
theorem tab2 {n m : Nat} {p : Nat → Nat → Prop} [∀ a b, Decidable (p a b)] (h : (List.range n).all (fun a => (List.range m).all (fun b => decide (p a b))) = true) {a b : Nat} (ha : a < n) (hb : b < m) : p a b := of_decide_eq_true (List.all_eq_true.mp (List.all_eq_true.mp h a (List.mem_range.mpr ha)) b (List.mem_range.mpr hb))
theorem sh1 {h l hm : Nat} (hl : l < 256) : ((256 * h + l) / 2) &&& (256 * hm + 85) = 256 * ((h / 2) &&& hm) + ((l / 2) &&& 85) := by
  rw [show (256 * h + l) / 2 = 256 * (h / 2) + (128 * (h % 2) + l / 2) by omega, and_split (by omega) (by omega), tab2 t55 (by omega) (by omega)]
theorem sh2 {h l hm : Nat} (hl : l < 256) : ((256 * h + l) / 4) &&& (256 * hm + 51) = 256 * ((h / 4) &&& hm) + ((l / 4) &&& 51) := by
  rw [show (256 * h + l) / 4 = 256 * (h / 4) + (64 * (h % 4) + l / 4) by omega, and_split (by omega) (by omega), tab2 t33 (by omega) (by omega)]
