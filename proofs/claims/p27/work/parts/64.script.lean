/-! PURE LEVEL: a script of too many digits -/
theorem zcmp_lt {x y : Int64} : (lg_cmp x y < 0) ↔ x < y := by
  unfold lg_cmp
  rw [Int64.lt_iff_toInt_lt (x := x) (y := y)]
  split
  · rename_i h
    have h1 := Int64.lt_iff_toInt_lt.mp h
    exact ⟨fun q => absurd q (by decide), fun q => by omega⟩
  · rename_i h
    have h1 : ¬ y.toInt < x.toInt := fun q => h (Int64.lt_iff_toInt_lt.mpr q)
    split
    · rename_i e
      subst e
      exact ⟨fun q => absurd q (by decide), fun q => by omega⟩
    · rename_i e
      have h2 : ¬ x.toInt = y.toInt := fun q => e (Int64.toInt_inj.mp q)
      exact ⟨fun _ => by omega, fun _ => by decide⟩
theorem zcmp_gt {x y : Int64} : (0 < lg_cmp x y) ↔ y < x := by
  unfold lg_cmp
  split
  · rename_i h
    exact ⟨fun _ => h, fun _ => by decide⟩
  · rename_i h
    split
    · exact ⟨fun q => absurd q (by decide), fun q => absurd q h⟩
    · exact ⟨fun q => absurd q (by decide), fun q => absurd q h⟩
theorem p10_le : ∀ k, k ≤ 4 → 10000 ^ k ≤ 10000 ^ 4 := fun k hk => Nat.pow_le_pow_right (by decide) hk
theorem p10_4 : 10000 ^ 4 < 2 ^ 63 := by decide
theorem p10_lt {k : Nat} (h : k ≤ 4) : 10000 ^ k < 2 ^ 63 := Nat.lt_of_le_of_lt (p10_le k h) p10_4
theorem p10_pos (k : Nat) : 0 < 10000 ^ k := Nat.pow_pos (by decide)
theorem f_without {n : Nat} (hn : 28 < n) {Y g : Nat} (hY : Y < 2 ^ 63) (hg : g ≤ 4) : f_X5_withoutGroups n (lN Y) (nI g) = some (lN (Y / 10000 ^ g)) := by
  unfold f_X5_withoutGroups
  refine ex_eq (for2 g (fun j a => a = lN (Y / 10000 ^ j)) _ ?_ ?_ n 0 (lN Y) (by omega) (by omega) (by rw [Nat.pow_zero, Nat.div_one]))
  · rintro K a rfl
    unfold f_X5_withoutGroups_h5
    exact ⟨_, ip_eq (nI_le (Nat.le_refl g) (by omega)) rfl, rfl⟩
  · rintro K a j hj rfl
    left
    refine ⟨lN (Y / 10000 ^ (j + 1)), ?_, rfl⟩
    unfold f_X5_withoutGroups_h5
    refine in_eq (fun q => ?_) (ck_eq (by decide) ?_)
    · have := (nI_leI (by omega) (by omega)).mp q
      omega
    · rw [nI_1, show lN (Y / 10000 ^ j) / (10000 : Int64) = lN (Y / 10000 ^ j / 10000) from pk_lDiv (b := 10000) (Nat.lt_of_le_of_lt (Nat.div_le_self _ _) hY) (by decide) (by decide), Nat.div_div_eq_div_mul, ← Nat.pow_succ]
theorem e_script_1 {n : Nat} {c : CS} (hn : 28 < n) {x : Nat} (hx : x < 2 ^ 20) : f_L_doScript n c (1 : Int32) ((10000 : Int64) + (nI x).toInt64) = some (c, (-9999002 : Int32)) := by
  have e : (10000 : Int64) + (nI x).toInt64 = lN (10000 + x) := by
    rw [nI_l (by omega)]
    exact lN_add 10000 x
  have hw := f_without (n := n) hn (Y := 10000 + x) (g := 1) (by omega) (by omega)
  refine t_doScript_1 (v := 0) ?_
  rw [e]
  unfold f_X5_runScript f_X5_runScript_b36
  refine in_eq (by decide) (ip_eq (by decide) (in_eq (fun q => ?_) (bd_eq hw (in_eq (fun q => ?_) rfl))))
  · have h1 := zcmp_lt.mp q
    have := (lN_lt (a := 10000 + x) (b := 0) (by omega) (by omega)).mp h1
    omega
  · rw [Nat.pow_one] at q
    have h1 : (0 : Int64) < lN ((10000 + x) / 10000) := (lN_lt (a := 0) (by omega) (by omega)).mpr (by omega)
    exact lt_nle (zcmp_gt.mpr h1) q
