theorem hup_o {h : Hp} {a b : Nat} {x : va_E} (hne : b ≠ a) : hup h a x b = h b := by simp [hup, hne]
set_option maxRecDepth 100000 in
set_option maxHeartbeats 4000000 in
theorem ct_X4_init {E : zE} {l : Launch} {h : Hp} {a : Nat}   : zMc E l 2 yX4_init cX4_init 1 [.ref a] (hup h a (.inr (4, [.null, .int 0]))) (a + 1) 1 120 (pT E h a (0, fun _ => 0)) := by
  refine zMc_of (lv := [(0, .ref a)]) rfl (by decide +kernel) (Nat.le_of_ble_eq_true rfl) rfl (fun X hX C hsz hAO hin hR => ?_)
  subst hX
  replace C : zC E X RX4 cX4_init 1 none 2 := C
  refine z_aload_n C dX4_init_0 0 rfl ?_
  refine z_objInit C ml_X4_3 (by decide) (Nat.le_of_ble_eq_true rfl) dX4_init_1 ?_
  refine z_aload_n C dX4_init_4 0 rfl ?_
  refine z_bipush C (120 : Int32) dX4_init_5 (by decide) ?_
  refine z_newa (atype := .int) (ty := .int) (t0 := 0) C (120, .inl (fun _ => 0)) rfl ac_int rfl (fun q => q) rfl (by decide) (by decide) (by decide) (Or.inl rfl) (by rw [hR]; decide) dX4_init_7 (a + 1) (by omega) ?_
  refine z_putF (ci := 4) (fs := [.null, .int 0]) C inX4 tyX4 tyX4_ok nmX4 rfl 0 (by decide) fl_X4_11 rfl rfl hin rfl rfl rfl (by simp [hup]) (Nat.le_of_ble_eq_true rfl) dX4_init_9 ?_
  refine z_heap (h' := (pT E h a (0, fun _ => 0))) (by
    funext q
    by_cases hq : q < a ∨ a + 2 ≤ q
    · have e0 : q ≠ a := by omega
      have e1 : q ≠ a + 1 := by omega
      simp [hup, pT, e0, e1]
    · have hc : q = a ∨ q = a + 1 := by omega
      rcases hc with rfl | rfl <;> simp [hup, pT]) ?_
  exact z_return C dX4_init_12
def pLn (E : zE) (h : Hp) (b : Nat) : Hp := fun q => if q = b then some (.inr (2, [.int 0, .int (-1), .int 0, .int 12, .int 12, .ref (b + 1), .ref (b + 2), .ref (b + 3), .ref (b + 4), .ref (b + 5), .ref (b + 6)])) else if q = b + 1 then some (.inl (zI E, 28, .inl (fun _ => 0))) else if q = b + 2 then some (.inl (zI E, 28, .inl (fun _ => 0))) else if q = b + 3 then some (.inl (zI E, 28, .inl (fun _ => 0))) else if q = b + 4 then some (.inl (zI E, 28, .inl (fun _ => 0))) else if q = b + 5 then some (.inl (zI E, 28, .inl (fun _ => 0))) else if q = b + 6 then some (.inl (zI E, 25, .inl (fun _ => 0))) else h q
set_option maxRecDepth 100000 in
set_option maxHeartbeats 4000000 in
theorem ct_X2_init {E : zE} {l : Launch} {h : Hp} {b : Nat}   : zMc E l 2 yX2_init cX2_init 1 [.ref b] (hup h b (.inr (2, [.int 0, .int 0, .int 0, .int 0, .int 0, .null, .null, .null, .null, .null, .null]))) (b + 1) 6 165 (pLn E h b) := by
  refine zMc_of (lv := [(0, .ref b)]) rfl (by decide +kernel) (Nat.le_of_ble_eq_true rfl) rfl (fun X hX C hsz hAO hin hR => ?_)
  subst hX
  replace C : zC E X RX2 cX2_init 1 none 2 := C
  refine z_aload_n C dX2_init_0 0 rfl ?_
  refine z_objInit C ml_X2_3 (by decide) (Nat.le_of_ble_eq_true rfl) dX2_init_1 ?_
  refine z_aload_n C dX2_init_4 0 rfl ?_
  refine z_iconst C (-1 : Int32) dX2_init_5 (by decide) ?_
  refine z_put (ci := 2) (fs := [.int 0, .int 0, .int 0, .int 0, .int 0, .null, .null, .null, .null, .null, .null]) C inX2 tyX2 tyX2_ok nmX2 rfl 1 (by decide) fl_X2_9 rfl rfl rfl rfl (by simp [hup]) (Nat.le_of_ble_eq_true rfl) dX2_init_6 _ rfl ?_
  refine z_aload_n C dX2_init_9 0 rfl ?_
  refine z_bipush C (12 : Int32) dX2_init_10 (by decide) ?_
  refine z_put (ci := 2) (fs := [.int 0, .int (-1), .int 0, .int 0, .int 0, .null, .null, .null, .null, .null, .null]) C inX2 tyX2 tyX2_ok nmX2 rfl 3 (by decide) fl_X2_15 rfl rfl rfl rfl (by simp [hup]) (Nat.le_of_ble_eq_true rfl) dX2_init_12 _ rfl ?_
  refine z_aload_n C dX2_init_15 0 rfl ?_
  refine z_bipush C (12 : Int32) dX2_init_16 (by decide) ?_
  refine z_put (ci := 2) (fs := [.int 0, .int (-1), .int 0, .int 12, .int 0, .null, .null, .null, .null, .null, .null]) C inX2 tyX2 tyX2_ok nmX2 rfl 4 (by decide) fl_X2_18 rfl rfl rfl rfl (by simp [hup]) (Nat.le_of_ble_eq_true rfl) dX2_init_18 _ rfl ?_
  refine z_aload_n C dX2_init_21 0 rfl ?_
  refine z_bipush C (28 : Int32) dX2_init_22 (by decide) ?_
  refine z_newa (atype := .int) (ty := .int) (t0 := 0) C (28, .inl (fun _ => 0)) rfl ac_int rfl (fun q => q) rfl (by decide) (by decide) (by decide) (Or.inl rfl) (by rw [hR]; decide) dX2_init_24 (b + 1) (by omega) ?_
  refine z_putF (ci := 2) (fs := [.int 0, .int (-1), .int 0, .int 12, .int 12, .null, .null, .null, .null, .null, .null]) C inX2 tyX2 tyX2_ok nmX2 rfl 5 (by decide) fl_X2_21 rfl rfl hin rfl rfl rfl (by simp [hup]) (Nat.le_of_ble_eq_true rfl) dX2_init_26 ?_
  refine z_aload_n C dX2_init_29 0 rfl ?_
  refine z_bipush C (28 : Int32) dX2_init_30 (by decide) ?_
  refine z_newa (atype := .int) (ty := .int) (t0 := 0) C (28, .inl (fun _ => 0)) rfl ac_int rfl (fun q => q) rfl (by decide) (by decide) (by decide) (Or.inr ⟨.inl (zI E, 28, .inl (fun _ => 0)), by rw [hsz]; simp [hup] <;> omega⟩) (by rw [hR]; decide) dX2_init_32 (b + 2) (by omega) ?_
  refine z_putF (ci := 2) (fs := [.int 0, .int (-1), .int 0, .int 12, .int 12, .ref (b + 1), .null, .null, .null, .null, .null]) C inX2 tyX2 tyX2_ok nmX2 rfl 6 (by decide) fl_X2_25 rfl rfl hin rfl rfl rfl (by simp [hup]) (Nat.le_of_ble_eq_true rfl) dX2_init_34 ?_
  refine z_aload_n C dX2_init_37 0 rfl ?_
  refine z_bipush C (28 : Int32) dX2_init_38 (by decide) ?_
  refine z_newa (atype := .int) (ty := .int) (t0 := 0) C (28, .inl (fun _ => 0)) rfl ac_int rfl (fun q => q) rfl (by decide) (by decide) (by decide) (Or.inr ⟨.inl (zI E, 28, .inl (fun _ => 0)), by rw [hsz]; simp [hup] <;> omega⟩) (by rw [hR]; decide) dX2_init_40 (b + 3) (by omega) ?_
  refine z_putF (ci := 2) (fs := [.int 0, .int (-1), .int 0, .int 12, .int 12, .ref (b + 1), .ref (b + 2), .null, .null, .null, .null]) C inX2 tyX2 tyX2_ok nmX2 rfl 7 (by decide) fl_X2_28 rfl rfl hin rfl rfl rfl (by simp [hup]) (Nat.le_of_ble_eq_true rfl) dX2_init_42 ?_
  refine z_aload_n C dX2_init_45 0 rfl ?_
  refine z_bipush C (28 : Int32) dX2_init_46 (by decide) ?_
  refine z_newa (atype := .int) (ty := .int) (t0 := 0) C (28, .inl (fun _ => 0)) rfl ac_int rfl (fun q => q) rfl (by decide) (by decide) (by decide) (Or.inr ⟨.inl (zI E, 28, .inl (fun _ => 0)), by rw [hsz]; simp [hup] <;> omega⟩) (by rw [hR]; decide) dX2_init_48 (b + 4) (by omega) ?_
  refine z_putF (ci := 2) (fs := [.int 0, .int (-1), .int 0, .int 12, .int 12, .ref (b + 1), .ref (b + 2), .ref (b + 3), .null, .null, .null]) C inX2 tyX2 tyX2_ok nmX2 rfl 8 (by decide) fl_X2_31 rfl rfl hin rfl rfl rfl (by simp [hup]) (Nat.le_of_ble_eq_true rfl) dX2_init_50 ?_
  refine z_aload_n C dX2_init_53 0 rfl ?_
  refine z_bipush C (28 : Int32) dX2_init_54 (by decide) ?_
  refine z_newa (atype := .int) (ty := .int) (t0 := 0) C (28, .inl (fun _ => 0)) rfl ac_int rfl (fun q => q) rfl (by decide) (by decide) (by decide) (Or.inr ⟨.inl (zI E, 28, .inl (fun _ => 0)), by rw [hsz]; simp [hup] <;> omega⟩) (by rw [hR]; decide) dX2_init_56 (b + 5) (by omega) ?_
  refine z_putF (ci := 2) (fs := [.int 0, .int (-1), .int 0, .int 12, .int 12, .ref (b + 1), .ref (b + 2), .ref (b + 3), .ref (b + 4), .null, .null]) C inX2 tyX2 tyX2_ok nmX2 rfl 9 (by decide) fl_X2_34 rfl rfl hin rfl rfl rfl (by simp [hup]) (Nat.le_of_ble_eq_true rfl) dX2_init_58 ?_
  refine z_aload_n C dX2_init_61 0 rfl ?_
  refine z_bipush C (25 : Int32) dX2_init_62 (by decide) ?_
  refine z_newa (atype := .int) (ty := .int) (t0 := 0) C (25, .inl (fun _ => 0)) rfl ac_int rfl (fun q => q) rfl (by decide) (by decide) (by decide) (Or.inr ⟨.inl (zI E, 28, .inl (fun _ => 0)), by rw [hsz]; simp [hup] <;> omega⟩) (by rw [hR]; decide) dX2_init_64 (b + 6) (by omega) ?_
  refine z_putF (ci := 2) (fs := [.int 0, .int (-1), .int 0, .int 12, .int 12, .ref (b + 1), .ref (b + 2), .ref (b + 3), .ref (b + 4), .ref (b + 5), .null]) C inX2 tyX2 tyX2_ok nmX2 rfl 10 (by decide) fl_X2_37 rfl rfl hin rfl rfl rfl (by simp [hup]) (Nat.le_of_ble_eq_true rfl) dX2_init_66 ?_
  refine z_heap (h' := (pLn E h b)) (by
    funext q
    by_cases hq : q < b ∨ b + 7 ≤ q
    · have e0 : q ≠ b := by omega
      have e1 : q ≠ b + 1 := by omega
      have e2 : q ≠ b + 2 := by omega
      have e3 : q ≠ b + 3 := by omega
      have e4 : q ≠ b + 4 := by omega
      have e5 : q ≠ b + 5 := by omega
      have e6 : q ≠ b + 6 := by omega
      simp [hup, pLn, e0, e1, e2, e3, e4, e5, e6]
    · have hc : q = b ∨ q = b + 1 ∨ q = b + 2 ∨ q = b + 3 ∨ q = b + 4 ∨ q = b + 5 ∨ q = b + 6 := by omega
      rcases hc with rfl | rfl | rfl | rfl | rfl | rfl | rfl <;> simp [hup, pLn]) ?_
  exact z_return C dX2_init_69
def GI : GS := (fun _ => 0, fun k => if k = 1 then -1 else if k = 3 then 12 else if k = 4 then 12 else 0, fun _ _ => 0)
set_option maxRecDepth 100000 in
set_option maxHeartbeats 4000000 in
theorem ct_X0_init {E : zE} {l : Launch} {h : Hp} {g : Nat} {n : Nat} {G0 : GS} (hf : f_X0_becomeNew n GI = some G0) : zMc E l 5 yX0_init cX0_init 1 [.ref g] (hup h g (.inr (0, [.int 0, .int 0, .int 0, .int 0, .int 0, .int 0, .int 0, .null, .int 0, .null, .null, .null, .null]))) (g + 1) 11 240 (pG E h g G0) := by
  refine zMc_of (lv := [(0, .ref g)]) rfl (by decide +kernel) (Nat.le_of_ble_eq_true rfl) rfl (fun X hX C hsz hAO hin hR => ?_)
  subst hX
  replace C : zC E X RX0 cX0_init 1 none 5 := C
  refine z_aload_n C dX0_init_0 0 rfl ?_
  refine z_objInit C ml_X0_3 (by decide) (Nat.le_of_ble_eq_true rfl) dX0_init_1 ?_
  refine z_aload_n C dX0_init_4 0 rfl ?_
  refine z_bipush C (28 : Int32) dX0_init_5 (by decide) ?_
  refine z_newa (atype := .int) (ty := .int) (t0 := 0) C (28, .inl (fun _ => 0)) rfl ac_int rfl (fun q => q) rfl (by decide) (by decide) (by decide) (Or.inl rfl) (by rw [hR]; decide) dX0_init_7 (g + 1) (by omega) ?_
  refine z_putF (ci := 0) (fs := [.int 0, .int 0, .int 0, .int 0, .int 0, .int 0, .int 0, .null, .int 0, .null, .null, .null, .null]) C inX0 tyX0 tyX0_ok nmX0 rfl 7 (by decide) fl_X0_9 rfl rfl hin rfl rfl rfl (by simp [hup, pLn, Nat.add_assoc]) (Nat.le_of_ble_eq_true rfl) dX0_init_9 ?_
  refine z_aload_n C dX0_init_12 0 rfl ?_
  refine z_bipush C (28 : Int32) dX0_init_13 (by decide) ?_
  refine z_newa (atype := .int) (ty := .int) (t0 := 0) C (28, .inl (fun _ => 0)) rfl ac_int rfl (fun q => q) rfl (by decide) (by decide) (by decide) (Or.inr ⟨.inl (zI E, 28, .inl (fun _ => 0)), by rw [hsz]; simp [hup] <;> omega⟩) (by rw [hR]; decide) dX0_init_15 (g + 2) (by omega) ?_
  refine z_putF (ci := 0) (fs := [.int 0, .int 0, .int 0, .int 0, .int 0, .int 0, .int 0, .ref (g + 1), .int 0, .null, .null, .null, .null]) C inX0 tyX0 tyX0_ok nmX0 rfl 9 (by decide) fl_X0_15 rfl rfl hin rfl rfl rfl (by simp [hup, pLn, Nat.add_assoc]) (Nat.le_of_ble_eq_true rfl) dX0_init_17 ?_
  refine z_aload_n C dX0_init_20 0 rfl ?_
  refine z_iconst C (4 : Int32) dX0_init_21 (by decide) ?_
  refine z_newa (atype := .int) (ty := .int) (t0 := 0) C (4, .inl (fun _ => 0)) rfl ac_int rfl (fun q => q) rfl (by decide) (by decide) (by decide) (Or.inr ⟨.inl (zI E, 28, .inl (fun _ => 0)), by rw [hsz]; simp [hup] <;> omega⟩) (by rw [hR]; decide) dX0_init_22 (g + 3) (by omega) ?_
  refine z_putF (ci := 0) (fs := [.int 0, .int 0, .int 0, .int 0, .int 0, .int 0, .int 0, .ref (g + 1), .int 0, .ref (g + 2), .null, .null, .null]) C inX0 tyX0 tyX0_ok nmX0 rfl 10 (by decide) fl_X0_18 rfl rfl hin rfl rfl rfl (by simp [hup, pLn, Nat.add_assoc]) (Nat.le_of_ble_eq_true rfl) dX0_init_24 ?_
  refine z_aload_n C dX0_init_27 0 rfl ?_
  refine z_iconst C (4 : Int32) dX0_init_28 (by decide) ?_
  refine z_newa (atype := .int) (ty := .int) (t0 := 0) C (4, .inl (fun _ => 0)) rfl ac_int rfl (fun q => q) rfl (by decide) (by decide) (by decide) (Or.inr ⟨.inl (zI E, 4, .inl (fun _ => 0)), by rw [hsz]; simp [hup] <;> omega⟩) (by rw [hR]; decide) dX0_init_29 (g + 4) (by omega) ?_
  refine z_putF (ci := 0) (fs := [.int 0, .int 0, .int 0, .int 0, .int 0, .int 0, .int 0, .ref (g + 1), .int 0, .ref (g + 2), .ref (g + 3), .null, .null]) C inX0 tyX0 tyX0_ok nmX0 rfl 11 (by decide) fl_X0_21 rfl rfl hin rfl rfl rfl (by simp [hup, pLn, Nat.add_assoc]) (Nat.le_of_ble_eq_true rfl) dX0_init_31 ?_
  refine z_aload_n C dX0_init_34 0 rfl ?_
  refine z_new (ci := 2) C [.int 0, .int 0, .int 0, .int 0, .int 0, .null, .null, .null, .null, .null, .null] inX2 tyX2 tyX2_ok kl_X0_24 ib_X2 ini_X2 rfl (by decide +kernel) (Or.inr ⟨.inl (zI E, 4, .inl (fun _ => 0)), by rw [hsz]; simp [hup] <;> omega⟩) (by rw [hR]; decide) dX0_init_35 (g + 5) (by omega) ?_
  refine z_dup C dX0_init_38 rfl ?_
  refine z_callIN (sz := g + 6) (host := "SpiralDominoes") C hAO [] [.ref (g + 5), .ref g] (ct_X2_init (b := g + 5)) (by omega) (Or.inr ⟨.inr (2, [.int 0, .int 0, .int 0, .int 0, .int 0, .null, .null, .null, .null, .null, .null]), by rw [hsz]; simp [hup] <;> omega⟩) co_X2_init (by decide +kernel) im_X2_init ini_X2 rfl ⟨by decide +kernel, by decide +kernel, by decide +kernel⟩ (by decide) (by decide) rfl (Nat.le_of_ble_eq_true rfl) (by rw [hR]; decide) dX0_init_39 ?_
  refine z_putF (ci := 0) (fs := [.int 0, .int 0, .int 0, .int 0, .int 0, .int 0, .int 0, .ref (g + 1), .int 0, .ref (g + 2), .ref (g + 3), .ref (g + 4), .null]) C inX0 tyX0 tyX0_ok nmX0 rfl 12 (by decide) fl_X0_27 rfl rfl hin rfl rfl rfl (by simp [hup, pLn, Nat.add_assoc]) (Nat.le_of_ble_eq_true rfl) dX0_init_42 ?_
  refine z_aload_n C dX0_init_45 0 rfl ?_
  refine z_heap (h' := (pG E h g GI)) (by
    funext q
    by_cases hq : q < g ∨ g + 12 ≤ q
    · have e0 : q ≠ g := by omega
      have e1 : q ≠ g + 1 := by omega
      have e2 : q ≠ g + 2 := by omega
      have e3 : q ≠ g + 3 := by omega
      have e4 : q ≠ g + 4 := by omega
      have e5 : q ≠ g + 5 := by omega
      have e6 : q ≠ g + 6 := by omega
      have e7 : q ≠ g + 7 := by omega
      have e8 : q ≠ g + 8 := by omega
      have e9 : q ≠ g + 9 := by omega
      have e10 : q ≠ g + 10 := by omega
      have e11 : q ≠ g + 11 := by omega
      simp [hup, pG, pLn, gO, gLO, GI, e0, e1, e2, e3, e4, e5, e6, e7, e8, e9, e10, e11]
    · have hc : q = g ∨ q = g + 1 ∨ q = g + 2 ∨ q = g + 3 ∨ q = g + 4 ∨ q = g + 5 ∨ q = g + 6 ∨ q = g + 7 ∨ q = g + 8 ∨ q = g + 9 ∨ q = g + 10 ∨ q = g + 11 := by omega
      rcases hc with rfl | rfl | rfl | rfl | rfl | rfl | rfl | rfl | rfl | rfl | rfl | rfl <;> simp [hup, pG, pLn, gO, gLO, GI]) ?_
  refine z_callV (Cn := RX0) (T := TX0) (N := 13) (ci := 0) C 49 [] [] (ct_X0_becomeNew hf) co_X0_becomeNew ml_X0_31 im_X0_becomeNew se_X0_becomeNew ini_X0 rfl pG_o ⟨rfl, by decide +kernel, by decide +kernel, by decide +kernel⟩ (by decide) (by decide) rfl (Nat.le_of_ble_eq_true rfl) (by rw [hR]; decide) rfl dX0_init_46 ?_
  skip
  exact z_return C dX0_init_49
def hSl (E : zE) (h : Hp) (b : Nat) (G0 : GS) : Hp := fun q => if q = b then some (.inr (3, [.ref (b + 1), .int 0])) else pG E h (b + 1) G0 q
set_option maxRecDepth 100000 in
set_option maxHeartbeats 4000000 in
theorem ct_X3_init {E : zE} {l : Launch} {h : Hp} {b : Nat} {n : Nat} {G0 : GS} (hf : f_X0_becomeNew n GI = some G0) : zMc E l 6 yX3_init cX3_init 1 [.ref b] (hup h b (.inr (3, [.null, .int 0]))) (b + 1) 12 253 (hSl E h b G0) := by
  refine zMc_of (lv := [(0, .ref b)]) rfl (by decide +kernel) (Nat.le_of_ble_eq_true rfl) rfl (fun X hX C hsz hAO hin hR => ?_)
  subst hX
  replace C : zC E X RX3 cX3_init 1 none 6 := C
  refine z_aload_n C dX3_init_0 0 rfl ?_
  refine z_objInit C ml_X3_1 (by decide) (Nat.le_of_ble_eq_true rfl) dX3_init_1 ?_
  refine z_aload_n C dX3_init_4 0 rfl ?_
  refine z_new (ci := 0) C [.int 0, .int 0, .int 0, .int 0, .int 0, .int 0, .int 0, .null, .int 0, .null, .null, .null, .null] inX0 tyX0 tyX0_ok kl_X3_7 ib_X0 ini_X0 rfl (by decide +kernel) (Or.inl rfl) (by rw [hR]; decide) dX3_init_5 (b + 1) (by omega) ?_
  refine z_dup C dX3_init_8 rfl ?_
  refine z_callI (sz := b + 1 + 1) C hAO [] [.ref (b + 1), .ref b] (ct_X0_init (g := b + 1) hf) (by omega) (Or.inr ⟨.inr (0, [.int 0, .int 0, .int 0, .int 0, .int 0, .int 0, .int 0, .null, .int 0, .null, .null, .null, .null]), by rw [hsz]; simp [hup] <;> omega⟩) co_X0_init ml_X3_9 im_X0_init ini_X0 rfl ⟨by decide +kernel, by decide +kernel, by decide +kernel⟩ (by decide) (by decide) rfl (Nat.le_of_ble_eq_true rfl) (by rw [hR]; decide) dX3_init_9 ?_
  refine z_putF (ci := 3) (fs := [.null, .int 0]) C inX3 tyX3 tyX3_ok nmX3 rfl 0 (by decide) fl_X3_10 rfl rfl hin rfl rfl rfl ((pG_out (Or.inl (by omega))).trans (by simp [hup])) (Nat.le_of_ble_eq_true rfl) dX3_init_12 ?_
  refine z_heap (h' := hSl E h b G0) (by
    funext q
    by_cases e0 : q = b
    · simp [hup, hSl, e0]
    · simp only [hup, hSl, if_neg e0, pG_eq]) ?_
  exact z_return C dX3_init_15
def hHi (E : zE) (h : Hp) (b i : Nat) (G0 : GS) : Hp := fun q => if q = b then some (.inr (1, [.ref (b + 1), .int 0, .int 0])) else if q = b + 1 then some (.inl (zG E, 14, .inr (.inr (.inr (.inr (fun j => if j < i then some (b + 2 + 12 * j) else none)))))) else if b + 2 ≤ q ∧ q < b + 2 + 12 * i then some (gC E (b + 2 + 12 * ((q - (b + 2)) / 12)) G0 ((q - (b + 2)) % 12)) else h q
theorem hHi_step {E : zE} {h : Hp} {b i : Nat} {G0 : GS} : hup (pG E (hHi E h b i G0) (b + 2 + 12 * i) G0) (b + 1) (.inl (zG E, 14, .inr (.inr (.inr (.inr (va_up (fun j => if j < i then some (b + 2 + 12 * j) else none) i (some (b + 2 + 12 * i)))))))) = hHi E h b (i + 1) G0 := by
  funext q
  by_cases e1 : q = b + 1
  · subst e1
    simp only [hup, hHi, if_true]
    rw [if_neg (by omega)]
    congr 8
    funext j
    unfold va_up
    by_cases ej : j = i
    · subst ej; simp
    · by_cases ej2 : j < i
      · rw [if_neg ej]
        show (if j < i then _ else _) = _
        rw [if_pos ej2, if_pos (by omega)]
      · rw [if_neg ej]
        show (if j < i then _ else _) = _
        rw [if_neg ej2, if_neg (by omega)]
  · simp only [hup, if_neg e1, pG_eq]
    by_cases hr : b + 2 + 12 * i ≤ q ∧ q < b + 2 + 12 * i + 12
    · rw [if_pos hr]
      simp only [hHi, if_neg e1]
      rw [if_neg (by omega), if_pos (by omega)]
      have d1 : (q - (b + 2)) / 12 = i := by omega
      have d2 : (q - (b + 2)) % 12 = q - (b + 2 + 12 * i) := by omega
      rw [d1, d2]
    · rw [if_neg hr]
      simp only [hHi, if_neg e1]
      by_cases e0 : q = b
      · rw [if_pos e0, if_pos e0]
      · rw [if_neg e0, if_neg e0]
        by_cases h2 : b + 2 ≤ q ∧ q < b + 2 + 12 * i
        · rw [if_pos h2, if_pos (by omega)]
        · rw [if_neg h2, if_neg (by omega)]
theorem hHi_last {E : zE} {h : Hp} {b i : Nat} {G0 : GS} : ∃ y, hHi E h b i G0 (b + 1 + 12 * i) = some y := by
  cases i with
  | zero => exact ⟨.inl (zG E, 14, .inr (.inr (.inr (.inr (fun j => if j < 0 then some (b + 2 + 12 * j) else none))))), by simp [hHi]⟩
  | succ i => exact ⟨_, by simp only [hHi]; rw [if_neg (by omega), if_neg (by omega), if_pos (by omega)]⟩
set_option maxRecDepth 100000 in
set_option maxHeartbeats 4000000 in
theorem ct_X1_init {E : zE} {l : Launch} {h : Hp} {b n : Nat} {G0 : GS} (hf : f_X0_becomeNew n GI = some G0) : zMc E l 6 yX1_init cX1_init 2 [.ref b] (hup h b (.inr (1, [.null, .int 0, .int 0]))) (b + 1) 169 3556 (hHi E h b 14 G0) := by
  refine zMc_of (lv := [(0, .ref b)]) rfl (by decide +kernel) (Nat.le_of_ble_eq_true rfl) rfl (fun X hX C hsz hAO hin hR => ?_)
  subst hX
  replace C : zC E X RX1 cX1_init 2 none 6 := C
  have key : ∀ (j i : Nat), i + j = 14 → zW E X 2 (1 + 12 * i) (14 + 253 * i) (MQ (xb X) (zQ E none (hHi E h b 14 G0)) (xa X) (xs X) 169 3556 (zA E)) 15 (hHi E h b i G0) [(1, .int (nI i)), (0, .ref b)] [] := by
    intro j
    induction j with
    | zero =>
      intro i hi
      obtain rfl : i = 14 := by omega
      refine z_iload_n C dX1_init_15 0 rfl ?_
      refine z_bipush C (14 : Int32) dX1_init_16 (by decide) ?_
      refine z_icmp_ge C 40 dX1_init_18 (by decide) (fun c18 => ?_) (fun c18 => absurd (by decide) c18)
      exact z_return C dX1_init_40
    | succ j ih =>
      intro i hi
      have hi14 : i < 14 := by omega
      refine z_iload_n C dX1_init_15 0 rfl ?_
      refine z_bipush C (14 : Int32) dX1_init_16 (by decide) ?_
      refine z_icmp_ge C 40 dX1_init_18 (by decide) (fun c18 => absurd c18 (nI_ge (a := i) (b := 14) hi14 (by decide))) (fun c18 => ?_)
      refine z_aload_n C dX1_init_21 1 rfl ?_
      refine z_get (ci := 1) (fs := [.ref (b + 1), .int 0, .int 0]) C inX1 rfl 0 (by decide) fl_X1_11 rfl (by simp [hHi]) (.ref (b + 1)) rfl dX1_init_22 ?_
      refine z_iload_n C dX1_init_25 0 rfl ?_
      refine z_new (ci := 0) C [.int 0, .int 0, .int 0, .int 0, .int 0, .int 0, .int 0, .null, .int 0, .null, .null, .null, .null] inX0 tyX0 tyX0_ok kl_X1_9 ib_X0 ini_X0 rfl (by decide +kernel) (Or.inr (by rw [hsz, show 1 + 12 * i - 1 = 12 * i by omega]; exact hHi_last)) (by rw [hR]; show _ ≤ 169 ∧ _ ≤ 3556; omega) dX1_init_26 (b + 2 + 12 * i) (by omega) ?_
      refine z_dup C dX1_init_29 rfl ?_
      refine z_callI (sz := b + 2 + 12 * i + 1) C hAO [] [.ref (b + 2 + 12 * i), .int (nI i), .ref (b + 1)] (ct_X0_init (g := b + 2 + 12 * i) hf) (by omega) (Or.inr ⟨.inr (0, [.int 0, .int 0, .int 0, .int 0, .int 0, .int 0, .int 0, .null, .int 0, .null, .null, .null, .null]), by rw [hsz, show b + 1 + (1 + 12 * i + 1 - 1) = b + 2 + 12 * i by omega]; simp [hup]⟩) co_X0_init ml_X1_17 im_X0_init ini_X0 rfl ⟨by decide +kernel, by decide +kernel, by decide +kernel⟩ (by decide) (by decide) rfl (Nat.le_of_ble_eq_true rfl) (by rw [hR]; show _ ≤ 169 ∧ _ ≤ 3556; omega) dX1_init_30 ?_
      refine z_aast (N := 14) (vs := gO (b + 2 + 12 * i) G0) (f := fun j => if j < i then some (b + 2 + 12 * j) else none) C ((pG_out (Or.inl (by omega))).trans (by simp [hHi])) pG_o (vp_in_nI hi14 (by decide)) dX1_init_33 (hHi E h b (i + 1) G0) (by rw [nI_clamp (by omega)]; exact hHi_step) ?_
      refine z_iinc (lv' := [(1, .int (nI (i + 1))), (0, .ref b)]) C dX1_init_34 0 (nI (i + 1)) rfl (nI_succ i).symm (by decide) rfl ?_
      refine z_goto C 15 dX1_init_37 (by decide) ?_
      have h9 := ih (i + 1) (by omega)
      rw [show 1 + 12 * (i + 1) = 1 + 12 * i + 1 + 11 by omega, show 14 + 253 * (i + 1) = 14 + 253 * i + 13 + 240 by omega] at h9
      exact h9
  refine z_aload_n C dX1_init_0 0 rfl ?_
  refine z_objInit C ml_X1_3 (by decide) (Nat.le_of_ble_eq_true rfl) dX1_init_1 ?_
  refine z_aload_n C dX1_init_4 0 rfl ?_
  refine z_bipush C (14 : Int32) dX1_init_5 (by decide) ?_
  refine z_newG (N := 14) C hAO kl_X1_9 (by decide) (by decide) (by decide) (Or.inl rfl) (by rw [hR]; decide) dX1_init_7 (b + 1) (by omega) ?_
  refine z_putF (ci := 1) (fs := [.null, .int 0, .int 0]) C inX1 tyX1 tyX1_ok nmX1 rfl 0 (by decide) fl_X1_11 rfl rfl hin rfl rfl rfl (by simp [hup]) (Nat.le_of_ble_eq_true rfl) dX1_init_10 ?_
  refine z_iconst C (0 : Int32) dX1_init_13 (by decide) ?_
  refine z_istore_n (lv' := [(1, .int (0 : Int32)), (0, .ref b)]) C dX1_init_14 (by decide) rfl ?_
  refine z_heap (h' := hHi E h b 0 G0) (by
    funext q
    by_cases e0 : q = b
    · subst e0; simp [hup, hHi]
    · by_cases e1 : q = b + 1
      · subst e1; simp [hup, hHi]
      · simp only [hup, hHi, if_neg e0, if_neg e1]
        rw [if_neg (by omega)]) ?_
  exact key 14 0 (by omega)
def cI0 (G0 : GS) : CS := (fun _ => 0, (0, fun _ => 0), fun _ => G0)
theorem hHi_out {E : zE} {h : Hp} {b i q : Nat} {G0 : GS} (hq : q < b) : hHi E h b i G0 q = h q := by
  simp only [hHi]
  rw [if_neg (by omega), if_neg (by omega), if_neg (by omega)]
theorem hSl_out {E : zE} {h : Hp} {b q : Nat} {G0 : GS} (hq : q < b) : hSl E h b G0 q = h q := by
  simp only [hSl]
  rw [if_neg (by omega), pG_out (Or.inl (by omega))]
theorem gC_same {E : zE} {g g' : Nat} {G : GS} {k k' : Nat} (hg : g = g') (hk : k = k') : some (gC E g G k) = some (gC E g' G k') := by rw [hg, hk]
theorem pC_made {E : zE} {h : Hp} {x : Nat} {G0 : GS} {o0 o1 o2 o3 o4 o5 : va_E} (q : Nat) :
    hup (hSl E (hup (hSl E (hup (hHi E (hup (pG E (hup (pG E (hup (pT E (hup h x o0) (x + 1) (0, fun _ => 0)) x o1) (x + 3) G0) x o2) (x + 15) G0) x o3) (x + 27) 14 G0) x o4) (x + 197) G0) x o5) (x + 210) G0) x (.inr (5, cO x)) q = pC E h x (cI0 G0) q := by
  by_cases e0 : q = x
  · subst e0
    rw [pC_o]
    simp [hup]
  have hx : ∀ (H : Hp) (o : va_E), hup H x o q = H q := fun H o => hup_o e0
  by_cases h1 : q < x
  · simp only [hx, hSl_out (show q < x + 210 by omega), hSl_out (show q < x + 197 by omega), hHi_out (show q < x + 27 by omega), pG_out (Or.inl (show q < x + 15 by omega)), pG_out (Or.inl (show q < x + 3 by omega))]
    simp only [pT, pC]
    rw [if_neg (by omega), if_neg (by omega), hx, if_pos h1]
  by_cases h2 : q < x + 3
  · simp only [hx, hSl_out (show q < x + 210 by omega), hSl_out (show q < x + 197 by omega), hHi_out (show q < x + 27 by omega), pG_out (Or.inl (show q < x + 15 by omega)), pG_out (Or.inl (show q < x + 3 by omega))]
    have hc : q = x + 1 ∨ q = x + 2 := by omega
    rcases hc with rfl | rfl
    · exact pT_o.trans (pC_at (c := cI0 G0) (k := 1) (e := .inr (4, tO (x + 1) (0, fun _ => 0))) rfl).symm
    · exact (pT_a (a := x + 1)).trans (pC_at (c := cI0 G0) (k := 2) (e := .inl (zI E, 120, .inl (fun _ => 0))) rfl).symm
  have hg : ∀ i, gi (q - x) = some i → pC E h x (cI0 G0) q = some (gC E (x + ga i) G0 (q - x - ga i)) := fun i hi => by
    have h9 := pC_at (h0 := h) (cC_g (E := E) (x := x) (c := cI0 G0) hi)
    rw [show x + (q - x) = q by omega] at h9
    exact h9
  by_cases h3 : q < x + 15
  · simp only [hx, hSl_out (show q < x + 210 by omega), hSl_out (show q < x + 197 by omega), hHi_out (show q < x + 27 by omega), pG_out (Or.inl (show q < x + 15 by omega))]
    rw [pG_eq, if_pos (by omega), hg 0 (gi_of (by decide) (by simp [ga]; omega) (by simp [ga]; omega))]
    exact gC_same rfl (by simp [ga]; omega)
  by_cases h4 : q < x + 27
  · simp only [hx, hSl_out (show q < x + 210 by omega), hSl_out (show q < x + 197 by omega), hHi_out (show q < x + 27 by omega)]
    rw [pG_eq, if_pos (by omega), hg 1 (gi_of (by decide) (by simp [ga]; omega) (by simp [ga]; omega))]
    exact gC_same rfl (by simp [ga]; omega)
  by_cases h5 : q < x + 197
  · simp only [hx, hSl_out (show q < x + 210 by omega), hSl_out (show q < x + 197 by omega)]
    simp only [hHi]
    by_cases e1 : q = x + 27
    · subst e1
      rw [if_pos rfl]
      exact (pC_h (c := cI0 G0)).symm
    · rw [if_neg e1]
      by_cases e2 : q = x + 27 + 1
      · subst e2
        rw [if_pos rfl]
        refine Eq.trans ?_ (pC_st (c := cI0 G0)).symm
        congr 8
        funext j
        show _ = stA x j
        unfold stA
        by_cases hj : j < 14
        · rw [if_pos hj, if_pos hj]
          have hga : ga (2 + j) = 5 + 12 * (2 + j) := by unfold ga; rw [if_neg (by omega), if_neg (by omega), if_pos (by omega)]
          rw [hga]
          congr 1
          omega
        · rw [if_neg hj, if_neg hj]
      · rw [if_neg e2, if_pos (by omega)]
        have hi : 2 ≤ (q - x - 5) / 12 ∧ (q - x - 5) / 12 < 16 := by omega
        have hga : ga ((q - x - 5) / 12) = 5 + 12 * ((q - x - 5) / 12) := by unfold ga; rw [if_neg (by omega), if_neg (by omega), if_pos (by omega)]
        rw [hg ((q - x - 5) / 12) (gi_of (by omega) (by rw [hga]; omega) (by rw [hga]; omega))]
        exact gC_same (by rw [hga]; omega) (by rw [hga]; omega)
  by_cases h6 : q < x + 210
  · simp only [hx, hSl_out (show q < x + 210 by omega)]
    simp only [hSl]
    by_cases e1 : q = x + 197
    · subst e1
      rw [if_pos rfl]
      exact (pC_sl (c := cI0 G0) (s := 0) (Or.inl rfl)).symm
    · rw [if_neg e1, pG_eq, if_pos (by omega), hg 16 (gi_of (by decide) (by simp [ga]; omega) (by simp [ga]; omega))]
      exact gC_same rfl (by simp [ga]; omega)
  by_cases h7 : q < x + 223
  · simp only [hx]
    simp only [hSl]
    by_cases e1 : q = x + 210
    · subst e1
      rw [if_pos rfl]
      exact (pC_sl (c := cI0 G0) (s := 1) (Or.inr rfl)).symm
    · rw [if_neg e1, pG_eq, if_pos (by omega), hg 17 (gi_of (by decide) (by simp [ga]; omega) (by simp [ga]; omega))]
      exact gC_same rfl (by simp [ga]; omega)
  · have hn : gi (q - x) = none := by
      unfold gi
      rw [if_neg (by omega), if_neg (by omega), if_neg (by omega), if_neg (by omega), if_neg (by omega), if_neg (by omega), if_neg (by omega), if_neg (by omega), if_neg (by omega)]
    have hc : cC E x (cI0 G0) (q - x) = none := by
      unfold cC
      rw [if_neg (by omega), if_neg (by omega), if_neg (by omega), if_neg (by omega), if_neg (by omega), if_neg (by omega), if_neg (by omega), hn]
    have hp : pC E h x (cI0 G0) q = h q := by
      unfold pC
      rw [if_neg (by omega), hc]
    rw [hp]
    simp only [hx]
    simp only [hSl]
    rw [if_neg (by omega), pG_out (Or.inr (by omega)), hx]
    simp only [hSl]
    rw [if_neg (by omega), pG_out (Or.inr (by omega)), hx]
    simp only [hHi]
    rw [if_neg (by omega), if_neg (by omega), if_neg (by omega), hx, pG_out (Or.inr (by omega)), hx, pG_out (Or.inr (by omega)), hx]
    simp only [pT]
    rw [if_neg (by omega), if_neg (by omega), hx]
set_option maxRecDepth 100000 in
set_option maxHeartbeats 4000000 in
theorem ct_X5_init {E : zE} {l : Launch} {h : Hp} {x : Nat} {n : Nat} {G0 : GS} (hf : f_X0_becomeNew n GI = some G0) : zMc E l 7 yX5_init cX5_init 1 [.ref x] (hup h x (.inr (5, [.null, .null, .null, .null, .null, .null]))) (x + 1) 222 4697 (pC E h x (cI0 G0)) := by
  refine zMc_of (lv := [(0, .ref x)]) rfl (by decide +kernel) (Nat.le_of_ble_eq_true rfl) rfl (fun X hX C hsz hAO hin hR => ?_)
  subst hX
  replace C : zC E X RX5 cX5_init 1 none 7 := C
  refine z_aload_n C dX5_init_0 0 rfl ?_
  refine z_objInit C ml_X5_1 (by decide) (Nat.le_of_ble_eq_true rfl) dX5_init_1 ?_
  refine z_aload_n C dX5_init_4 0 rfl ?_
  refine z_new (ci := 4) C [.null, .int 0] inX4 tyX4 tyX4_ok kl_X5_7 ib_X4 ini_X4 rfl (by decide +kernel) (Or.inl rfl) (by rw [hR]; decide) dX5_init_5 (x + 1) (by omega) ?_
  refine z_dup C dX5_init_8 rfl ?_
  refine z_callIN (sz := x + 1 + 1) (host := "SpiralDominoes") C hAO [] [.ref (x + 1), .ref x] (ct_X4_init (a := (x + 1))) (by omega) (Or.inr ⟨.inr (4, [.null, .int 0]), by rw [hsz]; simp [hup] <;> omega⟩) co_X4_init (by decide +kernel) im_X4_init ini_X4 rfl ⟨by decide +kernel, by decide +kernel, by decide +kernel⟩ (by decide) (by decide) rfl (Nat.le_of_ble_eq_true rfl) (by rw [hR]; decide) dX5_init_9 ?_
  refine z_putF (ci := 5) (fs := [.null, .null, .null, .null, .null, .null]) C inX5 tyX5 tyX5_ok nmX5 rfl 0 (by decide) fl_X5_10 rfl rfl hin rfl rfl rfl (by simp [hup, pT, Nat.add_assoc]) (Nat.le_of_ble_eq_true rfl) dX5_init_12 ?_
  refine z_aload_n C dX5_init_15 0 rfl ?_
  refine z_new (ci := 0) C [.int 0, .int 0, .int 0, .int 0, .int 0, .int 0, .int 0, .null, .int 0, .null, .null, .null, .null] inX0 tyX0 tyX0_ok kl_X5_16 ib_X0 ini_X0 rfl (by decide +kernel) (Or.inr ⟨.inl (zI E, 120, .inl (fun _ => 0)), by rw [hsz]; exact (hup_o (by omega)).trans (pT_a (a := x + 1) (T := (0, fun _ => 0)))⟩) (by rw [hR]; decide) dX5_init_16 (x + 3) (by omega) ?_
  refine z_dup C dX5_init_19 rfl ?_
  refine z_callI (sz := x + 3 + 1) C hAO [] [.ref (x + 3), .ref x] (ct_X0_init (g := (x + 3)) hf) (by omega) (Or.inr ⟨.inr (0, [.int 0, .int 0, .int 0, .int 0, .int 0, .int 0, .int 0, .null, .int 0, .null, .null, .null, .null]), by rw [hsz]; simp [hup] <;> omega⟩) co_X0_init ml_X5_18 im_X0_init ini_X0 rfl ⟨by decide +kernel, by decide +kernel, by decide +kernel⟩ (by decide) (by decide) rfl (Nat.le_of_ble_eq_true rfl) (by rw [hR]; decide) dX5_init_20 ?_
  refine z_putF (ci := 5) (fs := [.ref (x + 1), .null, .null, .null, .null, .null]) C inX5 tyX5 tyX5_ok nmX5 rfl 1 (by decide) fl_X5_19 rfl rfl hin rfl rfl rfl ((pG_out (Or.inl (by omega))).trans (by simp [hup])) (Nat.le_of_ble_eq_true rfl) dX5_init_23 ?_
  refine z_aload_n C dX5_init_26 0 rfl ?_
  refine z_new (ci := 0) C [.int 0, .int 0, .int 0, .int 0, .int 0, .int 0, .int 0, .null, .int 0, .null, .null, .null, .null] inX0 tyX0 tyX0_ok kl_X5_16 ib_X0 ini_X0 rfl (by decide +kernel) (Or.inr ⟨_, by rw [hsz]; exact (hup_o (by omega)).trans (pG_a9 (g := (x + 3)))⟩) (by rw [hR]; decide) dX5_init_27 (x + 15) (by omega) ?_
  refine z_dup C dX5_init_30 rfl ?_
  refine z_callI (sz := x + 15 + 1) C hAO [] [.ref (x + 15), .ref x] (ct_X0_init (g := (x + 15)) hf) (by omega) (Or.inr ⟨.inr (0, [.int 0, .int 0, .int 0, .int 0, .int 0, .int 0, .int 0, .null, .int 0, .null, .null, .null, .null]), by rw [hsz]; simp [hup] <;> omega⟩) co_X0_init ml_X5_18 im_X0_init ini_X0 rfl ⟨by decide +kernel, by decide +kernel, by decide +kernel⟩ (by decide) (by decide) rfl (Nat.le_of_ble_eq_true rfl) (by rw [hR]; decide) dX5_init_31 ?_
  refine z_putF (ci := 5) (fs := [.ref (x + 1), .ref (x + 3), .null, .null, .null, .null]) C inX5 tyX5 tyX5_ok nmX5 rfl 2 (by decide) fl_X5_23 rfl rfl hin rfl rfl rfl ((pG_out (Or.inl (by omega))).trans (by simp [hup])) (Nat.le_of_ble_eq_true rfl) dX5_init_34 ?_
  refine z_aload_n C dX5_init_37 0 rfl ?_
  refine z_new (ci := 1) C [.null, .int 0, .int 0] inX1 tyX1 tyX1_ok kl_X5_26 ib_X1 ini_X1 rfl (by decide +kernel) (Or.inr ⟨_, by rw [hsz]; exact (hup_o (by omega)).trans (pG_a9 (g := (x + 15)))⟩) (by rw [hR]; decide) dX5_init_38 (x + 27) (by omega) ?_
  refine z_dup C dX5_init_41 rfl ?_
  refine z_callI (sz := x + 27 + 1) C hAO [] [.ref (x + 27), .ref x] (ct_X1_init (b := (x + 27)) hf) (by omega) (Or.inr ⟨.inr (1, [.null, .int 0, .int 0]), by rw [hsz]; simp [hup] <;> omega⟩) co_X1_init ml_X5_28 im_X1_init ini_X1 rfl ⟨by decide +kernel, by decide +kernel, by decide +kernel⟩ (by decide) (by decide) rfl (Nat.le_of_ble_eq_true rfl) (by rw [hR]; decide) dX5_init_42 ?_
  refine z_putF (ci := 5) (fs := [.ref (x + 1), .ref (x + 3), .ref (x + 15), .null, .null, .null]) C inX5 tyX5 tyX5_ok nmX5 rfl 3 (by decide) fl_X5_29 rfl rfl hin rfl rfl rfl ((hHi_out (by omega)).trans (by simp [hup])) (Nat.le_of_ble_eq_true rfl) dX5_init_45 ?_
  refine z_aload_n C dX5_init_48 0 rfl ?_
  refine z_new (ci := 3) C [.null, .int 0] inX3 tyX3 tyX3_ok kl_X5_33 ib_X3 ini_X3 rfl (by decide +kernel) (Or.inr (by rw [hsz]; exact (hHi_last (b := x + 27) (i := 14)).imp (fun y hy => (hup_o (by omega)).trans hy))) (by rw [hR]; decide) dX5_init_49 (x + 197) (by omega) ?_
  refine z_dup C dX5_init_52 rfl ?_
  refine z_callIN (sz := x + 197 + 1) (host := "SpiralDominoes") C hAO [] [.ref (x + 197), .ref x] (ct_X3_init (b := (x + 197)) hf) (by omega) (Or.inr ⟨.inr (3, [.null, .int 0]), by rw [hsz]; simp [hup] <;> omega⟩) co_X3_init (by decide +kernel) im_X3_init ini_X3 rfl ⟨by decide +kernel, by decide +kernel, by decide +kernel⟩ (by decide) (by decide) rfl (Nat.le_of_ble_eq_true rfl) (by rw [hR]; decide) dX5_init_53 ?_
  refine z_putF (ci := 5) (fs := [.ref (x + 1), .ref (x + 3), .ref (x + 15), .ref (x + 27), .null, .null]) C inX5 tyX5 tyX5_ok nmX5 rfl 4 (by decide) fl_X5_36 rfl rfl hin rfl rfl rfl ((hSl_out (by omega)).trans (by simp [hup])) (Nat.le_of_ble_eq_true rfl) dX5_init_56 ?_
  refine z_aload_n C dX5_init_59 0 rfl ?_
  refine z_new (ci := 3) C [.null, .int 0] inX3 tyX3 tyX3_ok kl_X5_33 ib_X3 ini_X3 rfl (by decide +kernel) (Or.inr ⟨_, by rw [hsz]; exact (hup_o (by omega)).trans ((by simp only [hSl]; rw [if_neg (by omega)]; exact pG_a9 (g := (x + 197) + 1)))⟩) (by rw [hR]; decide) dX5_init_60 (x + 210) (by omega) ?_
  refine z_dup C dX5_init_63 rfl ?_
  refine z_callIN (sz := x + 210 + 1) (host := "SpiralDominoes") C hAO [] [.ref (x + 210), .ref x] (ct_X3_init (b := (x + 210)) hf) (by omega) (Or.inr ⟨.inr (3, [.null, .int 0]), by rw [hsz]; simp [hup] <;> omega⟩) co_X3_init (by decide +kernel) im_X3_init ini_X3 rfl ⟨by decide +kernel, by decide +kernel, by decide +kernel⟩ (by decide) (by decide) rfl (Nat.le_of_ble_eq_true rfl) (by rw [hR]; decide) dX5_init_64 ?_
  refine z_putF (ci := 5) (fs := [.ref (x + 1), .ref (x + 3), .ref (x + 15), .ref (x + 27), .ref (x + 197), .null]) C inX5 tyX5 tyX5_ok nmX5 rfl 5 (by decide) fl_X5_40 rfl rfl hin rfl rfl rfl ((hSl_out (by omega)).trans (by simp [hup])) (Nat.le_of_ble_eq_true rfl) dX5_init_67 ?_
  refine z_heap (h' := pC E h x (cI0 G0)) (by
    funext q
    exact pC_made q) ?_
  exact z_return C dX5_init_70
