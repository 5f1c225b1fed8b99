/-- a game, cell by cell -/
def gC (E : zE) (g : Nat) (G : GS) (k : Nat) : va_E := if k = 0 then .inr (0, gO g G) else if k = 1 then .inl (zI E, 28, .inl (G.2.2 0)) else if k = 2 then .inl (zI E, 28, .inl (G.2.2 1)) else if k = 3 then .inl (zI E, 4, .inl (G.2.2 2)) else if k = 4 then .inl (zI E, 4, .inl (G.2.2 3)) else if k = 5 then .inr (2, gLO g G) else if k = 6 then .inl (zI E, 28, .inl (G.2.2 4)) else if k = 7 then .inl (zI E, 28, .inl (G.2.2 5)) else if k = 8 then .inl (zI E, 28, .inl (G.2.2 6)) else if k = 9 then .inl (zI E, 28, .inl (G.2.2 7)) else if k = 10 then .inl (zI E, 28, .inl (G.2.2 8)) else .inl (zI E, 25, .inl (G.2.2 9))
theorem pG_eq {E : zE} {h0 : Hp} {g : Nat} {G : GS} (a : Nat) : pG E h0 g G a = if g ≤ a ∧ a < g + 12 then some (gC E g G (a - g)) else h0 a := by
  by_cases hr : g ≤ a ∧ a < g + 12
  · rw [if_pos hr]
    obtain ⟨k, hk, rfl⟩ : ∃ k, k < 12 ∧ a = g + k := ⟨a - g, by omega, by omega⟩
    have hk2 : k = 0 ∨ k = 1 ∨ k = 2 ∨ k = 3 ∨ k = 4 ∨ k = 5 ∨ k = 6 ∨ k = 7 ∨ k = 8 ∨ k = 9 ∨ k = 10 ∨ k = 11 := by omega
    rw [Nat.add_sub_cancel_left]
    rcases hk2 with rfl | rfl | rfl | rfl | rfl | rfl | rfl | rfl | rfl | rfl | rfl | rfl <;> simp [pG, gC]
  · rw [if_neg hr]
    have e0 : a ≠ g := by omega
    have e1 : a ≠ g + 1 := by omega
    have e2 : a ≠ g + 2 := by omega
    have e3 : a ≠ g + 3 := by omega
    have e4 : a ≠ g + 4 := by omega
    have e5 : a ≠ g + 5 := by omega
    have e6 : a ≠ g + 6 := by omega
    have e7 : a ≠ g + 7 := by omega
    have e8 : a ≠ g + 8 := by omega
    have e9 : a ≠ g + 9 := by omega
    have e10 : a ≠ g + 10 := by omega
    have e11 : a ≠ g + 11 := by omega
    simp [pG, e0, e1, e2, e3, e4, e5, e6, e7, e8, e9, e10, e11]
/-- where a game lies in the whole object: now, trial, the fourteen remembered ones, the two kept ones -/
def ga (i : Nat) : Nat := if i = 0 then 3 else if i = 1 then 15 else if i < 16 then 5 + 12 * i else if i = 16 then 198 else 211
def gi (k : Nat) : Option Nat := if k < 3 then none else if k < 15 then some 0 else if k < 27 then some 1 else if k < 29 then none else if k < 197 then some ((k - 5) / 12) else if k < 198 then none else if k < 210 then some 16 else if k < 211 then none else if k < 223 then some 17 else none
theorem gi_of {i k : Nat} (hi : i < 18) (h1 : ga i ≤ k) (h2 : k < ga i + 12) : gi k = some i := by
  have hc : i = 0 ∨ i = 1 ∨ (2 ≤ i ∧ i < 16) ∨ i = 16 ∨ i = 17 := by omega
  rcases hc with rfl | rfl | ⟨h3, h4⟩ | rfl | rfl
  · simp only [ga] at h1 h2
    unfold gi
    rw [if_neg (by simp at h1; omega), if_pos (by simp at h2; omega)]
  · simp only [ga] at h1 h2
    simp at h1 h2
    unfold gi
    rw [if_neg (by omega), if_neg (by omega), if_pos (by omega)]
  · have e : ga i = 5 + 12 * i := by unfold ga; rw [if_neg (by omega), if_neg (by omega), if_pos h4]
    rw [e] at h1 h2
    unfold gi
    rw [if_neg (by omega), if_neg (by omega), if_neg (by omega), if_neg (by omega), if_pos (by omega)]
    congr 1
    omega
  · simp [ga] at h1 h2
    unfold gi
    rw [if_neg (by omega), if_neg (by omega), if_neg (by omega), if_neg (by omega), if_neg (by omega), if_neg (by omega), if_pos (by omega)]
  · simp [ga] at h1 h2
    unfold gi
    rw [if_neg (by omega), if_neg (by omega), if_neg (by omega), if_neg (by omega), if_neg (by omega), if_neg (by omega), if_neg (by omega), if_neg (by omega), if_pos (by omega)]
theorem gi_inv {i k : Nat} (h : gi k = some i) : i < 18 ∧ ga i ≤ k ∧ k < ga i + 12 := by
  unfold gi at h
  repeat' split at h
  all_goals first
    | (cases h; done)
    | (cases h; refine ⟨by omega, ?_, ?_⟩ <;> simp [ga] <;> omega)
    | (have e := Option.some.inj h
       have e2 : ga i = 5 + 12 * i := by unfold ga; rw [if_neg (by omega), if_neg (by omega), if_pos (by omega)]
       rw [e2]
       omega)
theorem ga_apart {i j : Nat} (hi : i < 18) (hj : j < 18) (hne : i ≠ j) (x : Nat) : x + ga i + 12 ≤ x + ga j ∨ x + ga j + 12 ≤ x + ga i := by
  unfold ga
  repeat' split
  all_goals omega
/-! THE WHOLE OBJECT: the history's begin and size, the slots' flags; the text; the games -/
abbrev CS : Type := (Nat → Int32) × TS × (Nat → GS)
def cS (c : CS) (k : Nat) (v : Int32) : CS := (upd c.1 k v, c.2)
def cT (c : CS) (T : TS) : CS := (c.1, T, c.2.2)
def cG (c : CS) (i : Nat) (G : GS) : CS := (c.1, c.2.1, fun j => if j = i then G else c.2.2 j)
abbrev cO (x : Nat) : List Value := [.ref (x + 1), .ref (x + ga 0), .ref (x + ga 1), .ref (x + 27), .ref (x + 197), .ref (x + 210)]
abbrev hO (x : Nat) (c : CS) : List Value := [.ref (x + 28), .int (c.1 0), .int (c.1 1)]
def sa (s : Nat) : Nat := if s = 0 then 197 else 210
abbrev sO (x : Nat) (c : CS) (s : Nat) : List Value := [.ref (x + ga (16 + s)), .int (c.1 (2 + s))]
def stA (x : Nat) : Nat → Option Nat := fun j => if j < 14 then some (x + ga (2 + j)) else none
theorem stA_in {x : Nat} {i : Int32} (h : inB i 14) : stA x i.toNatClampNeg = some (x + ga (2 + i.toNatClampNeg)) := if_pos (Nat.not_le.mp fun q => h (Or.inr q))
def cC (E : zE) (x : Nat) (c : CS) (k : Nat) : Option va_E :=
  if k = 0 then some (.inr (5, cO x)) else if k = 1 then some (.inr (4, tO (x + 1) c.2.1)) else if k = 2 then some (.inl (zI E, 120, .inl c.2.1.2)) else if k = 27 then some (.inr (1, hO x c))
  else if k = 28 then some (.inl (zG E, 14, .inr (.inr (.inr (.inr (stA x)))))) else if k = 197 then some (.inr (3, sO x c 0)) else if k = 210 then some (.inr (3, sO x c 1))
  else match gi k with | some i => some (gC E (x + ga i) (c.2.2 i) (k - ga i)) | none => none
def pC (E : zE) (h0 : Hp) (x : Nat) (c : CS) : Hp := fun a => if a < x then h0 a else match cC E x c (a - x) with | some e => some e | none => h0 a
section PC
variable {E : zE} {h0 : Hp} {x : Nat} {c : CS}
theorem pC_at {k : Nat} {e : va_E} (h : cC E x c k = some e) : pC E h0 x c (x + k) = some e := by
  unfold pC
  rw [if_neg (by omega), Nat.add_sub_cancel_left, h]
theorem pC_up {c' : CS} (k : Nat) {e : va_E} (h : cC E x c' k = some e) (ho : ∀ j, j ≠ k → cC E x c' j = cC E x c j) : hup (pC E h0 x c) (x + k) e = pC E h0 x c' := by
  funext a
  by_cases ea : a = x + k
  · subst ea
    rw [pC_at h]
    simp [hup]
  · show (if a = x + k then some e else pC E h0 x c a) = _
    rw [if_neg ea]
    unfold pC
    by_cases hl : a < x
    · rw [if_pos hl, if_pos hl]
    · rw [if_neg hl, if_neg hl, ho (a - x) (by omega)]
theorem pC_o : pC E h0 x c x = some (.inr (5, cO x)) := pC_at (k := 0) rfl
theorem pC_h : pC E h0 x c (x + 27) = some (.inr (1, hO x c)) := pC_at (k := 27) rfl
theorem pC_st : pC E h0 x c (x + 28) = some (.inl (zG E, 14, .inr (.inr (.inr (.inr (stA x)))))) := pC_at (k := 28) rfl
theorem pC_sl {s : Nat} (hs : s = 0 ∨ s = 1) : pC E h0 x c (x + sa s) = some (.inr (3, sO x c s)) := by
  rcases hs with rfl | rfl
  · exact pC_at (k := 197) rfl
  · exact pC_at (k := 210) rfl
theorem pC_s0 (v : Int32) : hup (pC E h0 x c) (x + 27) (.inr (1, (hO x c).set 1 (.int v))) = pC E h0 x (cS c 0 v) := pC_up 27 rfl (fun j hj => by simp only [cC, if_neg hj]; rfl)
theorem pC_s1 (v : Int32) : hup (pC E h0 x c) (x + 27) (.inr (1, (hO x c).set 2 (.int v))) = pC E h0 x (cS c 1 v) := pC_up 27 rfl (fun j hj => by simp only [cC, if_neg hj]; rfl)
theorem pC_s2 {s : Nat} (hs : s = 0 ∨ s = 1) (v : Int32) : hup (pC E h0 x c) (x + sa s) (.inr (3, (sO x c s).set 1 (.int v))) = pC E h0 x (cS c (2 + s) v) := by
  rcases hs with rfl | rfl
  · exact pC_up 197 rfl (fun j hj => by simp only [cC, if_neg hj]; rfl)
  · exact pC_up 210 rfl (fun j hj => by simp only [cC, if_neg hj]; rfl)
theorem cC_g {i k : Nat} (hk : gi k = some i) : cC E x c k = some (gC E (x + ga i) (c.2.2 i) (k - ga i)) := by
  have n0 : k ≠ 0 := by rintro rfl; cases hk
  have n1 : k ≠ 1 := by rintro rfl; cases hk
  have n2 : k ≠ 2 := by rintro rfl; cases hk
  have n3 : k ≠ 27 := by rintro rfl; cases hk
  have n4 : k ≠ 28 := by rintro rfl; cases hk
  have n5 : k ≠ 197 := by rintro rfl; cases hk
  have n6 : k ≠ 210 := by rintro rfl; cases hk
  simp only [cC, if_neg n0, if_neg n1, if_neg n2, if_neg n3, if_neg n4, if_neg n5, if_neg n6, hk]
theorem cC_n {i k : Nat} {G : GS} (hk : gi k ≠ some i) : cC E x (cG c i G) k = cC E x c k := by
  unfold cC
  cases hg : gi k with
  | none => rfl
  | some j =>
    have hji : j ≠ i := fun e => hk (by rw [hg, e])
    simp [cG, hji]
theorem pC_G {i : Nat} (hi : i < 18) : pC E h0 x c = pG E (pC E h0 x c) (x + ga i) (c.2.2 i) := by
  funext a
  rw [pG_eq]
  by_cases hr : x + ga i ≤ a ∧ a < x + ga i + 12
  · rw [if_pos hr]
    have hk : gi (a - x) = some i := gi_of hi (by omega) (by omega)
    have h1 := pC_at (h0 := h0) (cC_g (E := E) (x := x) (c := c) hk)
    rw [show x + (a - x) = a by omega] at h1
    rw [h1, show a - x - ga i = a - (x + ga i) by omega]
  · rw [if_neg hr]
theorem pC_G' {i : Nat} (hi : i < 18) (G : GS) : pG E (pC E h0 x c) (x + ga i) G = pC E h0 x (cG c i G) := by
  funext a
  rw [pG_eq]
  by_cases hr : x + ga i ≤ a ∧ a < x + ga i + 12
  · rw [if_pos hr]
    have hk : gi (a - x) = some i := gi_of hi (by omega) (by omega)
    have h1 := pC_at (h0 := h0) (cC_g (E := E) (x := x) (c := cG c i G) hk)
    rw [show x + (a - x) = a by omega] at h1
    rw [h1, show a - x - ga i = a - (x + ga i) by omega]
    simp [cG]
  · rw [if_neg hr]
    unfold pC
    by_cases hl : a < x
    · rw [if_pos hl, if_pos hl]
    · rw [if_neg hl, if_neg hl, cC_n (fun hk => hr (by have := gi_inv hk; omega))]
theorem pC_G2 {i j : Nat} (hi : i < 18) (hj : j < 18) : pC E h0 x c = pG E (pG E (pC E h0 x c) (x + ga j) (c.2.2 j)) (x + ga i) (c.2.2 i) := by
  rw [← pC_G hj]
  exact pC_G hi
theorem pC_G2' {i j : Nat} (hi : i < 18) (hj : j < 18) (G : GS) : pG E (pG E (pC E h0 x c) (x + ga j) (c.2.2 j)) (x + ga i) G = pC E h0 x (cG c i G) := by
  rw [← pC_G hj]
  exact pC_G' hi G
theorem pT_of {h : Hp} {a : Nat} {T : TS} (h1 : h a = some (.inr (4, tO a T))) (h2 : h (a + 1) = some (.inl (zI E, 120, .inl T.2))) : h = pT E h a T := by
  funext q
  unfold pT
  by_cases e1 : q = a
  · rw [if_pos e1, e1, h1]
  · rw [if_neg e1]
    by_cases e2 : q = a + 1
    · rw [if_pos e2, e2, h2]
    · rw [if_neg e2]
theorem pC_T : pC E h0 x c = pT E (pC E h0 x c) (x + 1) c.2.1 := pT_of (pC_at (k := 1) rfl) (pC_at (k := 2) rfl)
theorem pC_T' (T : TS) : pT E (pC E h0 x c) (x + 1) T = pC E h0 x (cT c T) := by
  funext q
  unfold pT
  by_cases e1 : q = x + 1
  · rw [if_pos e1, e1]
    exact (pC_at (c := cT c T) (k := 1) (e := .inr (4, tO (x + 1) T)) rfl).symm
  · rw [if_neg e1]
    by_cases e2 : q = x + 1 + 1
    · rw [if_pos e2, e2]
      exact (pC_at (c := cT c T) (k := 2) (e := .inl (zI E, 120, .inl T.2)) rfl).symm
    · rw [if_neg e2]
      unfold pC
      by_cases hl : q < x
      · rw [if_pos hl, if_pos hl]
      · rw [if_neg hl, if_neg hl]
        have n1 : q - x ≠ 1 := by omega
        have n2 : q - x ≠ 2 := by omega
        simp [cC, cT, n1, n2]
end PC
/-- what lies outside a game -/
theorem pG_out {E : zE} {h0 : Hp} {g : Nat} {G : GS} {a : Nat} (h : a < g ∨ g + 12 ≤ a) : pG E h0 g G a = h0 a := by rw [pG_eq, if_neg (by omega)]
theorem z_astore_nN {E : zE} {X : zX} {own : String} {cc : ByteArray} {nL d k n : Nat} {ret : Option FieldType} {Q : State → Prop} {pc : Nat} {h : Hp} {lv lv' : List (Nat × Value)} {st : List Value} (C : zC E X own cc nL ret d) {j : Fin 4} (hdg : decode cc pc = .ok (.astore_n j, 1)) (hn : j.val < nL) (hl : (j.val, Value.null) :: lv.filter (fun q => !(q.1 == j.val) && !(q.1 + 1 == j.val && q.2.category == 2)) = lv') (kk : zW E X nL k n Q (pc + 1) h lv' st) : zW E X nL k n Q pc h lv (.null :: st) := fun H locs ls hP hS hv => lv_astore_nN C.1 C.2.1 hdg rfl hv hn hl (fun ls' hv' => kk H locs ls' hP hS hv')
theorem z_aload_nN {E : zE} {X : zX} {own : String} {cc : ByteArray} {nL d k n : Nat} {ret : Option FieldType} {Q : State → Prop} {pc : Nat} {h : Hp} {lv : List (Nat × Value)} {st : List Value} (C : zC E X own cc nL ret d) {j : Fin 4} (hdg : decode cc pc = .ok (.aload_n j, 1)) (i : Nat) (hi : lv[i]? = some (j.val, .null)) (kk : zW E X nL k n Q (pc + 1) h lv (.null :: st)) : zW E X nL k n Q pc h lv st := fun H locs ls hP hS hl => lv_aload_nN C.1 C.2.1 hdg rfl (lv_at hl i hi) (kk H locs ls hP hS hl)
theorem gfo_X2_40 {E : zE} {X : zX} {cc : ByteArray} {nL d k n : Nat} {ret : Option FieldType} {Q : State → Prop} {pc : Nat} {lv : List (Nat × Value)} {st : List Value} {h0 : Hp} {g g2 : Nat} {G G2 : GS} (hap : g + 12 ≤ g2 ∨ g2 + 12 ≤ g) (C : zC E X RX2 cc nL ret d) (hdg : decode cc pc = .ok (.getfield 40, 3)) (kk : zW E X nL k n Q (pc + 3) (pG E (pG E h0 g2 G2) g G) lv (.int (G2.2.1 0) :: st)) : zW E X nL k n Q pc (pG E (pG E h0 g2 G2) g G) lv (.ref (g2 + 5) :: st) := z_get (ci := 2) C inX2 rfl 0 (by decide) fl_X2_40 rfl ((pG_out (by omega)).trans pG_l) _ rfl hdg kk
theorem gfo_X2_9 {E : zE} {X : zX} {cc : ByteArray} {nL d k n : Nat} {ret : Option FieldType} {Q : State → Prop} {pc : Nat} {lv : List (Nat × Value)} {st : List Value} {h0 : Hp} {g g2 : Nat} {G G2 : GS} (hap : g + 12 ≤ g2 ∨ g2 + 12 ≤ g) (C : zC E X RX2 cc nL ret d) (hdg : decode cc pc = .ok (.getfield 9, 3)) (kk : zW E X nL k n Q (pc + 3) (pG E (pG E h0 g2 G2) g G) lv (.int (G2.2.1 1) :: st)) : zW E X nL k n Q pc (pG E (pG E h0 g2 G2) g G) lv (.ref (g2 + 5) :: st) := z_get (ci := 2) C inX2 rfl 1 (by decide) fl_X2_9 rfl ((pG_out (by omega)).trans pG_l) _ rfl hdg kk
theorem gfo_X2_43 {E : zE} {X : zX} {cc : ByteArray} {nL d k n : Nat} {ret : Option FieldType} {Q : State → Prop} {pc : Nat} {lv : List (Nat × Value)} {st : List Value} {h0 : Hp} {g g2 : Nat} {G G2 : GS} (hap : g + 12 ≤ g2 ∨ g2 + 12 ≤ g) (C : zC E X RX2 cc nL ret d) (hdg : decode cc pc = .ok (.getfield 43, 3)) (kk : zW E X nL k n Q (pc + 3) (pG E (pG E h0 g2 G2) g G) lv (.int (G2.2.1 2) :: st)) : zW E X nL k n Q pc (pG E (pG E h0 g2 G2) g G) lv (.ref (g2 + 5) :: st) := z_get (ci := 2) C inX2 rfl 2 (by decide) fl_X2_43 rfl ((pG_out (by omega)).trans pG_l) _ rfl hdg kk
theorem gfo_X2_15 {E : zE} {X : zX} {cc : ByteArray} {nL d k n : Nat} {ret : Option FieldType} {Q : State → Prop} {pc : Nat} {lv : List (Nat × Value)} {st : List Value} {h0 : Hp} {g g2 : Nat} {G G2 : GS} (hap : g + 12 ≤ g2 ∨ g2 + 12 ≤ g) (C : zC E X RX2 cc nL ret d) (hdg : decode cc pc = .ok (.getfield 15, 3)) (kk : zW E X nL k n Q (pc + 3) (pG E (pG E h0 g2 G2) g G) lv (.int (G2.2.1 3) :: st)) : zW E X nL k n Q pc (pG E (pG E h0 g2 G2) g G) lv (.ref (g2 + 5) :: st) := z_get (ci := 2) C inX2 rfl 3 (by decide) fl_X2_15 rfl ((pG_out (by omega)).trans pG_l) _ rfl hdg kk
theorem gfo_X2_18 {E : zE} {X : zX} {cc : ByteArray} {nL d k n : Nat} {ret : Option FieldType} {Q : State → Prop} {pc : Nat} {lv : List (Nat × Value)} {st : List Value} {h0 : Hp} {g g2 : Nat} {G G2 : GS} (hap : g + 12 ≤ g2 ∨ g2 + 12 ≤ g) (C : zC E X RX2 cc nL ret d) (hdg : decode cc pc = .ok (.getfield 18, 3)) (kk : zW E X nL k n Q (pc + 3) (pG E (pG E h0 g2 G2) g G) lv (.int (G2.2.1 4) :: st)) : zW E X nL k n Q pc (pG E (pG E h0 g2 G2) g G) lv (.ref (g2 + 5) :: st) := z_get (ci := 2) C inX2 rfl 4 (by decide) fl_X2_18 rfl ((pG_out (by omega)).trans pG_l) _ rfl hdg kk
theorem gfo_X2_21 {E : zE} {X : zX} {cc : ByteArray} {nL d k n : Nat} {ret : Option FieldType} {Q : State → Prop} {pc : Nat} {lv : List (Nat × Value)} {st : List Value} {h0 : Hp} {g g2 : Nat} {G G2 : GS} (hap : g + 12 ≤ g2 ∨ g2 + 12 ≤ g) (C : zC E X RX2 cc nL ret d) (hdg : decode cc pc = .ok (.getfield 21, 3)) (kk : zW E X nL k n Q (pc + 3) (pG E (pG E h0 g2 G2) g G) lv (.ref (g2 + 6) :: st)) : zW E X nL k n Q pc (pG E (pG E h0 g2 G2) g G) lv (.ref (g2 + 5) :: st) := z_get (ci := 2) C inX2 rfl 5 (by decide) fl_X2_21 rfl ((pG_out (by omega)).trans pG_l) _ rfl hdg kk
theorem gfo_X2_25 {E : zE} {X : zX} {cc : ByteArray} {nL d k n : Nat} {ret : Option FieldType} {Q : State → Prop} {pc : Nat} {lv : List (Nat × Value)} {st : List Value} {h0 : Hp} {g g2 : Nat} {G G2 : GS} (hap : g + 12 ≤ g2 ∨ g2 + 12 ≤ g) (C : zC E X RX2 cc nL ret d) (hdg : decode cc pc = .ok (.getfield 25, 3)) (kk : zW E X nL k n Q (pc + 3) (pG E (pG E h0 g2 G2) g G) lv (.ref (g2 + 7) :: st)) : zW E X nL k n Q pc (pG E (pG E h0 g2 G2) g G) lv (.ref (g2 + 5) :: st) := z_get (ci := 2) C inX2 rfl 6 (by decide) fl_X2_25 rfl ((pG_out (by omega)).trans pG_l) _ rfl hdg kk
theorem gfo_X2_28 {E : zE} {X : zX} {cc : ByteArray} {nL d k n : Nat} {ret : Option FieldType} {Q : State → Prop} {pc : Nat} {lv : List (Nat × Value)} {st : List Value} {h0 : Hp} {g g2 : Nat} {G G2 : GS} (hap : g + 12 ≤ g2 ∨ g2 + 12 ≤ g) (C : zC E X RX2 cc nL ret d) (hdg : decode cc pc = .ok (.getfield 28, 3)) (kk : zW E X nL k n Q (pc + 3) (pG E (pG E h0 g2 G2) g G) lv (.ref (g2 + 8) :: st)) : zW E X nL k n Q pc (pG E (pG E h0 g2 G2) g G) lv (.ref (g2 + 5) :: st) := z_get (ci := 2) C inX2 rfl 7 (by decide) fl_X2_28 rfl ((pG_out (by omega)).trans pG_l) _ rfl hdg kk
theorem gfo_X2_31 {E : zE} {X : zX} {cc : ByteArray} {nL d k n : Nat} {ret : Option FieldType} {Q : State → Prop} {pc : Nat} {lv : List (Nat × Value)} {st : List Value} {h0 : Hp} {g g2 : Nat} {G G2 : GS} (hap : g + 12 ≤ g2 ∨ g2 + 12 ≤ g) (C : zC E X RX2 cc nL ret d) (hdg : decode cc pc = .ok (.getfield 31, 3)) (kk : zW E X nL k n Q (pc + 3) (pG E (pG E h0 g2 G2) g G) lv (.ref (g2 + 9) :: st)) : zW E X nL k n Q pc (pG E (pG E h0 g2 G2) g G) lv (.ref (g2 + 5) :: st) := z_get (ci := 2) C inX2 rfl 8 (by decide) fl_X2_31 rfl ((pG_out (by omega)).trans pG_l) _ rfl hdg kk
theorem gfo_X2_34 {E : zE} {X : zX} {cc : ByteArray} {nL d k n : Nat} {ret : Option FieldType} {Q : State → Prop} {pc : Nat} {lv : List (Nat × Value)} {st : List Value} {h0 : Hp} {g g2 : Nat} {G G2 : GS} (hap : g + 12 ≤ g2 ∨ g2 + 12 ≤ g) (C : zC E X RX2 cc nL ret d) (hdg : decode cc pc = .ok (.getfield 34, 3)) (kk : zW E X nL k n Q (pc + 3) (pG E (pG E h0 g2 G2) g G) lv (.ref (g2 + 10) :: st)) : zW E X nL k n Q pc (pG E (pG E h0 g2 G2) g G) lv (.ref (g2 + 5) :: st) := z_get (ci := 2) C inX2 rfl 9 (by decide) fl_X2_34 rfl ((pG_out (by omega)).trans pG_l) _ rfl hdg kk
theorem gfo_X2_37 {E : zE} {X : zX} {cc : ByteArray} {nL d k n : Nat} {ret : Option FieldType} {Q : State → Prop} {pc : Nat} {lv : List (Nat × Value)} {st : List Value} {h0 : Hp} {g g2 : Nat} {G G2 : GS} (hap : g + 12 ≤ g2 ∨ g2 + 12 ≤ g) (C : zC E X RX2 cc nL ret d) (hdg : decode cc pc = .ok (.getfield 37, 3)) (kk : zW E X nL k n Q (pc + 3) (pG E (pG E h0 g2 G2) g G) lv (.ref (g2 + 11) :: st)) : zW E X nL k n Q pc (pG E (pG E h0 g2 G2) g G) lv (.ref (g2 + 5) :: st) := z_get (ci := 2) C inX2 rfl 10 (by decide) fl_X2_37 rfl ((pG_out (by omega)).trans pG_l) _ rfl hdg kk
theorem gfo_X0_34 {E : zE} {X : zX} {cc : ByteArray} {nL d k n : Nat} {ret : Option FieldType} {Q : State → Prop} {pc : Nat} {lv : List (Nat × Value)} {st : List Value} {h0 : Hp} {g g2 : Nat} {G G2 : GS} (hap : g + 12 ≤ g2 ∨ g2 + 12 ≤ g) (C : zC E X RX0 cc nL ret d) (hdg : decode cc pc = .ok (.getfield 34, 3)) (kk : zW E X nL k n Q (pc + 3) (pG E (pG E h0 g2 G2) g G) lv (.int (G2.1 0) :: st)) : zW E X nL k n Q pc (pG E (pG E h0 g2 G2) g G) lv (.ref g2 :: st) := z_get (ci := 0) C inX0 rfl 0 (by decide) fl_X0_34 rfl ((pG_out (by omega)).trans pG_o) _ rfl hdg kk
theorem gfo_X0_38 {E : zE} {X : zX} {cc : ByteArray} {nL d k n : Nat} {ret : Option FieldType} {Q : State → Prop} {pc : Nat} {lv : List (Nat × Value)} {st : List Value} {h0 : Hp} {g g2 : Nat} {G G2 : GS} (hap : g + 12 ≤ g2 ∨ g2 + 12 ≤ g) (C : zC E X RX0 cc nL ret d) (hdg : decode cc pc = .ok (.getfield 38, 3)) (kk : zW E X nL k n Q (pc + 3) (pG E (pG E h0 g2 G2) g G) lv (.int (G2.1 1) :: st)) : zW E X nL k n Q pc (pG E (pG E h0 g2 G2) g G) lv (.ref g2 :: st) := z_get (ci := 0) C inX0 rfl 1 (by decide) fl_X0_38 rfl ((pG_out (by omega)).trans pG_o) _ rfl hdg kk
theorem gfo_X0_41 {E : zE} {X : zX} {cc : ByteArray} {nL d k n : Nat} {ret : Option FieldType} {Q : State → Prop} {pc : Nat} {lv : List (Nat × Value)} {st : List Value} {h0 : Hp} {g g2 : Nat} {G G2 : GS} (hap : g + 12 ≤ g2 ∨ g2 + 12 ≤ g) (C : zC E X RX0 cc nL ret d) (hdg : decode cc pc = .ok (.getfield 41, 3)) (kk : zW E X nL k n Q (pc + 3) (pG E (pG E h0 g2 G2) g G) lv (.int (G2.1 2) :: st)) : zW E X nL k n Q pc (pG E (pG E h0 g2 G2) g G) lv (.ref g2 :: st) := z_get (ci := 0) C inX0 rfl 2 (by decide) fl_X0_41 rfl ((pG_out (by omega)).trans pG_o) _ rfl hdg kk
theorem gfo_X0_44 {E : zE} {X : zX} {cc : ByteArray} {nL d k n : Nat} {ret : Option FieldType} {Q : State → Prop} {pc : Nat} {lv : List (Nat × Value)} {st : List Value} {h0 : Hp} {g g2 : Nat} {G G2 : GS} (hap : g + 12 ≤ g2 ∨ g2 + 12 ≤ g) (C : zC E X RX0 cc nL ret d) (hdg : decode cc pc = .ok (.getfield 44, 3)) (kk : zW E X nL k n Q (pc + 3) (pG E (pG E h0 g2 G2) g G) lv (.int (G2.1 3) :: st)) : zW E X nL k n Q pc (pG E (pG E h0 g2 G2) g G) lv (.ref g2 :: st) := z_get (ci := 0) C inX0 rfl 3 (by decide) fl_X0_44 rfl ((pG_out (by omega)).trans pG_o) _ rfl hdg kk
theorem gfo_X0_47 {E : zE} {X : zX} {cc : ByteArray} {nL d k n : Nat} {ret : Option FieldType} {Q : State → Prop} {pc : Nat} {lv : List (Nat × Value)} {st : List Value} {h0 : Hp} {g g2 : Nat} {G G2 : GS} (hap : g + 12 ≤ g2 ∨ g2 + 12 ≤ g) (C : zC E X RX0 cc nL ret d) (hdg : decode cc pc = .ok (.getfield 47, 3)) (kk : zW E X nL k n Q (pc + 3) (pG E (pG E h0 g2 G2) g G) lv (.int (G2.1 4) :: st)) : zW E X nL k n Q pc (pG E (pG E h0 g2 G2) g G) lv (.ref g2 :: st) := z_get (ci := 0) C inX0 rfl 4 (by decide) fl_X0_47 rfl ((pG_out (by omega)).trans pG_o) _ rfl hdg kk
theorem gfo_X0_50 {E : zE} {X : zX} {cc : ByteArray} {nL d k n : Nat} {ret : Option FieldType} {Q : State → Prop} {pc : Nat} {lv : List (Nat × Value)} {st : List Value} {h0 : Hp} {g g2 : Nat} {G G2 : GS} (hap : g + 12 ≤ g2 ∨ g2 + 12 ≤ g) (C : zC E X RX0 cc nL ret d) (hdg : decode cc pc = .ok (.getfield 50, 3)) (kk : zW E X nL k n Q (pc + 3) (pG E (pG E h0 g2 G2) g G) lv (.int (G2.1 5) :: st)) : zW E X nL k n Q pc (pG E (pG E h0 g2 G2) g G) lv (.ref g2 :: st) := z_get (ci := 0) C inX0 rfl 5 (by decide) fl_X0_50 rfl ((pG_out (by omega)).trans pG_o) _ rfl hdg kk
theorem gfo_X0_53 {E : zE} {X : zX} {cc : ByteArray} {nL d k n : Nat} {ret : Option FieldType} {Q : State → Prop} {pc : Nat} {lv : List (Nat × Value)} {st : List Value} {h0 : Hp} {g g2 : Nat} {G G2 : GS} (hap : g + 12 ≤ g2 ∨ g2 + 12 ≤ g) (C : zC E X RX0 cc nL ret d) (hdg : decode cc pc = .ok (.getfield 53, 3)) (kk : zW E X nL k n Q (pc + 3) (pG E (pG E h0 g2 G2) g G) lv (.int (G2.1 6) :: st)) : zW E X nL k n Q pc (pG E (pG E h0 g2 G2) g G) lv (.ref g2 :: st) := z_get (ci := 0) C inX0 rfl 6 (by decide) fl_X0_53 rfl ((pG_out (by omega)).trans pG_o) _ rfl hdg kk
theorem gfo_X0_9 {E : zE} {X : zX} {cc : ByteArray} {nL d k n : Nat} {ret : Option FieldType} {Q : State → Prop} {pc : Nat} {lv : List (Nat × Value)} {st : List Value} {h0 : Hp} {g g2 : Nat} {G G2 : GS} (hap : g + 12 ≤ g2 ∨ g2 + 12 ≤ g) (C : zC E X RX0 cc nL ret d) (hdg : decode cc pc = .ok (.getfield 9, 3)) (kk : zW E X nL k n Q (pc + 3) (pG E (pG E h0 g2 G2) g G) lv (.ref (g2 + 1) :: st)) : zW E X nL k n Q pc (pG E (pG E h0 g2 G2) g G) lv (.ref g2 :: st) := z_get (ci := 0) C inX0 rfl 7 (by decide) fl_X0_9 rfl ((pG_out (by omega)).trans pG_o) _ rfl hdg kk
theorem gfo_X0_56 {E : zE} {X : zX} {cc : ByteArray} {nL d k n : Nat} {ret : Option FieldType} {Q : State → Prop} {pc : Nat} {lv : List (Nat × Value)} {st : List Value} {h0 : Hp} {g g2 : Nat} {G G2 : GS} (hap : g + 12 ≤ g2 ∨ g2 + 12 ≤ g) (C : zC E X RX0 cc nL ret d) (hdg : decode cc pc = .ok (.getfield 56, 3)) (kk : zW E X nL k n Q (pc + 3) (pG E (pG E h0 g2 G2) g G) lv (.int (G2.1 7) :: st)) : zW E X nL k n Q pc (pG E (pG E h0 g2 G2) g G) lv (.ref g2 :: st) := z_get (ci := 0) C inX0 rfl 8 (by decide) fl_X0_56 rfl ((pG_out (by omega)).trans pG_o) _ rfl hdg kk
theorem gfo_X0_15 {E : zE} {X : zX} {cc : ByteArray} {nL d k n : Nat} {ret : Option FieldType} {Q : State → Prop} {pc : Nat} {lv : List (Nat × Value)} {st : List Value} {h0 : Hp} {g g2 : Nat} {G G2 : GS} (hap : g + 12 ≤ g2 ∨ g2 + 12 ≤ g) (C : zC E X RX0 cc nL ret d) (hdg : decode cc pc = .ok (.getfield 15, 3)) (kk : zW E X nL k n Q (pc + 3) (pG E (pG E h0 g2 G2) g G) lv (.ref (g2 + 2) :: st)) : zW E X nL k n Q pc (pG E (pG E h0 g2 G2) g G) lv (.ref g2 :: st) := z_get (ci := 0) C inX0 rfl 9 (by decide) fl_X0_15 rfl ((pG_out (by omega)).trans pG_o) _ rfl hdg kk
theorem gfo_X0_18 {E : zE} {X : zX} {cc : ByteArray} {nL d k n : Nat} {ret : Option FieldType} {Q : State → Prop} {pc : Nat} {lv : List (Nat × Value)} {st : List Value} {h0 : Hp} {g g2 : Nat} {G G2 : GS} (hap : g + 12 ≤ g2 ∨ g2 + 12 ≤ g) (C : zC E X RX0 cc nL ret d) (hdg : decode cc pc = .ok (.getfield 18, 3)) (kk : zW E X nL k n Q (pc + 3) (pG E (pG E h0 g2 G2) g G) lv (.ref (g2 + 3) :: st)) : zW E X nL k n Q pc (pG E (pG E h0 g2 G2) g G) lv (.ref g2 :: st) := z_get (ci := 0) C inX0 rfl 10 (by decide) fl_X0_18 rfl ((pG_out (by omega)).trans pG_o) _ rfl hdg kk
theorem gfo_X0_21 {E : zE} {X : zX} {cc : ByteArray} {nL d k n : Nat} {ret : Option FieldType} {Q : State → Prop} {pc : Nat} {lv : List (Nat × Value)} {st : List Value} {h0 : Hp} {g g2 : Nat} {G G2 : GS} (hap : g + 12 ≤ g2 ∨ g2 + 12 ≤ g) (C : zC E X RX0 cc nL ret d) (hdg : decode cc pc = .ok (.getfield 21, 3)) (kk : zW E X nL k n Q (pc + 3) (pG E (pG E h0 g2 G2) g G) lv (.ref (g2 + 4) :: st)) : zW E X nL k n Q pc (pG E (pG E h0 g2 G2) g G) lv (.ref g2 :: st) := z_get (ci := 0) C inX0 rfl 11 (by decide) fl_X0_21 rfl ((pG_out (by omega)).trans pG_o) _ rfl hdg kk
theorem gfo_X0_27 {E : zE} {X : zX} {cc : ByteArray} {nL d k n : Nat} {ret : Option FieldType} {Q : State → Prop} {pc : Nat} {lv : List (Nat × Value)} {st : List Value} {h0 : Hp} {g g2 : Nat} {G G2 : GS} (hap : g + 12 ≤ g2 ∨ g2 + 12 ≤ g) (C : zC E X RX0 cc nL ret d) (hdg : decode cc pc = .ok (.getfield 27, 3)) (kk : zW E X nL k n Q (pc + 3) (pG E (pG E h0 g2 G2) g G) lv (.ref (g2 + 5) :: st)) : zW E X nL k n Q pc (pG E (pG E h0 g2 G2) g G) lv (.ref g2 :: st) := z_get (ci := 0) C inX0 rfl 12 (by decide) fl_X0_27 rfl ((pG_out (by omega)).trans pG_o) _ rfl hdg kk
theorem gf_X1_11 {E : zE} {X : zX} {cc : ByteArray} {nL d k n : Nat} {ret : Option FieldType} {Q : State → Prop} {pc : Nat} {lv : List (Nat × Value)} {st : List Value} {h0 : Hp} {x : Nat} {c : CS} (C : zC E X RX1 cc nL ret d) (hdg : decode cc pc = .ok (.getfield 11, 3)) (kk : zW E X nL k n Q (pc + 3) (pC E h0 x c) lv (.ref (x + 28) :: st)) : zW E X nL k n Q pc (pC E h0 x c) lv (.ref (x + 27) :: st) := z_get (ci := 1) C inX1 rfl 0 (by decide) fl_X1_11 rfl pC_h _ rfl hdg kk
theorem gf_X1_22 {E : zE} {X : zX} {cc : ByteArray} {nL d k n : Nat} {ret : Option FieldType} {Q : State → Prop} {pc : Nat} {lv : List (Nat × Value)} {st : List Value} {h0 : Hp} {x : Nat} {c : CS} (C : zC E X RX1 cc nL ret d) (hdg : decode cc pc = .ok (.getfield 22, 3)) (kk : zW E X nL k n Q (pc + 3) (pC E h0 x c) lv (.int (c.1 0) :: st)) : zW E X nL k n Q pc (pC E h0 x c) lv (.ref (x + 27) :: st) := z_get (ci := 1) C inX1 rfl 1 (by decide) fl_X1_22 rfl pC_h _ rfl hdg kk
theorem pf_X1_22 {E : zE} {X : zX} {cc : ByteArray} {nL d k n : Nat} {ret : Option FieldType} {Q : State → Prop} {pc : Nat} {lv : List (Nat × Value)} {st : List Value} {h0 : Hp} {x : Nat} {c : CS} (C : zC E X RX1 cc nL ret d) {v : Int32} (hdg : decode cc pc = .ok (.putfield 22, 3)) (kk : zW E X nL k n Q (pc + 3) (pC E h0 x (cS c 0 v)) lv st) : zW E X nL k n Q pc (pC E h0 x c) lv (.int v :: .ref (x + 27) :: st) := z_put (ci := 1) C inX1 tyX1 tyX1_ok nmX1 rfl 1 (by decide) fl_X1_22 rfl rfl rfl rfl pC_h (Nat.le_of_ble_eq_true rfl) hdg _ (pC_s0 v) kk
theorem gf_X1_18 {E : zE} {X : zX} {cc : ByteArray} {nL d k n : Nat} {ret : Option FieldType} {Q : State → Prop} {pc : Nat} {lv : List (Nat × Value)} {st : List Value} {h0 : Hp} {x : Nat} {c : CS} (C : zC E X RX1 cc nL ret d) (hdg : decode cc pc = .ok (.getfield 18, 3)) (kk : zW E X nL k n Q (pc + 3) (pC E h0 x c) lv (.int (c.1 1) :: st)) : zW E X nL k n Q pc (pC E h0 x c) lv (.ref (x + 27) :: st) := z_get (ci := 1) C inX1 rfl 2 (by decide) fl_X1_18 rfl pC_h _ rfl hdg kk
theorem pf_X1_18 {E : zE} {X : zX} {cc : ByteArray} {nL d k n : Nat} {ret : Option FieldType} {Q : State → Prop} {pc : Nat} {lv : List (Nat × Value)} {st : List Value} {h0 : Hp} {x : Nat} {c : CS} (C : zC E X RX1 cc nL ret d) {v : Int32} (hdg : decode cc pc = .ok (.putfield 18, 3)) (kk : zW E X nL k n Q (pc + 3) (pC E h0 x (cS c 1 v)) lv st) : zW E X nL k n Q pc (pC E h0 x c) lv (.int v :: .ref (x + 27) :: st) := z_put (ci := 1) C inX1 tyX1 tyX1_ok nmX1 rfl 2 (by decide) fl_X1_18 rfl rfl rfl rfl pC_h (Nat.le_of_ble_eq_true rfl) hdg _ (pC_s1 v) kk
theorem gf_X3_10 {E : zE} {X : zX} {cc : ByteArray} {nL d k n : Nat} {ret : Option FieldType} {Q : State → Prop} {pc : Nat} {lv : List (Nat × Value)} {st : List Value} {h0 : Hp} {x : Nat} {c : CS} {s : Nat} (hs : s = 0 ∨ s = 1) (C : zC E X RX3 cc nL ret d) (hdg : decode cc pc = .ok (.getfield 10, 3)) (kk : zW E X nL k n Q (pc + 3) (pC E h0 x c) lv (.ref (x + ga (16 + s)) :: st)) : zW E X nL k n Q pc (pC E h0 x c) lv (.ref (x + sa s) :: st) := z_get (ci := 3) C inX3 rfl 0 (by decide) fl_X3_10 rfl (pC_sl hs) _ rfl hdg kk
theorem gf_X3_16 {E : zE} {X : zX} {cc : ByteArray} {nL d k n : Nat} {ret : Option FieldType} {Q : State → Prop} {pc : Nat} {lv : List (Nat × Value)} {st : List Value} {h0 : Hp} {x : Nat} {c : CS} {s : Nat} (hs : s = 0 ∨ s = 1) (C : zC E X RX3 cc nL ret d) (hdg : decode cc pc = .ok (.getfield 16, 3)) (kk : zW E X nL k n Q (pc + 3) (pC E h0 x c) lv (.int (c.1 (2 + s)) :: st)) : zW E X nL k n Q pc (pC E h0 x c) lv (.ref (x + sa s) :: st) := z_get (ci := 3) C inX3 rfl 1 (by decide) fl_X3_16 rfl (pC_sl hs) _ rfl hdg kk
theorem pf_X3_16 {E : zE} {X : zX} {cc : ByteArray} {nL d k n : Nat} {ret : Option FieldType} {Q : State → Prop} {pc : Nat} {lv : List (Nat × Value)} {st : List Value} {h0 : Hp} {x : Nat} {c : CS} {s : Nat} (hs : s = 0 ∨ s = 1) (C : zC E X RX3 cc nL ret d) {v : Int32} (hv : v = 0 ∨ v = 1) (hdg : decode cc pc = .ok (.putfield 16, 3)) (kk : zW E X nL k n Q (pc + 3) (pC E h0 x (cS c (2 + s) v)) lv st) : zW E X nL k n Q pc (pC E h0 x c) lv (.int v :: .ref (x + sa s) :: st) := z_put (ci := 3) C inX3 tyX3 tyX3_ok nmX3 rfl 1 (by decide) fl_X3_16 rfl rfl (z_narB hv) (by rcases hv with rfl | rfl <;> rfl) (pC_sl hs) (Nat.le_of_ble_eq_true rfl) hdg _ (pC_s2 hs v) kk
theorem gf_X5_10 {E : zE} {X : zX} {cc : ByteArray} {nL d k n : Nat} {ret : Option FieldType} {Q : State → Prop} {pc : Nat} {lv : List (Nat × Value)} {st : List Value} {h0 : Hp} {x : Nat} {c : CS} (C : zC E X RX5 cc nL ret d) (hdg : decode cc pc = .ok (.getfield 10, 3)) (kk : zW E X nL k n Q (pc + 3) (pC E h0 x c) lv (.ref (x + 1) :: st)) : zW E X nL k n Q pc (pC E h0 x c) lv (.ref x :: st) := z_get (ci := 5) C inX5 rfl 0 (by decide) fl_X5_10 rfl pC_o _ rfl hdg kk
theorem gf_X5_19 {E : zE} {X : zX} {cc : ByteArray} {nL d k n : Nat} {ret : Option FieldType} {Q : State → Prop} {pc : Nat} {lv : List (Nat × Value)} {st : List Value} {h0 : Hp} {x : Nat} {c : CS} (C : zC E X RX5 cc nL ret d) (hdg : decode cc pc = .ok (.getfield 19, 3)) (kk : zW E X nL k n Q (pc + 3) (pC E h0 x c) lv (.ref (x + ga 0) :: st)) : zW E X nL k n Q pc (pC E h0 x c) lv (.ref x :: st) := z_get (ci := 5) C inX5 rfl 1 (by decide) fl_X5_19 rfl pC_o _ rfl hdg kk
theorem gf_X5_23 {E : zE} {X : zX} {cc : ByteArray} {nL d k n : Nat} {ret : Option FieldType} {Q : State → Prop} {pc : Nat} {lv : List (Nat × Value)} {st : List Value} {h0 : Hp} {x : Nat} {c : CS} (C : zC E X RX5 cc nL ret d) (hdg : decode cc pc = .ok (.getfield 23, 3)) (kk : zW E X nL k n Q (pc + 3) (pC E h0 x c) lv (.ref (x + ga 1) :: st)) : zW E X nL k n Q pc (pC E h0 x c) lv (.ref x :: st) := z_get (ci := 5) C inX5 rfl 2 (by decide) fl_X5_23 rfl pC_o _ rfl hdg kk
theorem gf_X5_29 {E : zE} {X : zX} {cc : ByteArray} {nL d k n : Nat} {ret : Option FieldType} {Q : State → Prop} {pc : Nat} {lv : List (Nat × Value)} {st : List Value} {h0 : Hp} {x : Nat} {c : CS} (C : zC E X RX5 cc nL ret d) (hdg : decode cc pc = .ok (.getfield 29, 3)) (kk : zW E X nL k n Q (pc + 3) (pC E h0 x c) lv (.ref (x + 27) :: st)) : zW E X nL k n Q pc (pC E h0 x c) lv (.ref x :: st) := z_get (ci := 5) C inX5 rfl 3 (by decide) fl_X5_29 rfl pC_o _ rfl hdg kk
theorem gf_X5_36 {E : zE} {X : zX} {cc : ByteArray} {nL d k n : Nat} {ret : Option FieldType} {Q : State → Prop} {pc : Nat} {lv : List (Nat × Value)} {st : List Value} {h0 : Hp} {x : Nat} {c : CS} (C : zC E X RX5 cc nL ret d) (hdg : decode cc pc = .ok (.getfield 36, 3)) (kk : zW E X nL k n Q (pc + 3) (pC E h0 x c) lv (.ref (x + 197) :: st)) : zW E X nL k n Q pc (pC E h0 x c) lv (.ref x :: st) := z_get (ci := 5) C inX5 rfl 4 (by decide) fl_X5_36 rfl pC_o _ rfl hdg kk
theorem gf_X5_40 {E : zE} {X : zX} {cc : ByteArray} {nL d k n : Nat} {ret : Option FieldType} {Q : State → Prop} {pc : Nat} {lv : List (Nat × Value)} {st : List Value} {h0 : Hp} {x : Nat} {c : CS} (C : zC E X RX5 cc nL ret d) (hdg : decode cc pc = .ok (.getfield 40, 3)) (kk : zW E X nL k n Q (pc + 3) (pC E h0 x c) lv (.ref (x + 210) :: st)) : zW E X nL k n Q pc (pC E h0 x c) lv (.ref x :: st) := z_get (ci := 5) C inX5 rfl 5 (by decide) fl_X5_40 rfl pC_o _ rfl hdg kk
