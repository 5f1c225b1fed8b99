/-- a value by a name -/
def stt {α β : Type} (x : α) (f : α → Option β) : Option β := f x
theorem st_some {α β : Type} {x : α} {f : α → Option β} {r : β} (h : stt x f = some r) : ∃ y, y = x ∧ f y = some r := ⟨x, rfl, h⟩
/-- a method's body, from its entry, of a class some of whose methods the machine itself runs -/
theorem zM_ofF {E : zE} {l : Launch} {d : Nat} {y : MethodName} {bytes : ByteArray} {maxL : Nat} {ret : Option FieldType} {av : List Value} {h h' : Hp} {v : Option Value} {lv : List (Nat × Value)} (hy : plainFor y = true) (hlen : (lg_sl av).length ≤ maxL) (hlv : lv_args 0 av = lv)
    (body : ∀ X : zX, xl X = l → zC E X y.cls bytes maxL ret d → zW E X maxL 0 0 (MQ (xb X) (zQ E v h') (xa X) (xs X) 0 0 (zA E)) 0 h lv []) : zM E l d y bytes maxL ret av h v h' := by
  unfold zM Met
  refine MetFree.of_bodySF (code := bytes) (maxLocals := maxL) (ret := ret) hy ?_ ?_
  · intro args s m h hn
    obtain ⟨meth, c, h1, h2, h3, h4, h5, h6, -, -⟩ := Cond.code_spec hn (atoms_spec (ws := Cond.code y bytes maxL ret :: UU) h _ List.mem_cons_self)
    exact ⟨meth, c, h1, h2, h3, h4, h5, h6⟩
  · intro p e s m args below meth c s₁ B hml hv _
    have hh0 : s₁.heap = s.heap := by rw [B.state]; rfl
    obtain ⟨rfl, hN, hP, hK, hS0⟩ := hv
    have hts0 := atoms_spec (ws := Cond.code y bytes maxL ret :: UU) B.pre
    have hts : ∀ w ∈ UU, w.before av.toArray s = true := fun w hw => hts0 w (List.mem_cons_of_mem _ hw)
    have hown : s.vm.findClass y.cls = some m.cls := findClass_of_methodNamed B.named
    have hl := lv_entry av (n := maxL) hlen
    rw [hlv] at hl
    have key := body (p, l, e, (headSpec (Cond.code y bytes maxL ret :: UU) (zR d)).room, s, m, av.toArray, below, meth, c) rfl ⟨B.exec, B.bytes, hml, hown, hts, B.returns, B.notSynchronized, hN, hK, hS0, Nat.le_refl _, Nat.le_refl _⟩ s.heap [] _ hP va_S.rf hl
    rw [lg_entry_eq]
    obtain ⟨t, a1, o, b1, b2, b3⟩ := key s₁ hh0 (Stand.of_body B)
    exact ⟨t, o, a1, b1, b2, ⟨b3.1, b3.2⟩⟩
/-! X5_isTile: depth 1 -/
def f_X5_isTile (x0 : Int32) : Option Int32 :=
  if x0 < 0 then (some (0 : Int32)) else (if (28 : Int32) ≤ x0 then (some (0 : Int32)) else (some (1 : Int32)))
set_option maxRecDepth 100000 in
set_option maxHeartbeats 4000000 in
theorem ct_X5_isTile {E : zE} {l : Launch} {h : Hp} {x0 : Int32} {r : Int32}  (hf : f_X5_isTile x0 = some r) : zM E l 1 yX5_isTile cX5_isTile 1 (some .boolean) [.int x0] h (some (.int r)) h := by
  refine zM_of (lv := [(0, .int x0)]) (by decide +kernel) (Nat.le_of_ble_eq_true rfl) rfl (fun X hX C => ?_)
  subst hX
  replace C : zC E X RX5 cX5_isTile 1 (some .boolean) 1 := C
  unfold f_X5_isTile at hf
  refine z_iload_n C dX5_isTile_0 0 rfl ?_
  refine z_if_lt C 14 dX5_isTile_1 (by decide) (fun c1 => ?_) (fun c1 => ?_)
  · replace hf := ip c1 hf
    refine z_iconst C (0 : Int32) dX5_isTile_14 (by decide) ?_
    obtain rfl := Option.some.inj hf
    exact z_zreturn (v := (0 : Int32)) C (by decide) dX5_isTile_15
  · replace hf := iN c1 hf
    refine z_iload_n C dX5_isTile_4 0 rfl ?_
    refine z_bipush C (28 : Int32) dX5_isTile_5 (by decide) ?_
    refine z_icmp_ge C 14 dX5_isTile_7 (by decide) (fun c7 => ?_) (fun c7 => ?_)
    · replace hf := ip c7 hf
      refine z_iconst C (0 : Int32) dX5_isTile_14 (by decide) ?_
      obtain rfl := Option.some.inj hf
      exact z_zreturn (v := (0 : Int32)) C (by decide) dX5_isTile_15
    · replace hf := iN c7 hf
      refine z_iconst C (1 : Int32) dX5_isTile_10 (by decide) ?_
      refine z_goto C 15 dX5_isTile_11 (by decide) ?_
      obtain rfl := Option.some.inj hf
      exact z_zreturn (v := (1 : Int32)) C (by decide) dX5_isTile_15
/-! X5_isPlayer: depth 1 -/
def f_X5_isPlayer (x0 : Int32) : Option Int32 :=
  if x0 < 0 then (some (0 : Int32)) else (if (4 : Int32) ≤ x0 then (some (0 : Int32)) else (some (1 : Int32)))
set_option maxRecDepth 100000 in
set_option maxHeartbeats 4000000 in
theorem ct_X5_isPlayer {E : zE} {l : Launch} {h : Hp} {x0 : Int32} {r : Int32}  (hf : f_X5_isPlayer x0 = some r) : zM E l 1 yX5_isPlayer cX5_isPlayer 1 (some .boolean) [.int x0] h (some (.int r)) h := by
  refine zM_of (lv := [(0, .int x0)]) (by decide +kernel) (Nat.le_of_ble_eq_true rfl) rfl (fun X hX C => ?_)
  subst hX
  replace C : zC E X RX5 cX5_isPlayer 1 (some .boolean) 1 := C
  unfold f_X5_isPlayer at hf
  refine z_iload_n C dX5_isPlayer_0 0 rfl ?_
  refine z_if_lt C 13 dX5_isPlayer_1 (by decide) (fun c1 => ?_) (fun c1 => ?_)
  · replace hf := ip c1 hf
    refine z_iconst C (0 : Int32) dX5_isPlayer_13 (by decide) ?_
    obtain rfl := Option.some.inj hf
    exact z_zreturn (v := (0 : Int32)) C (by decide) dX5_isPlayer_14
  · replace hf := iN c1 hf
    refine z_iload_n C dX5_isPlayer_4 0 rfl ?_
    refine z_iconst C (4 : Int32) dX5_isPlayer_5 (by decide) ?_
    refine z_icmp_ge C 13 dX5_isPlayer_6 (by decide) (fun c6 => ?_) (fun c6 => ?_)
    · replace hf := ip c6 hf
      refine z_iconst C (0 : Int32) dX5_isPlayer_13 (by decide) ?_
      obtain rfl := Option.some.inj hf
      exact z_zreturn (v := (0 : Int32)) C (by decide) dX5_isPlayer_14
    · replace hf := iN c6 hf
      refine z_iconst C (1 : Int32) dX5_isPlayer_9 (by decide) ?_
      refine z_goto C 14 dX5_isPlayer_10 (by decide) ?_
      obtain rfl := Option.some.inj hf
      exact z_zreturn (v := (1 : Int32)) C (by decide) dX5_isPlayer_14
/-! X5_isNumberOfPlayers: depth 1 -/
def f_X5_isNumberOfPlayers (x0 : Int32) : Option Int32 :=
  if x0 < (2 : Int32) then (some (0 : Int32)) else (if (4 : Int32) < x0 then (some (0 : Int32)) else (some (1 : Int32)))
set_option maxRecDepth 100000 in
set_option maxHeartbeats 4000000 in
theorem ct_X5_isNumberOfPlayers {E : zE} {l : Launch} {h : Hp} {x0 : Int32} {r : Int32}  (hf : f_X5_isNumberOfPlayers x0 = some r) : zM E l 1 yX5_isNumberOfPlayers cX5_isNumberOfPlayers 1 (some .boolean) [.int x0] h (some (.int r)) h := by
  refine zM_of (lv := [(0, .int x0)]) (by decide +kernel) (Nat.le_of_ble_eq_true rfl) rfl (fun X hX C => ?_)
  subst hX
  replace C : zC E X RX5 cX5_isNumberOfPlayers 1 (some .boolean) 1 := C
  unfold f_X5_isNumberOfPlayers at hf
  refine z_iload_n C dX5_isNumberOfPlayers_0 0 rfl ?_
  refine z_iconst C (2 : Int32) dX5_isNumberOfPlayers_1 (by decide) ?_
  refine z_icmp_lt C 14 dX5_isNumberOfPlayers_2 (by decide) (fun c2 => ?_) (fun c2 => ?_)
  · replace hf := ip c2 hf
    refine z_iconst C (0 : Int32) dX5_isNumberOfPlayers_14 (by decide) ?_
    obtain rfl := Option.some.inj hf
    exact z_zreturn (v := (0 : Int32)) C (by decide) dX5_isNumberOfPlayers_15
  · replace hf := iN c2 hf
    refine z_iload_n C dX5_isNumberOfPlayers_5 0 rfl ?_
    refine z_iconst C (4 : Int32) dX5_isNumberOfPlayers_6 (by decide) ?_
    refine z_icmp_gt C 14 dX5_isNumberOfPlayers_7 (by decide) (fun c7 => ?_) (fun c7 => ?_)
    · replace hf := ip c7 hf
      refine z_iconst C (0 : Int32) dX5_isNumberOfPlayers_14 (by decide) ?_
      obtain rfl := Option.some.inj hf
      exact z_zreturn (v := (0 : Int32)) C (by decide) dX5_isNumberOfPlayers_15
    · replace hf := iN c7 hf
      refine z_iconst C (1 : Int32) dX5_isNumberOfPlayers_10 (by decide) ?_
      refine z_goto C 15 dX5_isNumberOfPlayers_11 (by decide) ?_
      obtain rfl := Option.some.inj hf
      exact z_zreturn (v := (1 : Int32)) C (by decide) dX5_isNumberOfPlayers_15
/-! X5_isCell: depth 1 -/
def f_X5_isCell (x0 : Int32) (x1 : Int32) : Option Int32 :=
  if x0 < 0 then (some (0 : Int32)) else (if (25 : Int32) ≤ x0 then (some (0 : Int32)) else (if x1 < 0 then (some (0 : Int32)) else (if (25 : Int32) ≤ x1 then (some (0 : Int32)) else (some (1 : Int32)))))
set_option maxRecDepth 100000 in
set_option maxHeartbeats 4000000 in
theorem ct_X5_isCell {E : zE} {l : Launch} {h : Hp} {x0 : Int32} {x1 : Int32} {r : Int32}  (hf : f_X5_isCell x0 x1 = some r) : zM E l 1 yX5_isCell cX5_isCell 2 (some .boolean) [.int x0, .int x1] h (some (.int r)) h := by
  refine zM_of (lv := [(0, .int x0), (1, .int x1)]) (by decide +kernel) (Nat.le_of_ble_eq_true rfl) rfl (fun X hX C => ?_)
  subst hX
  replace C : zC E X RX5 cX5_isCell 2 (some .boolean) 1 := C
  unfold f_X5_isCell at hf
  refine z_iload_n C dX5_isCell_0 0 rfl ?_
  refine z_if_lt C 24 dX5_isCell_1 (by decide) (fun c1 => ?_) (fun c1 => ?_)
  · replace hf := ip c1 hf
    refine z_iconst C (0 : Int32) dX5_isCell_24 (by decide) ?_
    obtain rfl := Option.some.inj hf
    exact z_zreturn (v := (0 : Int32)) C (by decide) dX5_isCell_25
  · replace hf := iN c1 hf
    refine z_iload_n C dX5_isCell_4 0 rfl ?_
    refine z_bipush C (25 : Int32) dX5_isCell_5 (by decide) ?_
    refine z_icmp_ge C 24 dX5_isCell_7 (by decide) (fun c7 => ?_) (fun c7 => ?_)
    · replace hf := ip c7 hf
      refine z_iconst C (0 : Int32) dX5_isCell_24 (by decide) ?_
      obtain rfl := Option.some.inj hf
      exact z_zreturn (v := (0 : Int32)) C (by decide) dX5_isCell_25
    · replace hf := iN c7 hf
      refine z_iload_n C dX5_isCell_10 1 rfl ?_
      refine z_if_lt C 24 dX5_isCell_11 (by decide) (fun c11 => ?_) (fun c11 => ?_)
      · replace hf := ip c11 hf
        refine z_iconst C (0 : Int32) dX5_isCell_24 (by decide) ?_
        obtain rfl := Option.some.inj hf
        exact z_zreturn (v := (0 : Int32)) C (by decide) dX5_isCell_25
      · replace hf := iN c11 hf
        refine z_iload_n C dX5_isCell_14 1 rfl ?_
        refine z_bipush C (25 : Int32) dX5_isCell_15 (by decide) ?_
        refine z_icmp_ge C 24 dX5_isCell_17 (by decide) (fun c17 => ?_) (fun c17 => ?_)
        · replace hf := ip c17 hf
          refine z_iconst C (0 : Int32) dX5_isCell_24 (by decide) ?_
          obtain rfl := Option.some.inj hf
          exact z_zreturn (v := (0 : Int32)) C (by decide) dX5_isCell_25
        · replace hf := iN c17 hf
          refine z_iconst C (1 : Int32) dX5_isCell_20 (by decide) ?_
          refine z_goto C 25 dX5_isCell_21 (by decide) ?_
          obtain rfl := Option.some.inj hf
          exact z_zreturn (v := (1 : Int32)) C (by decide) dX5_isCell_25
/-! X5_lowOf: depth 1 -/
def f_X5_lowOf (x0 : Int32) : Option Int32 :=
  if x0 < 0 then (some (0 : Int32)) else (if (28 : Int32) ≤ x0 then (some (0 : Int32)) else (chk (inB x0 28) (some (lowT x0.toNatClampNeg))))
set_option maxRecDepth 100000 in
set_option maxHeartbeats 4000000 in
theorem ct_X5_lowOf {E : zE} {l : Launch} {h : Hp} {x0 : Int32} {r : Int32}  (hf : f_X5_lowOf x0 = some r) : zM E l 1 yX5_lowOf cX5_lowOf 1 (some .int) [.int x0] h (some (.int r)) h := by
  refine zM_of (lv := [(0, .int x0)]) (by decide +kernel) (Nat.le_of_ble_eq_true rfl) rfl (fun X hX C => ?_)
  subst hX
  replace C : zC E X RX5 cX5_lowOf 1 (some .int) 1 := C
  unfold f_X5_lowOf at hf
  refine z_iload_n C dX5_lowOf_0 0 rfl ?_
  refine z_if_lt C 18 dX5_lowOf_1 (by decide) (fun c1 => ?_) (fun c1 => ?_)
  · replace hf := ip c1 hf
    refine z_iconst C (0 : Int32) dX5_lowOf_18 (by decide) ?_
    obtain rfl := Option.some.inj hf
    exact z_ireturn C dX5_lowOf_19
  · replace hf := iN c1 hf
    refine z_iload_n C dX5_lowOf_4 0 rfl ?_
    refine z_bipush C (28 : Int32) dX5_lowOf_5 (by decide) ?_
    refine z_icmp_ge C 18 dX5_lowOf_7 (by decide) (fun c7 => ?_) (fun c7 => ?_)
    · replace hf := ip c7 hf
      refine z_iconst C (0 : Int32) dX5_lowOf_18 (by decide) ?_
      obtain rfl := Option.some.inj hf
      exact z_ireturn C dX5_lowOf_19
    · replace hf := iN c7 hf
      refine z_getsLow C fl_X5_289 dX5_lowOf_10 ?_
      refine z_iload_n C dX5_lowOf_13 0 rfl ?_
      obtain ⟨c14, hf⟩ := chk_some hf
      refine z_tldLow C c14 dX5_lowOf_14 ?_
      refine z_goto C 19 dX5_lowOf_15 (by decide) ?_
      obtain rfl := Option.some.inj hf
      exact z_ireturn C dX5_lowOf_19
/-! X5_highOf: depth 1 -/
def f_X5_highOf (x0 : Int32) : Option Int32 :=
  if x0 < 0 then (some (0 : Int32)) else (if (28 : Int32) ≤ x0 then (some (0 : Int32)) else (chk (inB x0 28) (some (highT x0.toNatClampNeg))))
set_option maxRecDepth 100000 in
set_option maxHeartbeats 4000000 in
theorem ct_X5_highOf {E : zE} {l : Launch} {h : Hp} {x0 : Int32} {r : Int32}  (hf : f_X5_highOf x0 = some r) : zM E l 1 yX5_highOf cX5_highOf 1 (some .int) [.int x0] h (some (.int r)) h := by
  refine zM_of (lv := [(0, .int x0)]) (by decide +kernel) (Nat.le_of_ble_eq_true rfl) rfl (fun X hX C => ?_)
  subst hX
  replace C : zC E X RX5 cX5_highOf 1 (some .int) 1 := C
  unfold f_X5_highOf at hf
  refine z_iload_n C dX5_highOf_0 0 rfl ?_
  refine z_if_lt C 18 dX5_highOf_1 (by decide) (fun c1 => ?_) (fun c1 => ?_)
  · replace hf := ip c1 hf
    refine z_iconst C (0 : Int32) dX5_highOf_18 (by decide) ?_
    obtain rfl := Option.some.inj hf
    exact z_ireturn C dX5_highOf_19
  · replace hf := iN c1 hf
    refine z_iload_n C dX5_highOf_4 0 rfl ?_
    refine z_bipush C (28 : Int32) dX5_highOf_5 (by decide) ?_
    refine z_icmp_ge C 18 dX5_highOf_7 (by decide) (fun c7 => ?_) (fun c7 => ?_)
    · replace hf := ip c7 hf
      refine z_iconst C (0 : Int32) dX5_highOf_18 (by decide) ?_
      obtain rfl := Option.some.inj hf
      exact z_ireturn C dX5_highOf_19
    · replace hf := iN c7 hf
      refine z_getsHigh C fl_X5_293 dX5_highOf_10 ?_
      refine z_iload_n C dX5_highOf_13 0 rfl ?_
      obtain ⟨c14, hf⟩ := chk_some hf
      refine z_tldHigh C c14 dX5_highOf_14 ?_
      refine z_goto C 19 dX5_highOf_15 (by decide) ?_
      obtain rfl := Option.some.inj hf
      exact z_ireturn C dX5_highOf_19
/-! X5_pipsOn: depth 1 -/
def f_X5_pipsOn (x0 : Int32) : Option Int32 :=
  if x0 < 0 then (some (0 : Int32)) else (if (28 : Int32) ≤ x0 then (some (0 : Int32)) else (chk (inB x0 28) (chk (inB x0 28) (some ((lowT x0.toNatClampNeg) + (highT x0.toNatClampNeg))))))
set_option maxRecDepth 100000 in
set_option maxHeartbeats 4000000 in
theorem ct_X5_pipsOn {E : zE} {l : Launch} {h : Hp} {x0 : Int32} {r : Int32}  (hf : f_X5_pipsOn x0 = some r) : zM E l 1 yX5_pipsOn cX5_pipsOn 1 (some .int) [.int x0] h (some (.int r)) h := by
  refine zM_of (lv := [(0, .int x0)]) (by decide +kernel) (Nat.le_of_ble_eq_true rfl) rfl (fun X hX C => ?_)
  subst hX
  replace C : zC E X RX5 cX5_pipsOn 1 (some .int) 1 := C
  unfold f_X5_pipsOn at hf
  refine z_iload_n C dX5_pipsOn_0 0 rfl ?_
  refine z_if_lt C 24 dX5_pipsOn_1 (by decide) (fun c1 => ?_) (fun c1 => ?_)
  · replace hf := ip c1 hf
    refine z_iconst C (0 : Int32) dX5_pipsOn_24 (by decide) ?_
    obtain rfl := Option.some.inj hf
    exact z_ireturn C dX5_pipsOn_25
  · replace hf := iN c1 hf
    refine z_iload_n C dX5_pipsOn_4 0 rfl ?_
    refine z_bipush C (28 : Int32) dX5_pipsOn_5 (by decide) ?_
    refine z_icmp_ge C 24 dX5_pipsOn_7 (by decide) (fun c7 => ?_) (fun c7 => ?_)
    · replace hf := ip c7 hf
      refine z_iconst C (0 : Int32) dX5_pipsOn_24 (by decide) ?_
      obtain rfl := Option.some.inj hf
      exact z_ireturn C dX5_pipsOn_25
    · replace hf := iN c7 hf
      refine z_getsLow C fl_X5_289 dX5_pipsOn_10 ?_
      refine z_iload_n C dX5_pipsOn_13 0 rfl ?_
      obtain ⟨c14, hf⟩ := chk_some hf
      refine z_tldLow C c14 dX5_pipsOn_14 ?_
      refine z_getsHigh C fl_X5_293 dX5_pipsOn_15 ?_
      refine z_iload_n C dX5_pipsOn_18 0 rfl ?_
      obtain ⟨c19, hf⟩ := chk_some hf
      refine z_tldHigh C c19 dX5_pipsOn_19 ?_
      refine z_iadd C dX5_pipsOn_20 ?_
      refine z_goto C 25 dX5_pipsOn_21 (by decide) ?_
      obtain rfl := Option.some.inj hf
      exact z_ireturn C dX5_pipsOn_25
/-! X5_tileWith: depth 2 -/
def f_X5_tileWith (x0 : Int32) (x1 : Int32) : Option Int32 :=
  chk (¬ (2 : Int32) = 0) (some (((((jmin x0 x1) * ((15 : Int32) - (jmin x0 x1))) / (2 : Int32)) + (jmax x0 x1)) - (jmin x0 x1)))
set_option maxRecDepth 100000 in
set_option maxHeartbeats 4000000 in
theorem ct_X5_tileWith {E : zE} {l : Launch} {h : Hp} {x0 : Int32} {x1 : Int32} {r : Int32}  (hf : f_X5_tileWith x0 x1 = some r) : zM E l 2 yX5_tileWith cX5_tileWith 3 (some .int) [.int x0, .int x1] h (some (.int r)) h := by
  refine zM_of (lv := [(0, .int x0), (1, .int x1)]) (by decide +kernel) (Nat.le_of_ble_eq_true rfl) rfl (fun X hX C => ?_)
  subst hX
  replace C : zC E X RX5 cX5_tileWith 3 (some .int) 2 := C
  unfold f_X5_tileWith at hf
  refine z_iload_n C dX5_tileWith_0 0 rfl ?_
  refine z_iload_n C dX5_tileWith_1 1 rfl ?_
  refine mx_X5_296 C (by decide) (Nat.le_of_ble_eq_true rfl) z_k0 dX5_tileWith_2 ?_
  refine z_istore_n (lv' := [(2, .int (jmin x0 x1)), (0, .int x0), (1, .int x1)]) C dX5_tileWith_5 (by decide) rfl ?_
  refine z_iload_n C dX5_tileWith_6 0 rfl ?_
  refine z_bipush C (15 : Int32) dX5_tileWith_7 (by decide) ?_
  refine z_iload_n C dX5_tileWith_9 0 rfl ?_
  refine z_isub C dX5_tileWith_10 ?_
  refine z_imul C dX5_tileWith_11 ?_
  refine z_iconst C (2 : Int32) dX5_tileWith_12 (by decide) ?_
  obtain ⟨c13, hf⟩ := chk_some hf
  refine z_idiv C dX5_tileWith_13 c13 ?_
  refine z_iload_n C dX5_tileWith_14 1 rfl ?_
  refine z_iload_n C dX5_tileWith_15 2 rfl ?_
  refine mx_X5_301 C (by decide) (Nat.le_of_ble_eq_true rfl) z_k0 dX5_tileWith_16 ?_
  refine z_iadd C dX5_tileWith_19 ?_
  refine z_iload_n C dX5_tileWith_20 0 rfl ?_
  refine z_isub C dX5_tileWith_21 ?_
  obtain rfl := Option.some.inj hf
  exact z_ireturn C dX5_tileWith_22
/-! X5_stepX: depth 1 -/
def f_X5_stepX (x0 : Int32) : Option Int32 :=
  if x0 = 0 then (some (1 : Int32)) else (if x0 = (2 : Int32) then (some (-1 : Int32)) else (some (0 : Int32)))
set_option maxRecDepth 100000 in
set_option maxHeartbeats 4000000 in
theorem ct_X5_stepX {E : zE} {l : Launch} {h : Hp} {x0 : Int32} {r : Int32}  (hf : f_X5_stepX x0 = some r) : zM E l 1 yX5_stepX cX5_stepX 1 (some .int) [.int x0] h (some (.int r)) h := by
  refine zM_of (lv := [(0, .int x0)]) (by decide +kernel) (Nat.le_of_ble_eq_true rfl) rfl (fun X hX C => ?_)
  subst hX
  replace C : zC E X RX5 cX5_stepX 1 (some .int) 1 := C
  unfold f_X5_stepX at hf
  refine z_iload_n C dX5_stepX_0 0 rfl ?_
  refine z_if_ne C 8 dX5_stepX_1 (by decide) (fun c1 => ?_) (fun c1 => ?_)
  · replace hf := iN c1 hf
    refine z_iload_n C dX5_stepX_8 0 rfl ?_
    refine z_iconst C (2 : Int32) dX5_stepX_9 (by decide) ?_
    refine z_icmp_ne C 17 dX5_stepX_10 (by decide) (fun c10 => ?_) (fun c10 => ?_)
    · replace hf := iN c10 hf
      refine z_iconst C (0 : Int32) dX5_stepX_17 (by decide) ?_
      obtain rfl := Option.some.inj hf
      exact z_ireturn C dX5_stepX_18
    · replace hf := ip c10 hf
      refine z_iconst C (-1 : Int32) dX5_stepX_13 (by decide) ?_
      refine z_goto C 18 dX5_stepX_14 (by decide) ?_
      obtain rfl := Option.some.inj hf
      exact z_ireturn C dX5_stepX_18
  · replace hf := ip c1 hf
    refine z_iconst C (1 : Int32) dX5_stepX_4 (by decide) ?_
    refine z_goto C 18 dX5_stepX_5 (by decide) ?_
    obtain rfl := Option.some.inj hf
    exact z_ireturn C dX5_stepX_18
/-! X5_stepY: depth 1 -/
def f_X5_stepY (x0 : Int32) : Option Int32 :=
  if x0 = (1 : Int32) then (some (1 : Int32)) else (if x0 = (3 : Int32) then (some (-1 : Int32)) else (some (0 : Int32)))
set_option maxRecDepth 100000 in
set_option maxHeartbeats 4000000 in
theorem ct_X5_stepY {E : zE} {l : Launch} {h : Hp} {x0 : Int32} {r : Int32}  (hf : f_X5_stepY x0 = some r) : zM E l 1 yX5_stepY cX5_stepY 1 (some .int) [.int x0] h (some (.int r)) h := by
  refine zM_of (lv := [(0, .int x0)]) (by decide +kernel) (Nat.le_of_ble_eq_true rfl) rfl (fun X hX C => ?_)
  subst hX
  replace C : zC E X RX5 cX5_stepY 1 (some .int) 1 := C
  unfold f_X5_stepY at hf
  refine z_iload_n C dX5_stepY_0 0 rfl ?_
  refine z_iconst C (1 : Int32) dX5_stepY_1 (by decide) ?_
  refine z_icmp_ne C 9 dX5_stepY_2 (by decide) (fun c2 => ?_) (fun c2 => ?_)
  · replace hf := iN c2 hf
    refine z_iload_n C dX5_stepY_9 0 rfl ?_
    refine z_iconst C (3 : Int32) dX5_stepY_10 (by decide) ?_
    refine z_icmp_ne C 18 dX5_stepY_11 (by decide) (fun c11 => ?_) (fun c11 => ?_)
    · replace hf := iN c11 hf
      refine z_iconst C (0 : Int32) dX5_stepY_18 (by decide) ?_
      obtain rfl := Option.some.inj hf
      exact z_ireturn C dX5_stepY_19
    · replace hf := ip c11 hf
      refine z_iconst C (-1 : Int32) dX5_stepY_14 (by decide) ?_
      refine z_goto C 19 dX5_stepY_15 (by decide) ?_
      obtain rfl := Option.some.inj hf
      exact z_ireturn C dX5_stepY_19
  · replace hf := ip c2 hf
    refine z_iconst C (1 : Int32) dX5_stepY_5 (by decide) ?_
    refine z_goto C 19 dX5_stepY_6 (by decide) ?_
    obtain rfl := Option.some.inj hf
    exact z_ireturn C dX5_stepY_19
/-! X5_memberOf: depth 1 -/
def f_X5_memberOf_b27 (n : Nat) (x0 : Int32) (x1 : Int32) (K4 : Int32 → Int32 → Option Int32)  (x2 : Int32) (x3 : Int32) : Option Int32 :=
  K4 x2 (x3 + 1)
set_option maxRecDepth 100000 in
set_option maxHeartbeats 4000000 in
theorem w_X5_memberOf_b27 {E : zE} {X : zX} {h : Hp} {n : Nat} {x0 : Int32} {x1 : Int32} {K4 : Int32 → Int32 → Option Int32}  (C : zC E X RX5 cX5_memberOf 4 (some .int) 1)  (hK4 : ∀ (x2 : Int32) (x3 : Int32) (r : Int32), K4 x2 x3 = some r → zW E X 4 0 0 (MQ (xb X) (zQ E (some (.int r)) h) (xa X) (xs X) 0 0 (zA E)) 4 h [(0, .int x0), (2, .int x2), (3, .int x3)] []) {x2 : Int32} {x3 : Int32} {r : Int32} (hf : f_X5_memberOf_b27 n x0 x1 K4 x2 x3 = some r) : zW E X 4 0 0 (MQ (xb X) (zQ E (some (.int r)) h) (xa X) (xs X) 0 0 (zA E)) 27 h [(0, .int x0), (2, .int x2), (3, .int x3)] [] := by
  unfold f_X5_memberOf_b27 at hf
  refine z_iinc (lv' := [(3, .int (x3 + 1)), (0, .int x0), (2, .int x2)]) C dX5_memberOf_27 2 (x3 + 1) rfl rfl (by decide) rfl ?_
  refine z_goto C 4 dX5_memberOf_30 (by decide) ?_
  exact z_sub [1, 2, 0] rfl (hK4 _ _ _ hf)
def f_X5_memberOf_h4 (n : Nat) (x0 : Int32) (x1 : Int32)  (K4 : Int32 → Int32 → Option Int32) (x2 : Int32) (x3 : Int32) : Option Int32 :=
  if (28 : Int32) ≤ x3 then (some (-1 : Int32)) else (if ((jushr x0 x3) &&& (1 : Int32)) = 0 then (f_X5_memberOf_b27 n x0 x1 K4 x2 x3) else (if x2 = 0 then (some x3) else (f_X5_memberOf_b27 n x0 x1 K4 (x2 + (-1)) x3)))
set_option maxRecDepth 100000 in
set_option maxHeartbeats 4000000 in
theorem w_X5_memberOf_h4 {E : zE} {X : zX} {h : Hp} {n : Nat} {x0 : Int32} {x1 : Int32}   (C : zC E X RX5 cX5_memberOf 4 (some .int) 1)   : ∀ (q : Nat) (x2 : Int32) (x3 : Int32) (r : Int32), lo2 (f_X5_memberOf_h4 n x0 x1) q x2 x3 = some r → zW E X 4 0 0 (MQ (xb X) (zQ E (some (.int r)) h) (xa X) (xs X) 0 0 (zA E)) 4 h [(0, .int x0), (2, .int x2), (3, .int x3)] [] := by
  refine lo2_ind _ ?_
  intro K4 hK4 x2 x3 r hf
  unfold f_X5_memberOf_h4 at hf
  refine z_iload_n C dX5_memberOf_4 2 rfl ?_
  refine z_bipush C (28 : Int32) dX5_memberOf_5 (by decide) ?_
  refine z_icmp_ge C 33 dX5_memberOf_7 (by decide) (fun c7 => ?_) (fun c7 => ?_)
  · replace hf := ip c7 hf
    refine z_iconst C (-1 : Int32) dX5_memberOf_33 (by decide) ?_
    obtain rfl := Option.some.inj hf
    exact z_ireturn C dX5_memberOf_34
  · replace hf := iN c7 hf
    refine z_iload_n C dX5_memberOf_10 0 rfl ?_
    refine z_iload_n C dX5_memberOf_11 2 rfl ?_
    refine z_iushr C dX5_memberOf_12 ?_
    refine z_iconst C (1 : Int32) dX5_memberOf_13 (by decide) ?_
    refine z_iand C dX5_memberOf_14 ?_
    refine z_if_eq C 27 dX5_memberOf_15 (by decide) (fun c15 => ?_) (fun c15 => ?_)
    · replace hf := ip c15 hf
      exact z_sub [0, 1, 2] rfl (w_X5_memberOf_b27 C hK4 hf)
    · replace hf := iN c15 hf
      refine z_iload_n C dX5_memberOf_18 1 rfl ?_
      refine z_if_ne C 24 dX5_memberOf_19 (by decide) (fun c19 => ?_) (fun c19 => ?_)
      · replace hf := iN c19 hf
        refine z_iinc (lv' := [(2, .int (x2 + (-1))), (0, .int x0), (3, .int x3)]) C dX5_memberOf_24 1 (x2 + (-1)) rfl rfl (by decide) rfl ?_
        exact z_sub [1, 0, 2] rfl (w_X5_memberOf_b27 C hK4 hf)
      · replace hf := ip c19 hf
        refine z_iload_n C dX5_memberOf_22 2 rfl ?_
        obtain rfl := Option.some.inj hf
        exact z_ireturn C dX5_memberOf_23
def f_X5_memberOf (n : Nat) (x0 : Int32) (x1 : Int32) : Option Int32 :=
  lo2 (f_X5_memberOf_h4 n x0 x1) n x1 (0 : Int32)
set_option maxRecDepth 100000 in
set_option maxHeartbeats 4000000 in
theorem ct_X5_memberOf {E : zE} {l : Launch} {h : Hp} {n : Nat} {x0 : Int32} {x1 : Int32} {r : Int32}  (hf : f_X5_memberOf n x0 x1 = some r) : zM E l 1 yX5_memberOf cX5_memberOf 4 (some .int) [.int x0, .int x1] h (some (.int r)) h := by
  refine zM_of (lv := [(0, .int x0), (1, .int x1)]) (by decide +kernel) (Nat.le_of_ble_eq_true rfl) rfl (fun X hX C => ?_)
  subst hX
  replace C : zC E X RX5 cX5_memberOf 4 (some .int) 1 := C
  unfold f_X5_memberOf at hf
  refine z_iload_n C dX5_memberOf_0 1 rfl ?_
  refine z_istore_n (lv' := [(2, .int x1), (0, .int x0), (1, .int x1)]) C dX5_memberOf_1 (by decide) rfl ?_
  refine z_iconst C (0 : Int32) dX5_memberOf_2 (by decide) ?_
  refine z_istore_n (lv' := [(3, .int (0 : Int32)), (2, .int x1), (0, .int x0), (1, .int x1)]) C dX5_memberOf_3 (by decide) rfl ?_
  exact z_sub [2, 1, 0] rfl (w_X5_memberOf_h4 C n _ _ _ hf)
/-! X5_withoutGroups: depth 1 -/
def f_X5_withoutGroups_h5 (n : Nat) (y0 : Int64) (x2 : Int32)  (K5 : Int64 → Int32 → Option Int64) (y3 : Int64) (x5 : Int32) : Option Int64 :=
  if x2 ≤ x5 then (some y3) else (chk (¬ (10000 : Int64) = 0) (K5 (y3 / (10000 : Int64)) (x5 + 1)))
set_option maxRecDepth 100000 in
set_option maxHeartbeats 4000000 in
theorem w_X5_withoutGroups_h5 {E : zE} {X : zX} {h : Hp} {n : Nat} {y0 : Int64} {x2 : Int32}   (C : zC E X RX5 cX5_withoutGroups 6 (some .long) 1)   : ∀ (q : Nat) (y3 : Int64) (x5 : Int32) (r : Int64), lo2 (f_X5_withoutGroups_h5 n y0 x2) q y3 x5 = some r → zW E X 6 0 0 (MQ (xb X) (zQ E (some (.long r)) h) (xa X) (xs X) 0 0 (zA E)) 5 h [(2, .int x2), (3, .long y3), (5, .int x5)] [] := by
  refine lo2_ind _ ?_
  intro K5 hK5 y3 x5 r hf
  unfold f_X5_withoutGroups_h5 at hf
  refine z_iload C dX5_withoutGroups_5 2 rfl ?_
  refine z_iload_n C dX5_withoutGroups_7 0 rfl ?_
  refine z_icmp_ge C 23 dX5_withoutGroups_8 (by decide) (fun c8 => ?_) (fun c8 => ?_)
  · replace hf := ip c8 hf
    refine z_lload_n C dX5_withoutGroups_23 1 rfl ?_
    obtain rfl := Option.some.inj hf
    exact z_lreturn C dX5_withoutGroups_24
  · replace hf := iN c8 hf
    refine z_lload_n C dX5_withoutGroups_11 1 rfl ?_
    refine z_ldc2 C (10000 : Int64) dX5_withoutGroups_12 cn_X5_236 ?_
    obtain ⟨c15, hf⟩ := chk_some hf
    refine z_ldiv C dX5_withoutGroups_15 c15 ?_
    refine z_lstore_n (lv' := [(3, .long (y3 / (10000 : Int64))), (2, .int x2), (5, .int x5)]) C dX5_withoutGroups_16 (by decide) rfl ?_
    refine z_iinc (lv' := [(5, .int (x5 + 1)), (3, .long (y3 / (10000 : Int64))), (2, .int x2)]) C dX5_withoutGroups_17 2 (x5 + 1) rfl rfl (by decide) rfl ?_
    refine z_goto C 5 dX5_withoutGroups_20 (by decide) ?_
    exact z_sub [2, 1, 0] rfl (hK5 _ _ _ hf)
def f_X5_withoutGroups (n : Nat) (y0 : Int64) (x2 : Int32) : Option Int64 :=
  lo2 (f_X5_withoutGroups_h5 n y0 x2) n y0 (0 : Int32)
set_option maxRecDepth 100000 in
set_option maxHeartbeats 4000000 in
theorem ct_X5_withoutGroups {E : zE} {l : Launch} {h : Hp} {n : Nat} {y0 : Int64} {x2 : Int32} {r : Int64}  (hf : f_X5_withoutGroups n y0 x2 = some r) : zM E l 1 yX5_withoutGroups cX5_withoutGroups 6 (some .long) [.long y0, .int x2] h (some (.long r)) h := by
  refine zM_of (lv := [(0, .long y0), (2, .int x2)]) (by decide +kernel) (Nat.le_of_ble_eq_true rfl) rfl (fun X hX C => ?_)
  subst hX
  replace C : zC E X RX5 cX5_withoutGroups 6 (some .long) 1 := C
  unfold f_X5_withoutGroups at hf
  refine z_lload_n C dX5_withoutGroups_0 0 rfl ?_
  refine z_lstore_n (lv' := [(3, .long y0), (0, .long y0), (2, .int x2)]) C dX5_withoutGroups_1 (by decide) rfl ?_
  refine z_iconst C (0 : Int32) dX5_withoutGroups_2 (by decide) ?_
  refine z_istore (lv' := [(5, .int (0 : Int32)), (3, .long y0), (0, .long y0), (2, .int x2)]) C dX5_withoutGroups_3 (by decide) rfl ?_
  exact z_sub [3, 1, 0] rfl (w_X5_withoutGroups_h5 C n _ _ _ hf)
/-! J6_bitCount_0f7a4: depth 1 -/
def f_J6_bitCount_0f7a4 (x0 : Int32) : Option Int32 :=
  stt ((x0 - ((jushr x0 (1 : Int32)) &&& (1431655765 : Int32)))) (fun v1 => stt (((v1 &&& (858993459 : Int32)) + ((jushr v1 (2 : Int32)) &&& (858993459 : Int32)))) (fun v2 => stt (((v2 + (jushr v2 (4 : Int32))) &&& (252645135 : Int32))) (fun v3 => stt (((v3 + (jushr v3 (8 : Int32))) + (jushr (v3 + (jushr v3 (8 : Int32))) (16 : Int32)))) (fun v4 => some (v4 &&& (63 : Int32))))))
set_option maxRecDepth 100000 in
set_option maxHeartbeats 4000000 in
theorem ct_J6_bitCount_0f7a4 {E : zE} {l : Launch} {h : Hp} {x0 : Int32} {r : Int32}  (hf : f_J6_bitCount_0f7a4 x0 = some r) : zM E l 1 yJ6_bitCount_0f7a4 cJ6_bitCount_0f7a4 1 (some .int) [.int x0] h (some (.int r)) h := by
  refine zM_of (lv := [(0, .int x0)]) (by decide +kernel) (Nat.le_of_ble_eq_true rfl) rfl (fun X hX C => ?_)
  subst hX
  replace C : zC E X RJ6 cJ6_bitCount_0f7a4 1 (some .int) 1 := C
  unfold f_J6_bitCount_0f7a4 at hf
  refine z_iload_n C dJ6_bitCount_0f7a4_0 0 rfl ?_
  refine z_iload_n C dJ6_bitCount_0f7a4_1 0 rfl ?_
  refine z_iconst C (1 : Int32) dJ6_bitCount_0f7a4_2 (by decide) ?_
  refine z_iushr C dJ6_bitCount_0f7a4_3 ?_
  refine z_ldcw C (1431655765 : Int32) dJ6_bitCount_0f7a4_4 cn_J6_265 ?_
  refine z_iand C dJ6_bitCount_0f7a4_7 ?_
  refine z_isub C dJ6_bitCount_0f7a4_8 ?_
  obtain ⟨v1, ev1, hf⟩ := st_some hf
  refine z_stk (congrArg (fun z => Value.int z :: []) ev1.symm) ?_
  refine z_istore_n (lv' := [(0, .int v1)]) C dJ6_bitCount_0f7a4_9 (by decide) rfl ?_
  refine z_iload_n C dJ6_bitCount_0f7a4_10 0 rfl ?_
  refine z_ldcw C (858993459 : Int32) dJ6_bitCount_0f7a4_11 cn_J6_266 ?_
  refine z_iand C dJ6_bitCount_0f7a4_14 ?_
  refine z_iload_n C dJ6_bitCount_0f7a4_15 0 rfl ?_
  refine z_iconst C (2 : Int32) dJ6_bitCount_0f7a4_16 (by decide) ?_
  refine z_iushr C dJ6_bitCount_0f7a4_17 ?_
  refine z_ldcw C (858993459 : Int32) dJ6_bitCount_0f7a4_18 cn_J6_266 ?_
  refine z_iand C dJ6_bitCount_0f7a4_21 ?_
  refine z_iadd C dJ6_bitCount_0f7a4_22 ?_
  obtain ⟨v2, ev2, hf⟩ := st_some hf
  refine z_stk (congrArg (fun z => Value.int z :: []) ev2.symm) ?_
  refine z_istore_n (lv' := [(0, .int v2)]) C dJ6_bitCount_0f7a4_23 (by decide) rfl ?_
  refine z_iload_n C dJ6_bitCount_0f7a4_24 0 rfl ?_
  refine z_iload_n C dJ6_bitCount_0f7a4_25 0 rfl ?_
  refine z_iconst C (4 : Int32) dJ6_bitCount_0f7a4_26 (by decide) ?_
  refine z_iushr C dJ6_bitCount_0f7a4_27 ?_
  refine z_iadd C dJ6_bitCount_0f7a4_28 ?_
  refine z_ldcw C (252645135 : Int32) dJ6_bitCount_0f7a4_29 cn_J6_267 ?_
  refine z_iand C dJ6_bitCount_0f7a4_32 ?_
  obtain ⟨v3, ev3, hf⟩ := st_some hf
  refine z_stk (congrArg (fun z => Value.int z :: []) ev3.symm) ?_
  refine z_istore_n (lv' := [(0, .int v3)]) C dJ6_bitCount_0f7a4_33 (by decide) rfl ?_
  refine z_iload_n C dJ6_bitCount_0f7a4_34 0 rfl ?_
  refine z_iload_n C dJ6_bitCount_0f7a4_35 0 rfl ?_
  refine z_bipush C (8 : Int32) dJ6_bitCount_0f7a4_36 (by decide) ?_
  refine z_iushr C dJ6_bitCount_0f7a4_38 ?_
  refine z_iadd C dJ6_bitCount_0f7a4_39 ?_
  refine z_istore_n (lv' := [(0, .int (v3 + (jushr v3 (8 : Int32))))]) C dJ6_bitCount_0f7a4_40 (by decide) rfl ?_
  refine z_iload_n C dJ6_bitCount_0f7a4_41 0 rfl ?_
  refine z_iload_n C dJ6_bitCount_0f7a4_42 0 rfl ?_
  refine z_bipush C (16 : Int32) dJ6_bitCount_0f7a4_43 (by decide) ?_
  refine z_iushr C dJ6_bitCount_0f7a4_45 ?_
  refine z_iadd C dJ6_bitCount_0f7a4_46 ?_
  obtain ⟨v4, ev4, hf⟩ := st_some hf
  refine z_stk (congrArg (fun z => Value.int z :: []) ev4.symm) ?_
  refine z_istore_n (lv' := [(0, .int v4)]) C dJ6_bitCount_0f7a4_47 (by decide) rfl ?_
  refine z_iload_n C dJ6_bitCount_0f7a4_48 0 rfl ?_
  refine z_bipush C (63 : Int32) dJ6_bitCount_0f7a4_49 (by decide) ?_
  refine z_iand C dJ6_bitCount_0f7a4_51 ?_
  obtain rfl := Option.some.inj hf
  exact z_ireturn C dJ6_bitCount_0f7a4_52
/-! J9_floorMod_7cf53: depth 1 -/
def f_J9_floorMod_7cf53 (x0 : Int32) (x1 : Int32) : Option Int32 :=
  chk (¬ x1 = 0) (if 0 ≤ (x0 ^^^ x1) then (some (jrem x0 x1)) else (if (jrem x0 x1) = 0 then (some (jrem x0 x1)) else (some ((jrem x0 x1) + x1))))
set_option maxRecDepth 100000 in
set_option maxHeartbeats 4000000 in
theorem ct_J9_floorMod_7cf53 {E : zE} {l : Launch} {h : Hp} {x0 : Int32} {x1 : Int32} {r : Int32}  (hf : f_J9_floorMod_7cf53 x0 x1 = some r) : zM E l 1 yJ9_floorMod_7cf53 cJ9_floorMod_7cf53 3 (some .int) [.int x0, .int x1] h (some (.int r)) h := by
  refine zM_ofF (lv := [(0, .int x0), (1, .int x1)]) (by decide +kernel) (Nat.le_of_ble_eq_true rfl) rfl (fun X hX C => ?_)
  subst hX
  replace C : zC E X RJ9 cJ9_floorMod_7cf53 3 (some .int) 1 := C
  unfold f_J9_floorMod_7cf53 at hf
  refine z_iload_n C dJ9_floorMod_7cf53_0 0 rfl ?_
  refine z_iload_n C dJ9_floorMod_7cf53_1 1 rfl ?_
  obtain ⟨c2, hf⟩ := chk_some hf
  refine z_irem C dJ9_floorMod_7cf53_2 c2 ?_
  refine z_istore_n (lv' := [(2, .int (jrem x0 x1)), (0, .int x0), (1, .int x1)]) C dJ9_floorMod_7cf53_3 (by decide) rfl ?_
  refine z_iload_n C dJ9_floorMod_7cf53_4 1 rfl ?_
  refine z_iload_n C dJ9_floorMod_7cf53_5 2 rfl ?_
  refine z_ixor C dJ9_floorMod_7cf53_6 ?_
  refine z_if_ge C 18 dJ9_floorMod_7cf53_7 (by decide) (fun c7 => ?_) (fun c7 => ?_)
  · replace hf := ip c7 hf
    refine z_iload_n C dJ9_floorMod_7cf53_18 0 rfl ?_
    obtain rfl := Option.some.inj hf
    exact z_ireturn C dJ9_floorMod_7cf53_19
  · replace hf := iN c7 hf
    refine z_iload_n C dJ9_floorMod_7cf53_10 0 rfl ?_
    refine z_if_eq C 18 dJ9_floorMod_7cf53_11 (by decide) (fun c11 => ?_) (fun c11 => ?_)
    · replace hf := ip c11 hf
      refine z_iload_n C dJ9_floorMod_7cf53_18 0 rfl ?_
      obtain rfl := Option.some.inj hf
      exact z_ireturn C dJ9_floorMod_7cf53_19
    · replace hf := iN c11 hf
      refine z_iload_n C dJ9_floorMod_7cf53_14 0 rfl ?_
      refine z_iload_n C dJ9_floorMod_7cf53_15 2 rfl ?_
      refine z_iadd C dJ9_floorMod_7cf53_16 ?_
      obtain rfl := Option.some.inj hf
      exact z_ireturn C dJ9_floorMod_7cf53_17
