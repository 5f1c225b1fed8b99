/-! THE LAW'S LOOP -/
theorem law_sub4 {L : Nat} (hL : L ≤ 2048) : (nI L - 4).toInt = (L : Int) - 4 := by
  rw [Int32.toInt_sub, nI_toInt (by omega), show (4 : Int32).toInt = 4 by decide]
  show Int.bmod ((L : Int) - 4) 4294967296 = _
  unfold Int.bmod
  dsimp only
  split <;> omega
theorem law_end {L J : Nat} (hL : L ≤ 2048) (hJ : J ≤ 2048) : (nI L - 4 < nI J) ↔ L < J + 4 := by
  rw [Int32.lt_iff_toInt_lt, law_sub4 hL, nI_toInt (by omega)]
  omega
theorem law_loop {E : zE} {X : zX} {ret : Option FieldType} {b L k0 n0 : Nat} {sc : Nat → Int32} {Q : State → Prop} (C : zC E X RL cL_law 7 ret 17) (hst : (xl X).stackTraces = false) (G : zG9 E X b L sc) (hL : L ≤ 2048) (hk : k0 + 512 ≤ (xR X).cells ∧ n0 + 3072 ≤ (xR X).slots) (R : Nat → CS → MS → Prop) (hR : ∀ j c M o op a1 a2 a3, j < 512 → R j c M → ∃ c' M' o', Agree op a1 a2 a3 c M o c' M' o' ∧ R (j + 1) c' M')
    (K : ∀ o M c i, zW E X 7 (k0 + 512) (n0 + 3072) Q 1498 (wL E o M c) (lwv E b i) []) : ∀ (d j : Nat) (c : CS) (M : MS) (o : Nat → Int64), d + j = 512 → R j c M → zW E X 7 (k0 + j) (n0 + 6 * j) Q 23 (wL E o M c) (lwv E b (nI (4 * j))) [] := by
  have out : ∀ (j : Nat) (c : CS) (M : MS) (o : Nat → Int64), j ≤ 512 → zW E X 7 (k0 + j) (n0 + 6 * j) Q 1498 (wL E o M c) (lwv E b (nI (4 * j))) [] := fun j c M o hj => z_widen (by omega) (by omega) (K o M c _)
  intro d
  induction d with
  | zero =>
    intro j c M o hj hRc
    have e : j = 512 := by omega
    subst e
    refine z_iload C dL_law_23 4 rfl ?_
    refine z_aload_n C dL_law_25 0 rfl ?_
    refine z_slen C G dL_law_26 ?_
    refine z_iconst C (4 : Int32) dL_law_27 (by decide) ?_
    refine z_isub C dL_law_28 ?_
    refine z_icmp_gt C 1498 dL_law_29 (by decide) (fun _ => ?_) (fun q => ?_)
    · exact out 512 c M o (Nat.le_refl _)
    · exact absurd ((law_end hL (by omega)).mpr (by omega)) q
  | succ d ih =>
    intro j c M o hj hRc
    refine z_iload C dL_law_23 4 rfl ?_
    refine z_aload_n C dL_law_25 0 rfl ?_
    refine z_slen C G dL_law_26 ?_
    refine z_iconst C (4 : Int32) dL_law_27 (by decide) ?_
    refine z_isub C dL_law_28 ?_
    refine z_icmp_gt C 1498 dL_law_29 (by decide) (fun _ => ?_) (fun q => ?_)
    · exact out j c M o (by omega)
    · have hlt : 4 * j + 4 ≤ L := Nat.not_lt.mp fun q2 => q ((law_end hL (by omega)).mpr q2)
      have g0 : vp_in (nI (4 * j)) L := nI_in (by omega) (by omega)
      have g1 : vp_in (nI (4 * j) + 1) L := by
        rw [show nI (4 * j) + 1 = nI (4 * j + 1) from nI_add _ 1]
        exact nI_in (by omega) (by omega)
      have g2 : vp_in (nI (4 * j) + 2) L := by
        rw [show nI (4 * j) + 2 = nI (4 * j + 2) from nI_add _ 2]
        exact nI_in (by omega) (by omega)
      have g3 : vp_in (nI (4 * j) + 3) L := by
        rw [show nI (4 * j) + 3 = nI (4 * j + 3) from nI_add _ 3]
        exact nI_in (by omega) (by omega)
      refine z_aload_n C dL_law_32 0 rfl ?_
      refine z_iload C dL_law_33 4 rfl ?_
      refine z_sld C G g0 dL_law_35 ?_
      refine z_bipush C (31 : Int32) dL_law_36 (by decide) ?_
      refine z_iand C dL_law_38 ?_
      obtain ⟨c', M', o', hA, hR'⟩ := hR j c M o (sc (nI (4 * j)).toNatClampNeg &&& 31) (sc (nI (4 * j) + 1).toNatClampNeg) (sc (nI (4 * j) + 2).toNatClampNeg) (sc (nI (4 * j) + 3).toNatClampNeg) (by omega) hRc
      refine cs_any C hst G ⟨by omega, by omega⟩ ⟨by omega, by omega⟩ g1 g2 g3 hA ?_
      refine z_iinc C dL_law_1492 4 (nI (4 * (j + 1))) rfl ?_ (by decide) rfl ?_
      · rw [show (Int32.ofInt 4) = nI 4 by decide +kernel, nI_add]
        rfl
      refine z_goto C 23 dL_law_1495 (by decide) ?_
      refine z_sub [1, 2, 3, 4, 0] rfl ?_
      exact ih (j + 1) c' M' o' (by omega) hR'
