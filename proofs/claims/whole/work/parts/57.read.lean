/-! PURE LEVEL: the commands of a text, both sides -/
theorem f_sign {T : TS} {L i : Nat} (hT : T.1 = nI L) (hL : L ≤ 120) (hi : i < L) : f_X4_signAt T (nI i) = some (T.2 i) := by
  unfold f_X4_signAt
  refine in_eq (nI_pos (by omega)) (in_eq ?_ (in_eq ?_ (ck_eq (in_n (by omega) (by omega)) ?_)))
  · rw [hT]
    exact nI_ge hi (by omega)
  · exact nI_ge (a := i) (b := 120) (by omega) (by omega)
  · rw [nI_clamp (by omega)]
theorem f_digit {T : TS} {L i : Nat} (hT : T.1 = nI L) (hL : L ≤ 120) (hi : i < L) : f_X4_digitAt T (nI i) = some (T.2 i - 48) := bd_eq (f_sign hT hL hi) rfl
theorem f_isd {T : TS} {L i v l h : Nat} (hT : T.1 = nI L) (hL : L ≤ 120) (hD : dG L T.2 i v) (hl : l < 100) (hh : h < 100) : f_X4_isDigit T (nI i) (nI l) (nI h) = some (if l ≤ v ∧ v ≤ h then 1 else 0) := by
  have h1 := f_digit hT hL hD.1
  have h9 := hD.2.1
  rw [dig_sub hD] at h1
  unfold f_X4_isDigit
  refine bd_eq h1 ?_
  by_cases h2 : v < l
  · refine ip_eq (nI_lt h2 (by omega)) ?_
    rw [if_neg (by omega)]
  · refine in_eq (nI_nlt (by omega) (by omega)) (bd_eq h1 ?_)
    by_cases h3 : h < v
    · refine ip_eq (nI_lt h3 (by omega)) ?_
      rw [if_neg (by omega)]
    · refine in_eq (nI_nlt (by omega) (by omega)) ?_
      rw [if_pos ⟨by omega, by omega⟩]
theorem f_isd_n {T : TS} {L i l h : Nat} (hT : T.1 = nI L) (hL : L ≤ 120) (hi : i < L) (hD : nD L T.2 i) (hl : l < 100) (hh : h ≤ 9) : f_X4_isDigit T (nI i) (nI l) (nI h) = some 0 := by
  have h1 := f_digit hT hL hi
  unfold f_X4_isDigit
  refine bd_eq h1 ?_
  rcases hD with hD | ⟨_, hD⟩
  · omega
  · by_cases h2 : T.2 i - 48 < nI l
    · exact ip_eq h2 rfl
    · refine in_eq h2 (bd_eq h1 (ip_eq ?_ rfl))
      have hl0 := nI_toInt (n := l) (by omega)
      have hh0 := nI_toInt (n := h) (by omega)
      have h90 : (9 : Int32).toInt = 9 := by decide
      have h00 : (0 : Int32).toInt = 0 := by decide
      rw [Int32.lt_iff_toInt_lt] at h2 ⊢
      rcases hD with hD | hD
      · rw [Int32.lt_iff_toInt_lt] at hD
        omega
      · rw [Int32.lt_iff_toInt_lt] at hD
        omega
def lenC (c : Nat) : Nat := if c = 98 then 1 else if c = 100 then 4 else if c = 112 then 4 else if c = 115 then 1 else if c = 119 then 1 else 0
theorem f_lenC (T : TS) {c : Nat} (hc : c < 256) : f_X4_lengthOfCommand T (nI c) = some (nI (lenC c)) := by
  have k : ∀ d : Nat, d < 256 → (nI c = nI d ↔ c = d) := fun d hd => nI_eq (by omega) (by omega)
  unfold f_X4_lengthOfCommand lenC
  by_cases h1 : c = 98
  · rw [if_pos h1]; exact ip_eq ((k 98 (by omega)).mpr h1) rfl
  rw [if_neg h1]; refine in_eq (fun q => h1 ((k 98 (by omega)).mp q)) ?_
  by_cases h2 : c = 100
  · rw [if_pos h2]; exact ip_eq ((k 100 (by omega)).mpr h2) rfl
  rw [if_neg h2]; refine in_eq (fun q => h2 ((k 100 (by omega)).mp q)) ?_
  by_cases h3 : c = 112
  · rw [if_pos h3]; exact ip_eq ((k 112 (by omega)).mpr h3) rfl
  rw [if_neg h3]; refine in_eq (fun q => h3 ((k 112 (by omega)).mp q)) ?_
  by_cases h4 : c = 115
  · rw [if_pos h4]; exact ip_eq ((k 115 (by omega)).mpr h4) rfl
  rw [if_neg h4]; refine in_eq (fun q => h4 ((k 115 (by omega)).mp q)) ?_
  by_cases h5 : c = 119
  · rw [if_pos h5]; exact ip_eq ((k 119 (by omega)).mpr h5) rfl
  rw [if_neg h5]; exact in_eq (fun q => h5 ((k 119 (by omega)).mp q)) rfl
theorem lenC_4 (c : Nat) : lenC c ≤ 4 := by
  unfold lenC
  repeat' split
  all_goals omega
theorem f_isEnd {T : TS} {L b i c : Nat} (hT : T.1 = nI L) (hL : L ≤ 120) (hb : b < L) (hc : c < 256) (e : T.2 b = nI c) (hi : b ≤ i) (hi2 : i < 200) : f_X4_isEndOfCommand T (nI b) (nI i) = some (if i - b + 1 = lenC c then 1 else 0) := by
  have h4 := lenC_4 c
  unfold f_X4_isEndOfCommand
  refine bd_eq (f_sign hT hL hb) (bd_eq (v := nI (lenC c)) (by rw [e]; exact f_lenC T hc) ?_)
  have e1 : nI i - nI b + (1 : Int32) = nI (i - b + 1) := by rw [nI_sub hi, nI_1]
  by_cases h : i - b + 1 = lenC c
  · rw [if_pos h]
    exact ip_eq (by rw [e1, h]) rfl
  · rw [if_neg h]
    exact in_eq (fun q => h (nI_inj (by omega) (by omega) (e1.symm.trans q))) rfl
theorem al_bb {T : TS} {L b c : Nat} (hT : T.1 = nI L) (hL : L ≤ 120) (hb : b < L) (hc : c < 256) (e : T.2 b = nI c) : f_X4_isAllowed T (nI b) (nI b) = some (if lenC c = 0 then 0 else 1) := by
  have h4 := lenC_4 c
  unfold f_X4_isAllowed
  refine ip_eq rfl (bd_eq (f_sign hT hL hb) (bd_eq (v := nI (lenC c)) (by rw [e]; exact f_lenC T hc) ?_))
  by_cases h : lenC c = 0
  · rw [if_pos h]
    exact ip_eq (by rw [h]; decide) rfl
  · rw [if_neg h]
    exact in_eq (nI_nle (by omega) (by omega)) rfl
/-! the two loops of the text -/
theorem fe_L {n : Nat} {T : TS} {L b : Nat} (hT : T.1 = nI L) (hL : L ≤ 120) (hb : b < L) (m : Nat) : lo2 (f_X4_firstError_h16 n T) (m + 1) (nI b) (nI L) = some (nI L) := by
  rw [lo2_s]
  unfold f_X4_firstError_h16
  refine ip_eq ?_ (in_eq (fun q => ?_) ?_)
  · rw [hT]
    exact nI_le (Nat.le_refl L) (by omega)
  · rw [hT] at q
    have := nI_inj (by omega) (by omega) q
    omega
  · rw [hT]
theorem fe_bad {n : Nat} {T : TS} {L b i : Nat} (hT : T.1 = nI L) (hL : L ≤ 120) (hi : i < L) (h : f_X4_isAllowed T (nI b) (nI i) = some 0) (m : Nat) : lo2 (f_X4_firstError_h16 n T) (m + 1) (nI b) (nI i) = some (nI i) := by
  rw [lo2_s]
  unfold f_X4_firstError_h16
  refine in_eq ?_ (bd_eq h (ip_eq rfl rfl))
  rw [hT]
  exact nI_ge hi (by omega)
theorem fe_go {n : Nat} {T : TS} {L b i c : Nat} (hT : T.1 = nI L) (hL : L ≤ 120) (hb : b ≤ i) (hi : i < L) (hc : c < 256) (e : T.2 b = nI c) (h : f_X4_isAllowed T (nI b) (nI i) = some 1) (m : Nat) : lo2 (f_X4_firstError_h16 n T) (m + 1) (nI b) (nI i) = if i - b + 1 = lenC c then lo2 (f_X4_firstError_h16 n T) m (nI (i + 1)) (nI (i + 1)) else lo2 (f_X4_firstError_h16 n T) m (nI b) (nI (i + 1)) := by
  have h2 := f_isEnd hT hL (b := b) (i := i) (by omega) hc e hb (by omega)
  rw [lo2_s]
  generalize lo2 (f_X4_firstError_h16 n T) m = K
  unfold f_X4_firstError_h16 f_X4_firstError_b48
  refine in_eq ?_ (bd_eq h (in_eq (by decide) (bd_eq h2 ?_)))
  · rw [hT]
    exact nI_ge hi (by omega)
  · by_cases h3 : i - b + 1 = lenC c
    · refine in_eq (by rw [if_pos h3]; decide) ?_
      rw [if_pos h3, nI_1]
    · refine ip_eq (by rw [if_neg h3]) ?_
      rw [if_neg h3, nI_1]
theorem dc_go {n : Nat} {c0 : CS} {L b i c : Nat} (hT : c0.2.1.1 = nI L) (hL : L ≤ 120) (hb : b ≤ i) (hi : i < L) (hc : c < 256) (e : c0.2.1.2 b = nI c) (h : ¬ i - b + 1 = lenC c) (o : Int32) (m : Nat) : lo4 (f_X5_doCommandsOfText_h6 n) (m + 1) c0 o (nI b) (nI i) = lo4 (f_X5_doCommandsOfText_h6 n) m c0 o (nI b) (nI (i + 1)) := by
  have h2 := f_isEnd hT hL (b := b) (i := i) (by omega) hc e hb (by omega)
  rw [if_neg h] at h2
  rw [lo4_s]
  generalize lo4 (f_X5_doCommandsOfText_h6 n) m = K
  unfold f_X5_doCommandsOfText_h6 f_X5_doCommandsOfText_b44
  refine bd_eq (v := nI L) (congrArg some hT) (in_eq (nI_ge hi (by omega)) (bd_eq h2 (ip_eq rfl ?_)))
  rw [nI_1]
theorem dc_end {n : Nat} {c0 c1 : CS} {L b i c : Nat} {v : Int32} (hT : c0.2.1.1 = nI L) (hL : L ≤ 120) (hb : b ≤ i) (hi : i < L) (hc : c < 256) (e : c0.2.1.2 b = nI c) (h : i - b + 1 = lenC c) (hdo : f_X5_doCommandAt n c0 (nI b) = some (c1, v)) (o : Int32) (m : Nat) : lo4 (f_X5_doCommandsOfText_h6 n) (m + 1) c0 o (nI b) (nI i) = lo4 (f_X5_doCommandsOfText_h6 n) m c1 (if v = 0 then o + 1 else o) (nI (i + 1)) (nI (i + 1)) := by
  have h2 := f_isEnd hT hL (b := b) (i := i) (by omega) hc e hb (by omega)
  rw [if_pos h] at h2
  rw [lo4_s]
  generalize lo4 (f_X5_doCommandsOfText_h6 n) m = K
  unfold f_X5_doCommandsOfText_h6 f_X5_doCommandsOfText_b40 f_X5_doCommandsOfText_b44
  refine bd_eq (v := nI L) (congrArg some hT) (in_eq (nI_ge hi (by omega)) (bd_eq h2 (in_eq (by decide) (bd_eq hdo ?_))))
  by_cases h3 : v = 0
  · refine ip_eq h3 ?_
    rw [if_pos h3, nI_1]
  · refine in_eq h3 ?_
    rw [if_neg h3, nI_1]
/-- what one command of the text does -/
def stepT (n1 n2 L b : Nat) (T : TS) (M0 : MS) (G : GS) (B : Nat) (o : Int32) (r s : Nat → Int32) : Prop :=
  (∃ e r' s', e < 200 ∧ f_X6_readCommand n2 (TX M0 o (nI b) r s) = some (TX M0 o (nI e) r' s', 0) ∧ ∀ m, lo2 (f_X4_firstError_h16 n1 T) (m + 5) (nI b) (nI b) = some (nI e)) ∨
  (∃ l o' r' s' G', 1 ≤ l ∧ l ≤ 4 ∧ b + l ≤ L ∧ f_X6_readCommand n2 (TX M0 o (nI b) r s) = some (TX M0 o' (nI (b + l)) r' s', 1) ∧ (∀ m, lo2 (f_X4_firstError_h16 n1 T) (m + l) (nI b) (nI b) = lo2 (f_X4_firstError_h16 n1 T) m (nI (b + l)) (nI (b + l))) ∧
    (∀ c0 : CS, c0.2.1 = T → c0.2.2 0 = G → ∀ m, lo4 (f_X5_doCommandsOfText_h6 n1) (m + l) c0 o (nI b) (nI b) = lo4 (f_X5_doCommandsOfText_h6 n1) m (cG c0 0 G') o' (nI (b + l)) (nI (b + l))) ∧ VG G' (B + 1) ∧ RG G' s')
theorem cG_self {c : CS} {G : GS} (h : c.2.2 0 = G) : cG c 0 G = c := by
  unfold cG
  refine Prod.ext rfl (Prod.ext rfl (funext fun j => ?_))
  show (if j = 0 then G else c.2.2 j) = c.2.2 j
  by_cases e : j = 0
  · rw [if_pos e, e, h]
  · rw [if_neg e]
theorem rc_sign {M0 : MS} {L b : Nat} {t : Nat → Int32} (X : tX L t M0) (hb : b < L) (o : Int32) (r s : Nat → Int32) : (TX M0 o (nI b) r s).2 0 ((TX M0 o (nI b) r s).1 3).toNatClampNeg = t b := by
  have := X.l
  rw [TX_a3, TX_b0, nI_clamp (by omega), X.m0 b hb]
theorem rc_in {M0 : MS} {L b : Nat} {t : Nat → Int32} (X : tX L t M0) (hb : b < L) (o : Int32) (r s : Nat → Int32) : inB ((TX M0 o (nI b) r s).1 3) 120 := by
  have := X.l
  rw [TX_a3]
  exact in_n (by omega) (by omega)
/-- a command of one letter -/
theorem one_letter {n1 n2 L b c : Nat} {T : TS} {M0 : MS} {G G' : GS} {B : Nat} {o : Int32} {r s r' s' : Nat → Int32} {v : Int32} (X : tX L T.2 M0) (hT : T.1 = nI L) (hb : b < L) (hc : c < 256) (e : T.2 b = nI c) (h1 : lenC c = 1) (hm : f_X6_readCommand n2 (TX M0 o (nI b) r s) = some (TX M0 (if v = 0 then o + 1 else o) (nI (b + 1)) r' s', 1)) (hdo : ∀ c0 : CS, c0.2.1 = T → c0.2.2 0 = G → f_X5_doCommandAt n1 c0 (nI b) = some (cG c0 0 G', v)) (V' : VG G' (B + 1)) (R' : RG G' s') : stepT n1 n2 L b T M0 G B o r s := by
  have hL := X.l
  refine Or.inr ⟨1, _, r', s', G', by omega, by omega, by omega, hm, fun m => ?_, fun c0 q1 q2 m => ?_, V', R'⟩
  · have ha := al_bb hT hL hb hc e
    rw [if_neg (by omega)] at ha
    rw [fe_go hT hL (Nat.le_refl b) hb hc e ha m, if_pos (by omega)]
  · have hT' : c0.2.1.1 = nI L := by rw [q1]; exact hT
    exact dc_end hT' hL (Nat.le_refl b) hb hc (by rw [q1]; exact e) (by omega) (hdo c0 q1 q2) o m
theorem step_w {n1 n2 L b : Nat} (hn2 : 28 < n2) {T : TS} {M0 : MS} {G : GS} {B : Nat} (V : VG G B) {s : Nat → Int32} (R : RG G s) (o : Int32) (r : Nat → Int32) (X : tX L T.2 M0) (hT : T.1 = nI L) (hb : b < L) (e : T.2 b = nI 119) : stepT n1 n2 L b T M0 G B o r s := by
  have hL := X.l
  have hs := rc_sign X hb o r s
  rw [e] at hs
  have hcd := can_draw V R
  have hsg : ∀ c0 : CS, c0.2.1 = T → f_X4_signAt c0.2.1 (nI b) = some (nI 119) := fun c0 q => by
    rw [q, f_sign hT hL hb, e]
  by_cases hbd : G.1 3 = 1 ∧ hbG G < 28
  · obtain ⟨H, s', t, g1, g2, g3, g4, g5, g6⟩ := draw_both hn2 V R hbd.1 hbd.2
    rw [if_pos hbd] at hcd
    refine one_letter (v := 1) (r' := r) (s' := s') X hT hb (by omega) e (by decide) ?_ (fun c0 q1 q2 => ?_) (g3.le (by omega)) g4
    · unfold f_X6_readCommand f_X6_readCommand_b154
      refine ck_eq (rc_in X hb o r s) (in_eq (by rw [hs]; decide) (in_eq (by rw [hs]; decide) (in_eq (by rw [hs]; decide) (in_eq (by rw [hs]; decide) (ip_eq (by rw [hs]; rfl) ?_)))))
      refine bd_eq hcd.2 (in_eq (by decide) (bd_eq g2 (in_eq (nI_pos (by omega)) ?_)))
      rw [TX_a3, nI_1, TX_3, TX_2]
      exact bd_eq (m_done M0 o _ r s' 1) (ck_eq (Or.inr rfl) rfl)
    · unfold f_X5_doCommandAt
      refine bd_eq (hsg c0 q1) (in_eq (by decide) (in_eq (by decide) (in_eq (by decide) (ip_eq rfl (bd_eq (v := (H, nI t)) (by rw [q2]; exact g1) (in_eq (nI_ne_m1 (by omega)) rfl))))))
  · rw [if_neg hbd] at hcd
    refine one_letter (v := 0) (r' := r) (s' := s) (G' := G) X hT hb (by omega) e (by decide) ?_ (fun c0 q1 q2 => ?_) (V.le (by omega)) R
    · unfold f_X6_readCommand f_X6_readCommand_b153 f_X6_readCommand_b154
      refine ck_eq (rc_in X hb o r s) (in_eq (by rw [hs]; decide) (in_eq (by rw [hs]; decide) (in_eq (by rw [hs]; decide) (in_eq (by rw [hs]; decide) (ip_eq (by rw [hs]; rfl) ?_)))))
      refine bd_eq hcd.2 (ip_eq rfl ?_)
      rw [TX_a3, nI_1, TX_3]
      exact bd_eq (m_done M0 o _ r s 0) (ck_eq (Or.inr rfl) rfl)
    · unfold f_X5_doCommandAt
      refine bd_eq (hsg c0 q1) (in_eq (by decide) (in_eq (by decide) (in_eq (by decide) (ip_eq rfl (bd_eq (v := (G, -1)) (by rw [q2]; exact draw_none V R hbd) (ip_eq rfl rfl))))))
theorem step_s {n1 n2 L b : Nat} (hn1 : 28 < n1) (hn2 : 28 < n2) {T : TS} {M0 : MS} {G : GS} {B : Nat} (V : VG G B) {s : Nat → Int32} (R : RG G s) (o : Int32) (r : Nat → Int32) (X : tX L T.2 M0) (hT : T.1 = nI L) (hb : b < L) (e : T.2 b = nI 115) : stepT n1 n2 L b T M0 G B o r s := by
  have hL := X.l
  have hs := rc_sign X hb o r s
  rw [e] at hs
  have hcd := can_pass V R
  have hsg : ∀ c0 : CS, c0.2.1 = T → f_X4_signAt c0.2.1 (nI b) = some (nI 115) := fun c0 q => by
    rw [q, f_sign hT hL hb, e]
  by_cases hbd : G.1 3 = 1 ∧ hbG G = 28
  · obtain ⟨H, s', v, g1, g2, g3, g4, g5, g6⟩ := pass_both hn1 hn2 V R hbd.1 hbd.2
    rw [if_pos hbd] at hcd
    have hv1 : ¬ v = -1 := by
      rcases g5 with rfl | rfl <;> decide
    have hv2 : ¬ v ≤ 0 := by
      rcases g5 with rfl | rfl <;> decide
    refine one_letter (v := 1) (r' := r) (s' := s') X hT hb (by omega) e (by decide) ?_ (fun c0 q1 q2 => ?_) (g3.le (by omega)) g4
    · unfold f_X6_readCommand f_X6_readCommand_b178
      refine ck_eq (rc_in X hb o r s) (in_eq (by rw [hs]; decide) (in_eq (by rw [hs]; decide) (in_eq (by rw [hs]; decide) (ip_eq (by rw [hs]; rfl) ?_))))
      refine bd_eq hcd.2 (in_eq (by decide) (bd_eq g2 (in_eq hv2 ?_)))
      rw [TX_a3, nI_1, TX_3, TX_2]
      exact bd_eq (m_done M0 o _ r s' 1) (ck_eq (Or.inr rfl) rfl)
    · unfold f_X5_doCommandAt
      refine bd_eq (hsg c0 q1) (in_eq (by decide) (in_eq (by decide) (ip_eq rfl (bd_eq (v := (H, v)) (by rw [q2]; exact g1) (in_eq hv1 rfl)))))
  · rw [if_neg hbd] at hcd
    refine one_letter (v := 0) (r' := r) (s' := s) (G' := G) X hT hb (by omega) e (by decide) ?_ (fun c0 q1 q2 => ?_) (V.le (by omega)) R
    · unfold f_X6_readCommand f_X6_readCommand_b177 f_X6_readCommand_b178
      refine ck_eq (rc_in X hb o r s) (in_eq (by rw [hs]; decide) (in_eq (by rw [hs]; decide) (in_eq (by rw [hs]; decide) (ip_eq (by rw [hs]; rfl) ?_))))
      refine bd_eq hcd.2 (ip_eq rfl ?_)
      rw [TX_a3, nI_1, TX_3]
      exact bd_eq (m_done M0 o _ r s 0) (ck_eq (Or.inr rfl) rfl)
    · unfold f_X5_doCommandAt
      refine bd_eq (hsg c0 q1) (in_eq (by decide) (in_eq (by decide) (ip_eq rfl (bd_eq (v := (G, -1)) (by rw [q2]; exact pass_none V R hbd) (ip_eq rfl rfl)))))
theorem step_b {n1 n2 L b : Nat} (hn1 : 28 < n1) (hn2 : 28 < n2) {T : TS} {M0 : MS} {G : GS} {B : Nat} (V : VG G B) {s : Nat → Int32} (R : RG G s) (o : Int32) (r : Nat → Int32) (X : tX L T.2 M0) (hT : T.1 = nI L) (hb : b < L) (e : T.2 b = nI 98) : stepT n1 n2 L b T M0 G B o r s := by
  have hL := X.l
  have hs := rc_sign X hb o r s
  rw [e] at hs
  have hsg : ∀ c0 : CS, c0.2.1 = T → f_X4_signAt c0.2.1 (nI b) = some (nI 98) := fun c0 q => by
    rw [q, f_sign hT hL hb, e]
  obtain ⟨x, H, s', k, g1, g2, g3, g4, g5, g6, g7⟩ := playBest_both hn1 hn2 V R
  refine one_letter (v := 1) (r' := r) (s' := s') X hT hb (by omega) e (by decide) ?_ (fun c0 q1 q2 => ?_) (g4.le (by omega)) g5
  · unfold f_X6_readCommand
    refine ck_eq (rc_in X hb o r s) (ip_eq (by rw [hs]; rfl) ?_)
    rw [TX_a3, nI_1, TX_3]
    refine bd_eq g3 ?_
    rw [TX_2]
    rfl
  · unfold f_X5_doCommandAt
    exact bd_eq (hsg c0 q1) (in_eq (by decide) (in_eq (by decide) (in_eq (by decide) (in_eq (by decide) (bd_eq (v := x) (by rw [q2]; exact g1) (bd_eq (v := (H, k)) (by rw [q2]; exact g2) rfl))))))
theorem step_no {n1 n2 L b c : Nat} {T : TS} {M0 : MS} {G : GS} {B : Nat} {s : Nat → Int32} (o : Int32) (r : Nat → Int32) (X : tX L T.2 M0) (hT : T.1 = nI L) (hb : b < L) (hc : c < 256) (e : T.2 b = nI c) (h : lenC c = 0) : stepT n1 n2 L b T M0 G B o r s := by
  have hL := X.l
  have hs := rc_sign X hb o r s
  rw [e] at hs
  have k : ∀ d : Nat, d < 256 → lenC d ≠ 0 → ¬ nI c = nI d := fun d hd h2 q => by
    have := nI_inj (by omega) (by omega) q
    subst this
    exact h2 h
  refine Or.inl ⟨b, r, s, by omega, ?_, fun m => ?_⟩
  · unfold f_X6_readCommand
    refine ck_eq (rc_in X hb o r s) (in_eq (by rw [hs]; exact k 98 (by omega) (by decide)) (in_eq (by rw [hs]; exact k 100 (by omega) (by decide)) (in_eq (by rw [hs]; exact k 112 (by omega) (by decide)) (in_eq (by rw [hs]; exact k 115 (by omega) (by decide)) (in_eq (by rw [hs]; exact k 119 (by omega) (by decide)) ?_)))))
    unfold stt
    rw [TX_a3, nI_1, TX_3, TX_a3, suL_1 (by omega), Nat.add_sub_cancel, TX_3]
  · have ha := al_bb hT hL hb hc e
    rw [if_pos h] at ha
    exact fe_bad hT hL hb ha (m + 4)
