/-! PURE LEVEL: a tile is laid, both sides -/
theorem fin_both {n1 n2 : Nat} (hn1 : 28 < n1) (hn2 : 28 < n2) {K : GS} {B : Nat} (V : VG K B) {s1 : Nat → Int32} (R : RG K s1) (hph : K.1 3 = 1) (t lf : Int32) : ∃ H s', (f_X0_tilesOf n1 K (K.1 5)).bind (fun q45 => if q45 = 0 then ((f_X0_winRound n1 K (K.1 5)).bind (fun q56 => some (q56, (1 : Int32)))) else ((f_X0_goToNextPlayer K).bind (fun q63 => some (q63, (1 : Int32))))) = some (H, 1) ∧ f_X6_put_b169 n2 t lf s1 (K.1 5) = some s' ∧ VG H B ∧ RG H s' ∧ H.1 0 = K.1 0 := by
  obtain ⟨P, tt, q, h1, h2, h3, h4, e1, e2, e3⟩ := V.pl hph
  have hc := cntH_le (K.2.2 1) (K.1 5) 28
  unfold f_X6_put_b169
  by_cases hz : cntH (K.2.2 1) (K.1 5) 28 = 0
  · obtain ⟨H, s', g1, g2, g3, g4, g5, g6⟩ := win_both hn1 hn2 V R (p := tt) (P := P) (by omega) h2 e1
    refine ⟨H, s', ?_, ?_, g3, g4, g6⟩
    · refine bd_eq (f_tilesOf hn1 K _) ?_
      refine ip_eq (by rw [hz]; rfl) ?_
      rw [e2]
      refine bd_eq g1 rfl
    · refine bd_eq (r_handMany hn2 R _) ?_
      refine ip_eq (by rw [hz]; rfl) ?_
      rw [e2]
      refine bd_eq g2 rfl
  · obtain ⟨H, s', g1, g2, g3, g4, g5, g6⟩ := next_both V R hph
    refine ⟨H, s', ?_, ?_, g3, g4, g6⟩
    · refine bd_eq (f_tilesOf hn1 K _) ?_
      refine in_eq (nI_ne0 (by omega) (by omega)) ?_
      refine bd_eq g1 rfl
    · refine bd_eq (r_handMany hn2 R _) ?_
      refine in_eq (nI_ne0 (by omega) (by omega)) ?_
      refine bd_eq g2 rfl
theorem dir_rem {d : Nat} (hd : d < 4) : jrem (nI d + 1) (4 : Int32) = (nI d + 1) &&& 3 ∧ jrem (nI d + 3) (4 : Int32) = (nI d + 3) &&& 3 ∧ (((nI d + 1) &&& 3) - nI d) &&& 3 = 1 ∧ (((nI d + 3) &&& 3) - nI d) &&& 3 = 3 ∧ (nI d - nI d) &&& 3 = 0 ∧ (nI d + 1) &&& 3 = nI ((d + 1) % 4) ∧ (nI d + 3) &&& 3 = nI ((d + 3) % 4) :=
  (by decide +kernel : ∀ d, d < 4 → jrem (nI d + 1) (4 : Int32) = (nI d + 1) &&& 3 ∧ jrem (nI d + 3) (4 : Int32) = (nI d + 3) &&& 3 ∧ (((nI d + 1) &&& 3) - nI d) &&& 3 = 1 ∧ (((nI d + 3) &&& 3) - nI d) &&& 3 = 3 ∧ (nI d - nI d) &&& 3 = 0 ∧ (nI d + 1) &&& 3 = nI ((d + 1) % 4) ∧ (nI d + 3) &&& 3 = nI ((d + 3) % 4)) d hd
def pu3 (s : Nat → Int32) (z t : Nat) (X Y D : Int32) : Nat → Int32 := upd (upd (upd (upd s (77 + 5 * z) (nI t)) (77 + 5 * z + 1) X) (77 + 5 * z + 2) Y) (77 + 5 * z + 3) D
def endF (G : GS) (t : Nat) (F : Int32) : Prop := (szG G = 0 ∧ F = nI (lo t) ∧ G.2.1 1 = -1) ∨ (0 < szG G ∧ F = G.2.1 1 ∧ ∃ e, e ≤ 6 ∧ G.2.1 1 = nI e)
theorem m_endBehind {n t : Nat} (hn : 28 < n) (ht : t < 28) {G : GS} {F : Int32} (hF : endF G t F) : f_X6_endBehind n (nI t) (G.2.1 1) = some (nI (lo t + hi t) - F) := by
  have h6 := tl ht
  unfold f_X6_endBehind
  rcases hF with ⟨h1, h2, h3⟩ | ⟨h1, h2, e, h3, h4⟩
  · rw [h3, if_pos rfl, m_greater (by omega) ht, h2, nI_sub (by omega), Nat.add_sub_cancel_left]
    rfl
  · rw [h2, h4, if_neg (nI_ne_m1 (by omega)), m_pips (by omega) ht]
    rfl
theorem m_b81 {n t : Nat} (hn : 28 < n) (ht : t < 28) {G : GS} {s : Nat → Int32} (R : RG G s) (hz : szG G < 28) {d : Nat} (hd4 : d < 4) (hd : G.2.1 2 = nI d) (lf F : Int32) (hE : f_X6_endBehind n (nI t) (G.2.1 1) = some (nI (lo t + hi t) - F)) :
    f_X6_put_b81 n (nI t) lf (pu3 s (szG G) t (G.2.1 3) (G.2.1 4) (G.2.1 2)) (G.1 5) F (nI (77 + 5 * szG G + 4)) =
    (if lo t = hi t then (if lf = 0 then f_X6_put_b169 n (nI t) lf (upd (upd (putU s (szG G) t (G.2.1 3) (G.2.1 4) (G.2.1 2) F (nI (lo t + hi t) - F) (G.1 2 + 1)) 7 ((G.2.1 2 + 1) &&& 3)) 11 (s 11 + 1)) (G.1 5) else f_X6_put_b169 n (nI t) lf (upd (upd (putU s (szG G) t (G.2.1 3) (G.2.1 4) (G.2.1 2) F (nI (lo t + hi t) - F) (G.1 2 + 1)) 7 ((G.2.1 2 + 3) &&& 3)) 12 (s 12 + 1)) (G.1 5)) else f_X6_put_b169 n (nI t) lf (putU s (szG G) t (G.2.1 3) (G.2.1 4) (G.2.1 2) F (nI (lo t + hi t) - F) (G.1 2 + 1)) (G.1 5)) := by
  have h6 := tl ht
  have hw := dir_rem hd4
  rw [← hd] at hw
  unfold f_X6_put_b81 f_X6_put_b148 f_X6_put_b164 putU pu3
  by_cases hq : lo t = hi t
  · by_cases hl : lf = 0
    · simp (disch := omega) only [nI_leI, nI_ltI, nI_eq, nI_clamp, nI_add, nI_mul, nI_sub, nI_ne_m1, nI_ne_m1', chk_n, if_pos, if_neg, if_true, if_false, reduceCtorEq, Nat.add_zero, Nat.zero_add, not_true_eq_false, not_false_eq_true, Nat.not_lt_zero, Nat.zero_le, Option.bind_some, eq_self, e10, e01, em0, em1, e21, ckL_0, ckL_1, ckL_2, ckL_3, ckL_4, ckL_5, ckL_6, ckL_7, ckL_8, ckL_9, ckL_10, ckL_11, ckL_12, leL_0, geL_0, ltL_0, gtL_0, eqL_0, adL_0, muL_0, suL_0, slL_0, alL_0, tnL_0, leL_1, geL_1, ltL_1, gtL_1, eqL_1, adL_1, muL_1, suL_1, slL_1, alL_1, tnL_1, leL_2, geL_2, ltL_2, gtL_2, eqL_2, adL_2, muL_2, suL_2, slL_2, alL_2, tnL_2, leL_3, geL_3, ltL_3, gtL_3, eqL_3, adL_3, muL_3, suL_3, slL_3, alL_3, tnL_3, leL_4, geL_4, ltL_4, gtL_4, eqL_4, adL_4, muL_4, suL_4, slL_4, alL_4, tnL_4, leL_5, geL_5, ltL_5, gtL_5, eqL_5, adL_5, muL_5, suL_5, slL_5, alL_5, tnL_5, leL_6, geL_6, ltL_6, gtL_6, eqL_6, adL_6, muL_6, suL_6, slL_6, alL_6, tnL_6, leL_7, geL_7, ltL_7, gtL_7, eqL_7, adL_7, muL_7, suL_7, slL_7, alL_7, tnL_7, leL_8, geL_8, ltL_8, gtL_8, eqL_8, adL_8, muL_8, suL_8, slL_8, alL_8, tnL_8, leL_9, geL_9, ltL_9, gtL_9, eqL_9, adL_9, muL_9, suL_9, slL_9, alL_9, tnL_9, leL_10, geL_10, ltL_10, gtL_10, eqL_10, adL_10, muL_10, suL_10, slL_10, alL_10, tnL_10, leL_11, geL_11, ltL_11, gtL_11, eqL_11, adL_11, muL_11, suL_11, slL_11, alL_11, tnL_11, leL_12, geL_12, ltL_12, gtL_12, eqL_12, adL_12, muL_12, suL_12, slL_12, alL_12, tnL_12, leL_13, geL_13, ltL_13, gtL_13, eqL_13, adL_13, muL_13, suL_13, slL_13, alL_13, tnL_13, leL_14, geL_14, ltL_14, gtL_14, eqL_14, adL_14, muL_14, suL_14, slL_14, alL_14, tnL_14, leL_15, geL_15, ltL_15, gtL_15, eqL_15, adL_15, muL_15, suL_15, slL_15, alL_15, tnL_15, leL_16, geL_16, ltL_16, gtL_16, eqL_16, adL_16, muL_16, suL_16, slL_16, alL_16, tnL_16, leL_17, geL_17, ltL_17, gtL_17, eqL_17, adL_17, muL_17, suL_17, slL_17, alL_17, tnL_17, leL_21, geL_21, ltL_21, gtL_21, eqL_21, adL_21, muL_21, suL_21, slL_21, alL_21, tnL_21, leL_24, geL_24, ltL_24, gtL_24, eqL_24, adL_24, muL_24, suL_24, slL_24, alL_24, tnL_24, leL_25, geL_25, ltL_25, gtL_25, eqL_25, adL_25, muL_25, suL_25, slL_25, alL_25, tnL_25, leL_26, geL_26, ltL_26, gtL_26, eqL_26, adL_26, muL_26, suL_26, slL_26, alL_26, tnL_26, leL_27, geL_27, ltL_27, gtL_27, eqL_27, adL_27, muL_27, suL_27, slL_27, alL_27, tnL_27, leL_28, geL_28, ltL_28, gtL_28, eqL_28, adL_28, muL_28, suL_28, slL_28, alL_28, tnL_28, leL_48, geL_48, ltL_48, gtL_48, eqL_48, adL_48, muL_48, suL_48, slL_48, alL_48, tnL_48, leL_49, geL_49, ltL_49, gtL_49, eqL_49, adL_49, muL_49, suL_49, slL_49, alL_49, tnL_49, leL_63, geL_63, ltL_63, gtL_63, eqL_63, adL_63, muL_63, suL_63, slL_63, alL_63, tnL_63, leL_77, geL_77, ltL_77, gtL_77, eqL_77, adL_77, muL_77, suL_77, slL_77, alL_77, tnL_77, leL_99, geL_99, ltL_99, gtL_99, eqL_99, adL_99, muL_99, suL_99, slL_99, alL_99, tnL_99, leL_100, geL_100, ltL_100, gtL_100, eqL_100, adL_100, muL_100, suL_100, slL_100, alL_100, tnL_100, leL_119, geL_119, ltL_119, gtL_119, eqL_119, adL_119, muL_119, suL_119, slL_119, alL_119, tnL_119, leL_120, geL_120, ltL_120, gtL_120, eqL_120, adL_120, muL_120, suL_120, slL_120, alL_120, tnL_120, leL_200, geL_200, ltL_200, gtL_200, eqL_200, adL_200, muL_200, suL_200, slL_200, alL_200, tnL_200, leL_217, geL_217, ltL_217, gtL_217, eqL_217, adL_217, muL_217, suL_217, slL_217, alL_217, tnL_217, leL_255, geL_255, ltL_255, gtL_255, eqL_255, adL_255, muL_255, suL_255, slL_255, alL_255, tnL_255, ckT, jdiv_2, jrem_2, ckz_2, ckz_3, ckz_4, ckz_5, ckz_10, ckz_14, ckz_16, ckz_100, ckz_1000, ckz_L, stt, upd_ne, upd_eq, R.r5, R.r10, R.r6, R.r7, hE, m_lesser, m_greater, hl, hw.1]
    · simp (disch := omega) only [nI_leI, nI_ltI, nI_eq, nI_clamp, nI_add, nI_mul, nI_sub, nI_ne_m1, nI_ne_m1', chk_n, if_pos, if_neg, if_true, if_false, reduceCtorEq, Nat.add_zero, Nat.zero_add, not_true_eq_false, not_false_eq_true, Nat.not_lt_zero, Nat.zero_le, Option.bind_some, eq_self, e10, e01, em0, em1, e21, ckL_0, ckL_1, ckL_2, ckL_3, ckL_4, ckL_5, ckL_6, ckL_7, ckL_8, ckL_9, ckL_10, ckL_11, ckL_12, leL_0, geL_0, ltL_0, gtL_0, eqL_0, adL_0, muL_0, suL_0, slL_0, alL_0, tnL_0, leL_1, geL_1, ltL_1, gtL_1, eqL_1, adL_1, muL_1, suL_1, slL_1, alL_1, tnL_1, leL_2, geL_2, ltL_2, gtL_2, eqL_2, adL_2, muL_2, suL_2, slL_2, alL_2, tnL_2, leL_3, geL_3, ltL_3, gtL_3, eqL_3, adL_3, muL_3, suL_3, slL_3, alL_3, tnL_3, leL_4, geL_4, ltL_4, gtL_4, eqL_4, adL_4, muL_4, suL_4, slL_4, alL_4, tnL_4, leL_5, geL_5, ltL_5, gtL_5, eqL_5, adL_5, muL_5, suL_5, slL_5, alL_5, tnL_5, leL_6, geL_6, ltL_6, gtL_6, eqL_6, adL_6, muL_6, suL_6, slL_6, alL_6, tnL_6, leL_7, geL_7, ltL_7, gtL_7, eqL_7, adL_7, muL_7, suL_7, slL_7, alL_7, tnL_7, leL_8, geL_8, ltL_8, gtL_8, eqL_8, adL_8, muL_8, suL_8, slL_8, alL_8, tnL_8, leL_9, geL_9, ltL_9, gtL_9, eqL_9, adL_9, muL_9, suL_9, slL_9, alL_9, tnL_9, leL_10, geL_10, ltL_10, gtL_10, eqL_10, adL_10, muL_10, suL_10, slL_10, alL_10, tnL_10, leL_11, geL_11, ltL_11, gtL_11, eqL_11, adL_11, muL_11, suL_11, slL_11, alL_11, tnL_11, leL_12, geL_12, ltL_12, gtL_12, eqL_12, adL_12, muL_12, suL_12, slL_12, alL_12, tnL_12, leL_13, geL_13, ltL_13, gtL_13, eqL_13, adL_13, muL_13, suL_13, slL_13, alL_13, tnL_13, leL_14, geL_14, ltL_14, gtL_14, eqL_14, adL_14, muL_14, suL_14, slL_14, alL_14, tnL_14, leL_15, geL_15, ltL_15, gtL_15, eqL_15, adL_15, muL_15, suL_15, slL_15, alL_15, tnL_15, leL_16, geL_16, ltL_16, gtL_16, eqL_16, adL_16, muL_16, suL_16, slL_16, alL_16, tnL_16, leL_17, geL_17, ltL_17, gtL_17, eqL_17, adL_17, muL_17, suL_17, slL_17, alL_17, tnL_17, leL_21, geL_21, ltL_21, gtL_21, eqL_21, adL_21, muL_21, suL_21, slL_21, alL_21, tnL_21, leL_24, geL_24, ltL_24, gtL_24, eqL_24, adL_24, muL_24, suL_24, slL_24, alL_24, tnL_24, leL_25, geL_25, ltL_25, gtL_25, eqL_25, adL_25, muL_25, suL_25, slL_25, alL_25, tnL_25, leL_26, geL_26, ltL_26, gtL_26, eqL_26, adL_26, muL_26, suL_26, slL_26, alL_26, tnL_26, leL_27, geL_27, ltL_27, gtL_27, eqL_27, adL_27, muL_27, suL_27, slL_27, alL_27, tnL_27, leL_28, geL_28, ltL_28, gtL_28, eqL_28, adL_28, muL_28, suL_28, slL_28, alL_28, tnL_28, leL_48, geL_48, ltL_48, gtL_48, eqL_48, adL_48, muL_48, suL_48, slL_48, alL_48, tnL_48, leL_49, geL_49, ltL_49, gtL_49, eqL_49, adL_49, muL_49, suL_49, slL_49, alL_49, tnL_49, leL_63, geL_63, ltL_63, gtL_63, eqL_63, adL_63, muL_63, suL_63, slL_63, alL_63, tnL_63, leL_77, geL_77, ltL_77, gtL_77, eqL_77, adL_77, muL_77, suL_77, slL_77, alL_77, tnL_77, leL_99, geL_99, ltL_99, gtL_99, eqL_99, adL_99, muL_99, suL_99, slL_99, alL_99, tnL_99, leL_100, geL_100, ltL_100, gtL_100, eqL_100, adL_100, muL_100, suL_100, slL_100, alL_100, tnL_100, leL_119, geL_119, ltL_119, gtL_119, eqL_119, adL_119, muL_119, suL_119, slL_119, alL_119, tnL_119, leL_120, geL_120, ltL_120, gtL_120, eqL_120, adL_120, muL_120, suL_120, slL_120, alL_120, tnL_120, leL_200, geL_200, ltL_200, gtL_200, eqL_200, adL_200, muL_200, suL_200, slL_200, alL_200, tnL_200, leL_217, geL_217, ltL_217, gtL_217, eqL_217, adL_217, muL_217, suL_217, slL_217, alL_217, tnL_217, leL_255, geL_255, ltL_255, gtL_255, eqL_255, adL_255, muL_255, suL_255, slL_255, alL_255, tnL_255, ckT, jdiv_2, jrem_2, ckz_2, ckz_3, ckz_4, ckz_5, ckz_10, ckz_14, ckz_16, ckz_100, ckz_1000, ckz_L, stt, upd_ne, upd_eq, R.r5, R.r10, R.r6, R.r7, hE, m_lesser, m_greater, hl, hw.2.1]
  · simp (disch := omega) only [nI_leI, nI_ltI, nI_eq, nI_clamp, nI_add, nI_mul, nI_sub, nI_ne_m1, nI_ne_m1', chk_n, if_pos, if_neg, if_true, if_false, reduceCtorEq, Nat.add_zero, Nat.zero_add, not_true_eq_false, not_false_eq_true, Nat.not_lt_zero, Nat.zero_le, Option.bind_some, eq_self, e10, e01, em0, em1, e21, ckL_0, ckL_1, ckL_2, ckL_3, ckL_4, ckL_5, ckL_6, ckL_7, ckL_8, ckL_9, ckL_10, ckL_11, ckL_12, leL_0, geL_0, ltL_0, gtL_0, eqL_0, adL_0, muL_0, suL_0, slL_0, alL_0, tnL_0, leL_1, geL_1, ltL_1, gtL_1, eqL_1, adL_1, muL_1, suL_1, slL_1, alL_1, tnL_1, leL_2, geL_2, ltL_2, gtL_2, eqL_2, adL_2, muL_2, suL_2, slL_2, alL_2, tnL_2, leL_3, geL_3, ltL_3, gtL_3, eqL_3, adL_3, muL_3, suL_3, slL_3, alL_3, tnL_3, leL_4, geL_4, ltL_4, gtL_4, eqL_4, adL_4, muL_4, suL_4, slL_4, alL_4, tnL_4, leL_5, geL_5, ltL_5, gtL_5, eqL_5, adL_5, muL_5, suL_5, slL_5, alL_5, tnL_5, leL_6, geL_6, ltL_6, gtL_6, eqL_6, adL_6, muL_6, suL_6, slL_6, alL_6, tnL_6, leL_7, geL_7, ltL_7, gtL_7, eqL_7, adL_7, muL_7, suL_7, slL_7, alL_7, tnL_7, leL_8, geL_8, ltL_8, gtL_8, eqL_8, adL_8, muL_8, suL_8, slL_8, alL_8, tnL_8, leL_9, geL_9, ltL_9, gtL_9, eqL_9, adL_9, muL_9, suL_9, slL_9, alL_9, tnL_9, leL_10, geL_10, ltL_10, gtL_10, eqL_10, adL_10, muL_10, suL_10, slL_10, alL_10, tnL_10, leL_11, geL_11, ltL_11, gtL_11, eqL_11, adL_11, muL_11, suL_11, slL_11, alL_11, tnL_11, leL_12, geL_12, ltL_12, gtL_12, eqL_12, adL_12, muL_12, suL_12, slL_12, alL_12, tnL_12, leL_13, geL_13, ltL_13, gtL_13, eqL_13, adL_13, muL_13, suL_13, slL_13, alL_13, tnL_13, leL_14, geL_14, ltL_14, gtL_14, eqL_14, adL_14, muL_14, suL_14, slL_14, alL_14, tnL_14, leL_15, geL_15, ltL_15, gtL_15, eqL_15, adL_15, muL_15, suL_15, slL_15, alL_15, tnL_15, leL_16, geL_16, ltL_16, gtL_16, eqL_16, adL_16, muL_16, suL_16, slL_16, alL_16, tnL_16, leL_17, geL_17, ltL_17, gtL_17, eqL_17, adL_17, muL_17, suL_17, slL_17, alL_17, tnL_17, leL_21, geL_21, ltL_21, gtL_21, eqL_21, adL_21, muL_21, suL_21, slL_21, alL_21, tnL_21, leL_24, geL_24, ltL_24, gtL_24, eqL_24, adL_24, muL_24, suL_24, slL_24, alL_24, tnL_24, leL_25, geL_25, ltL_25, gtL_25, eqL_25, adL_25, muL_25, suL_25, slL_25, alL_25, tnL_25, leL_26, geL_26, ltL_26, gtL_26, eqL_26, adL_26, muL_26, suL_26, slL_26, alL_26, tnL_26, leL_27, geL_27, ltL_27, gtL_27, eqL_27, adL_27, muL_27, suL_27, slL_27, alL_27, tnL_27, leL_28, geL_28, ltL_28, gtL_28, eqL_28, adL_28, muL_28, suL_28, slL_28, alL_28, tnL_28, leL_48, geL_48, ltL_48, gtL_48, eqL_48, adL_48, muL_48, suL_48, slL_48, alL_48, tnL_48, leL_49, geL_49, ltL_49, gtL_49, eqL_49, adL_49, muL_49, suL_49, slL_49, alL_49, tnL_49, leL_63, geL_63, ltL_63, gtL_63, eqL_63, adL_63, muL_63, suL_63, slL_63, alL_63, tnL_63, leL_77, geL_77, ltL_77, gtL_77, eqL_77, adL_77, muL_77, suL_77, slL_77, alL_77, tnL_77, leL_99, geL_99, ltL_99, gtL_99, eqL_99, adL_99, muL_99, suL_99, slL_99, alL_99, tnL_99, leL_100, geL_100, ltL_100, gtL_100, eqL_100, adL_100, muL_100, suL_100, slL_100, alL_100, tnL_100, leL_119, geL_119, ltL_119, gtL_119, eqL_119, adL_119, muL_119, suL_119, slL_119, alL_119, tnL_119, leL_120, geL_120, ltL_120, gtL_120, eqL_120, adL_120, muL_120, suL_120, slL_120, alL_120, tnL_120, leL_200, geL_200, ltL_200, gtL_200, eqL_200, adL_200, muL_200, suL_200, slL_200, alL_200, tnL_200, leL_217, geL_217, ltL_217, gtL_217, eqL_217, adL_217, muL_217, suL_217, slL_217, alL_217, tnL_217, leL_255, geL_255, ltL_255, gtL_255, eqL_255, adL_255, muL_255, suL_255, slL_255, alL_255, tnL_255, ckT, jdiv_2, jrem_2, ckz_2, ckz_3, ckz_4, ckz_5, ckz_10, ckz_14, ckz_16, ckz_100, ckz_1000, ckz_L, stt, upd_ne, upd_eq, R.r5, R.r10, R.r6, R.r7, hE, m_lesser, m_greater]
theorem m_put {n t : Nat} (hn : 28 < n) (ht : t < 28) {G : GS} {B : Nat} (V : VG G B) {s : Nat → Int32} (R : RG G s) (hz : szG G < 28) (lf F : Int32) (hF : endF G t F) : f_X6_put n s (nI t) lf = f_X6_put_b81 n (nI t) lf (pu3 s (szG G) t (G.2.1 3) (G.2.1 4) (G.2.1 2)) (G.1 5) F (nI (77 + 5 * szG G + 4)) := by
  obtain ⟨nx, ny⟩ := r_next V R
  have h6 := tl ht
  unfold f_X6_put pu3
  rcases hF with ⟨h1, h2, h3⟩ | ⟨h1, h2, e, h3, h4⟩
  · simp (disch := omega) only [nI_leI, nI_ltI, nI_eq, nI_clamp, nI_add, nI_mul, nI_sub, nI_ne_m1, nI_ne_m1', chk_n, if_pos, if_neg, if_true, if_false, reduceCtorEq, Nat.add_zero, Nat.zero_add, not_true_eq_false, not_false_eq_true, Nat.not_lt_zero, Nat.zero_le, Option.bind_some, eq_self, e10, e01, em0, em1, e21, ckL_0, ckL_1, ckL_2, ckL_3, ckL_4, ckL_5, ckL_6, ckL_7, ckL_8, ckL_9, ckL_10, ckL_11, ckL_12, leL_0, geL_0, ltL_0, gtL_0, eqL_0, adL_0, muL_0, suL_0, slL_0, alL_0, tnL_0, leL_1, geL_1, ltL_1, gtL_1, eqL_1, adL_1, muL_1, suL_1, slL_1, alL_1, tnL_1, leL_2, geL_2, ltL_2, gtL_2, eqL_2, adL_2, muL_2, suL_2, slL_2, alL_2, tnL_2, leL_3, geL_3, ltL_3, gtL_3, eqL_3, adL_3, muL_3, suL_3, slL_3, alL_3, tnL_3, leL_4, geL_4, ltL_4, gtL_4, eqL_4, adL_4, muL_4, suL_4, slL_4, alL_4, tnL_4, leL_5, geL_5, ltL_5, gtL_5, eqL_5, adL_5, muL_5, suL_5, slL_5, alL_5, tnL_5, leL_6, geL_6, ltL_6, gtL_6, eqL_6, adL_6, muL_6, suL_6, slL_6, alL_6, tnL_6, leL_7, geL_7, ltL_7, gtL_7, eqL_7, adL_7, muL_7, suL_7, slL_7, alL_7, tnL_7, leL_8, geL_8, ltL_8, gtL_8, eqL_8, adL_8, muL_8, suL_8, slL_8, alL_8, tnL_8, leL_9, geL_9, ltL_9, gtL_9, eqL_9, adL_9, muL_9, suL_9, slL_9, alL_9, tnL_9, leL_10, geL_10, ltL_10, gtL_10, eqL_10, adL_10, muL_10, suL_10, slL_10, alL_10, tnL_10, leL_11, geL_11, ltL_11, gtL_11, eqL_11, adL_11, muL_11, suL_11, slL_11, alL_11, tnL_11, leL_12, geL_12, ltL_12, gtL_12, eqL_12, adL_12, muL_12, suL_12, slL_12, alL_12, tnL_12, leL_13, geL_13, ltL_13, gtL_13, eqL_13, adL_13, muL_13, suL_13, slL_13, alL_13, tnL_13, leL_14, geL_14, ltL_14, gtL_14, eqL_14, adL_14, muL_14, suL_14, slL_14, alL_14, tnL_14, leL_15, geL_15, ltL_15, gtL_15, eqL_15, adL_15, muL_15, suL_15, slL_15, alL_15, tnL_15, leL_16, geL_16, ltL_16, gtL_16, eqL_16, adL_16, muL_16, suL_16, slL_16, alL_16, tnL_16, leL_17, geL_17, ltL_17, gtL_17, eqL_17, adL_17, muL_17, suL_17, slL_17, alL_17, tnL_17, leL_21, geL_21, ltL_21, gtL_21, eqL_21, adL_21, muL_21, suL_21, slL_21, alL_21, tnL_21, leL_24, geL_24, ltL_24, gtL_24, eqL_24, adL_24, muL_24, suL_24, slL_24, alL_24, tnL_24, leL_25, geL_25, ltL_25, gtL_25, eqL_25, adL_25, muL_25, suL_25, slL_25, alL_25, tnL_25, leL_26, geL_26, ltL_26, gtL_26, eqL_26, adL_26, muL_26, suL_26, slL_26, alL_26, tnL_26, leL_27, geL_27, ltL_27, gtL_27, eqL_27, adL_27, muL_27, suL_27, slL_27, alL_27, tnL_27, leL_28, geL_28, ltL_28, gtL_28, eqL_28, adL_28, muL_28, suL_28, slL_28, alL_28, tnL_28, leL_48, geL_48, ltL_48, gtL_48, eqL_48, adL_48, muL_48, suL_48, slL_48, alL_48, tnL_48, leL_49, geL_49, ltL_49, gtL_49, eqL_49, adL_49, muL_49, suL_49, slL_49, alL_49, tnL_49, leL_63, geL_63, ltL_63, gtL_63, eqL_63, adL_63, muL_63, suL_63, slL_63, alL_63, tnL_63, leL_77, geL_77, ltL_77, gtL_77, eqL_77, adL_77, muL_77, suL_77, slL_77, alL_77, tnL_77, leL_99, geL_99, ltL_99, gtL_99, eqL_99, adL_99, muL_99, suL_99, slL_99, alL_99, tnL_99, leL_100, geL_100, ltL_100, gtL_100, eqL_100, adL_100, muL_100, suL_100, slL_100, alL_100, tnL_100, leL_119, geL_119, ltL_119, gtL_119, eqL_119, adL_119, muL_119, suL_119, slL_119, alL_119, tnL_119, leL_120, geL_120, ltL_120, gtL_120, eqL_120, adL_120, muL_120, suL_120, slL_120, alL_120, tnL_120, leL_200, geL_200, ltL_200, gtL_200, eqL_200, adL_200, muL_200, suL_200, slL_200, alL_200, tnL_200, leL_217, geL_217, ltL_217, gtL_217, eqL_217, adL_217, muL_217, suL_217, slL_217, alL_217, tnL_217, leL_255, geL_255, ltL_255, gtL_255, eqL_255, adL_255, muL_255, suL_255, slL_255, alL_255, tnL_255, ckT, jdiv_2, jrem_2, ckz_2, ckz_3, ckz_4, ckz_5, ckz_10, ckz_14, ckz_16, ckz_100, ckz_1000, ckz_L, stt, upd_ne, upd_eq, R.r5, R.r6, R.r7, R.r3, nx, ny, m_lesser, h3, h2]
  · simp (disch := omega) only [nI_leI, nI_ltI, nI_eq, nI_clamp, nI_add, nI_mul, nI_sub, nI_ne_m1, nI_ne_m1', chk_n, if_pos, if_neg, if_true, if_false, reduceCtorEq, Nat.add_zero, Nat.zero_add, not_true_eq_false, not_false_eq_true, Nat.not_lt_zero, Nat.zero_le, Option.bind_some, eq_self, e10, e01, em0, em1, e21, ckL_0, ckL_1, ckL_2, ckL_3, ckL_4, ckL_5, ckL_6, ckL_7, ckL_8, ckL_9, ckL_10, ckL_11, ckL_12, leL_0, geL_0, ltL_0, gtL_0, eqL_0, adL_0, muL_0, suL_0, slL_0, alL_0, tnL_0, leL_1, geL_1, ltL_1, gtL_1, eqL_1, adL_1, muL_1, suL_1, slL_1, alL_1, tnL_1, leL_2, geL_2, ltL_2, gtL_2, eqL_2, adL_2, muL_2, suL_2, slL_2, alL_2, tnL_2, leL_3, geL_3, ltL_3, gtL_3, eqL_3, adL_3, muL_3, suL_3, slL_3, alL_3, tnL_3, leL_4, geL_4, ltL_4, gtL_4, eqL_4, adL_4, muL_4, suL_4, slL_4, alL_4, tnL_4, leL_5, geL_5, ltL_5, gtL_5, eqL_5, adL_5, muL_5, suL_5, slL_5, alL_5, tnL_5, leL_6, geL_6, ltL_6, gtL_6, eqL_6, adL_6, muL_6, suL_6, slL_6, alL_6, tnL_6, leL_7, geL_7, ltL_7, gtL_7, eqL_7, adL_7, muL_7, suL_7, slL_7, alL_7, tnL_7, leL_8, geL_8, ltL_8, gtL_8, eqL_8, adL_8, muL_8, suL_8, slL_8, alL_8, tnL_8, leL_9, geL_9, ltL_9, gtL_9, eqL_9, adL_9, muL_9, suL_9, slL_9, alL_9, tnL_9, leL_10, geL_10, ltL_10, gtL_10, eqL_10, adL_10, muL_10, suL_10, slL_10, alL_10, tnL_10, leL_11, geL_11, ltL_11, gtL_11, eqL_11, adL_11, muL_11, suL_11, slL_11, alL_11, tnL_11, leL_12, geL_12, ltL_12, gtL_12, eqL_12, adL_12, muL_12, suL_12, slL_12, alL_12, tnL_12, leL_13, geL_13, ltL_13, gtL_13, eqL_13, adL_13, muL_13, suL_13, slL_13, alL_13, tnL_13, leL_14, geL_14, ltL_14, gtL_14, eqL_14, adL_14, muL_14, suL_14, slL_14, alL_14, tnL_14, leL_15, geL_15, ltL_15, gtL_15, eqL_15, adL_15, muL_15, suL_15, slL_15, alL_15, tnL_15, leL_16, geL_16, ltL_16, gtL_16, eqL_16, adL_16, muL_16, suL_16, slL_16, alL_16, tnL_16, leL_17, geL_17, ltL_17, gtL_17, eqL_17, adL_17, muL_17, suL_17, slL_17, alL_17, tnL_17, leL_21, geL_21, ltL_21, gtL_21, eqL_21, adL_21, muL_21, suL_21, slL_21, alL_21, tnL_21, leL_24, geL_24, ltL_24, gtL_24, eqL_24, adL_24, muL_24, suL_24, slL_24, alL_24, tnL_24, leL_25, geL_25, ltL_25, gtL_25, eqL_25, adL_25, muL_25, suL_25, slL_25, alL_25, tnL_25, leL_26, geL_26, ltL_26, gtL_26, eqL_26, adL_26, muL_26, suL_26, slL_26, alL_26, tnL_26, leL_27, geL_27, ltL_27, gtL_27, eqL_27, adL_27, muL_27, suL_27, slL_27, alL_27, tnL_27, leL_28, geL_28, ltL_28, gtL_28, eqL_28, adL_28, muL_28, suL_28, slL_28, alL_28, tnL_28, leL_48, geL_48, ltL_48, gtL_48, eqL_48, adL_48, muL_48, suL_48, slL_48, alL_48, tnL_48, leL_49, geL_49, ltL_49, gtL_49, eqL_49, adL_49, muL_49, suL_49, slL_49, alL_49, tnL_49, leL_63, geL_63, ltL_63, gtL_63, eqL_63, adL_63, muL_63, suL_63, slL_63, alL_63, tnL_63, leL_77, geL_77, ltL_77, gtL_77, eqL_77, adL_77, muL_77, suL_77, slL_77, alL_77, tnL_77, leL_99, geL_99, ltL_99, gtL_99, eqL_99, adL_99, muL_99, suL_99, slL_99, alL_99, tnL_99, leL_100, geL_100, ltL_100, gtL_100, eqL_100, adL_100, muL_100, suL_100, slL_100, alL_100, tnL_100, leL_119, geL_119, ltL_119, gtL_119, eqL_119, adL_119, muL_119, suL_119, slL_119, alL_119, tnL_119, leL_120, geL_120, ltL_120, gtL_120, eqL_120, adL_120, muL_120, suL_120, slL_120, alL_120, tnL_120, leL_200, geL_200, ltL_200, gtL_200, eqL_200, adL_200, muL_200, suL_200, slL_200, alL_200, tnL_200, leL_217, geL_217, ltL_217, gtL_217, eqL_217, adL_217, muL_217, suL_217, slL_217, alL_217, tnL_217, leL_255, geL_255, ltL_255, gtL_255, eqL_255, adL_255, muL_255, suL_255, slL_255, alL_255, tnL_255, ckT, jdiv_2, jrem_2, ckz_2, ckz_3, ckz_4, ckz_5, ckz_10, ckz_14, ckz_16, ckz_100, ckz_1000, ckz_L, stt, upd_ne, upd_eq, R.r5, R.r6, R.r7, R.r3, nx, ny, h4, h2]
theorem f_add {t : Nat} (ht : t < 28) {G : GS} {B : Nat} (V : VG G B) (hz : szG G < 28) (lf F : Int32) (hF : endF G t F) : f_X2_add G (nI t) lf = f_X2_add_b35 (nI t) lf G F := by
  unfold f_X2_add
  rw [V.sz]
  refine in_eq (nI_pos (by omega)) ?_
  refine ip_eq ((gtL_28 (by omega)).mpr hz) ?_
  rcases hF with ⟨h1, h2, h3⟩ | ⟨h1, h2, e, h3, h4⟩
  · refine ip_eq (by rw [h1]; rfl) ?_
    refine bd_eq (f_lowOf_n ht) ?_
    rw [h2]
  · refine in_eq (nI_ne0 (by omega) (by omega)) ?_
    rw [h2]
theorem lay_core {n1 n2 : Nat} (hn1 : 28 < n1) (hn2 : 28 < n2) {G Ha : GS} {s s1 : Nat → Int32} {B t f w a b a' b' : Nat} {F W lf r l : Int32} (V : VG G B) (R : RG G s) (hph : G.1 3 = 1) (ht : t < 28) (hh : G.2.2 1 t ≠ -1) (hr0 : f_X0_reasonAgainst G (nI t) = some 0) (hadd : f_X2_add G (nI t) lf = some Ha) (S : addS G (bhd Ha t) t F W a b a' b') (hput : f_X6_put n2 s (nI t) lf = f_X6_put_b169 n2 (nI t) lf s1 (G.1 5))
    (S1 : putS s s1 (szG G) t (G.2.1 3) (G.2.1 4) (G.2.1 2) F (nI (lo t + hi t) - F) (G.1 2 + 1) W r l) (hF : F = nI f) (hf1 : f ≤ lo t + hi t) (hf2 : f ≤ 6) (hf3 : lo t + hi t - f ≤ 6) (hW : W = nI w) (hw : w < 4)
    (hX : G.2.1 3 = nI a) (hY : G.2.1 4 = nI b) (hX2 : G.2.1 3 + sX (G.2.1 2) = nI a') (hY2 : G.2.1 4 + sY (G.2.1 2) = nI b') (ha : a < 25) (hb : b < 25) (ha' : a' < 25) (hb' : b' < 25) (hq : ¬ bitG G a b) (hq' : ¬ bitG G a' b')
    (hr : r = nI (trn G 1 (szG G) + if (W - G.2.1 2) &&& 3 = 1 then 1 else 0)) (hl : l = nI (trn G 3 (szG G) + if (W - G.2.1 2) &&& 3 = 3 then 1 else 0)) :
    ∃ H s', f_X0_layIfPossible n1 G (nI t) lf = some (H, 1) ∧ f_X6_put n2 s (nI t) lf = some s' ∧ VG H B ∧ RG H s' ∧ H.1 0 = G.1 0 := by
  have V1 := lay_VG V S hph ht hh hF hf1 hf2 hf3 hW hw hX hY hX2 hY2 ha hb ha' hb' hq hq'
  have R1 := lay_RG V R S ht hh S1 rfl hr hl
  obtain ⟨H, s', g1, g2, g3, g4, g5⟩ := fin_both hn1 hn2 V1 R1 (by rw [S.g3]; exact hph) (nI t) lf
  refine ⟨H, s', ?_, ?_, g3, g4, by rw [g5, S.g0]⟩
  · unfold f_X0_layIfPossible
    refine bd_eq hr0 ?_
    refine ip_eq rfl ?_
    refine bd_eq hadd ?_
    refine bd_eq (f_giveTo_n ht _ _) ?_
    exact g1
  · rw [hput, ← S.g5]
    exact g2
theorem lay_both {n1 n2 : Nat} (hn1 : 28 < n1) (hn2 : 28 < n2) {G : GS} {B : Nat} (V : VG G B) {s : Nat → Int32} (R : RG G s) (hph : G.1 3 = 1) {t : Nat} (ht : t < 28) (h0 : rs n2 s t = 0) (lf : Int32) :
    ∃ H s', f_X0_layIfPossible n1 G (nI t) lf = some (H, 1) ∧ f_X6_put n2 s (nI t) lf = some s' ∧ VG H B ∧ RG H s' ∧ H.1 0 = G.1 0 := by
  have h6 := tl ht
  obtain ⟨r1, r2, r3, r4⟩ := reason_rs hn2 V R ht
  obtain ⟨k1, k2, ⟨a, b, ha, hb, hX, hY, hq⟩, ⟨a', b', ha', hb', hX2, hY2, hq'⟩⟩ := r4 h0
  rw [if_pos hph, h0] at r2
  obtain ⟨P, tt, q, h1, h2, h3, h4, e1, e2, e3⟩ := V.pl hph
  have hh : G.2.2 1 t ≠ -1 := by
    rw [k1, e2]
    exact nI_ne_m1 (by omega)
  have hz := size_lt V ht hh
  obtain ⟨d, hd4, hd⟩ := V.di
  obtain ⟨w1, w2, w3, w4, w5, w6, w7⟩ := dir_rem hd4
  have hfx : ∃ f F, F = nI f ∧ f ≤ lo t + hi t ∧ f ≤ 6 ∧ lo t + hi t - f ≤ 6 ∧ endF G t F := by
    rcases V.en with ⟨g1, g2⟩ | ⟨g1, e, g2, g3⟩
    · exact ⟨lo t, _, rfl, by omega, by omega, by omega, Or.inl ⟨g1, rfl, g2⟩⟩
    · rw [g3] at k2
      rcases k2 with k2 | k2 | k2
      · omega
      · have := nI_inj (by omega) (by omega) k2
        exact ⟨e, G.2.1 1, g3, by omega, g2, by omega, Or.inr ⟨g1, rfl, e, g2, g3⟩⟩
      · have := nI_inj (by omega) (by omega) k2
        exact ⟨e, G.2.1 1, g3, by omega, g2, by omega, Or.inr ⟨g1, rfl, e, g2, g3⟩⟩
  obtain ⟨f, F, hF, hf1, hf2, hf3, hE⟩ := hfx
  have hin : inB (G.2.1 0) 28 := by
    rw [V.sz]
    exact in_n hz (by omega)
  have hA := (f_add ht V hz lf F hE).trans (f_add_b35 ht lf F hin hX hY hX2 hY2 ha hb ha' hb')
  have hP := (m_put hn2 ht V R hz lf F hE).trans (m_b81 hn2 ht R hz hd4 hd lf F (m_endBehind hn2 ht hE))
  by_cases hdd : lo t = hi t
  · rw [if_pos hdd] at hA hP
    by_cases hl : lf = 0
    · rw [if_pos hl] at hA hP
      exact lay_core hn1 hn2 V R hph ht hh r2 hA (addS_2 G t F _ a b a' b') hP (putS_2 ht _ _ _ _ _ _ _) hF hf1 hf2 hf3 (by rw [hd]; exact w6) (Nat.mod_lt _ (by omega)) hX hY hX2 hY2 ha hb ha' hb' hq hq'
        (by rw [hd, w3, if_pos rfl, R.r11, nI_1]) (by rw [hd, w3, if_neg (by decide), R.r12]; rfl)
    · rw [if_neg hl] at hA hP
      exact lay_core hn1 hn2 V R hph ht hh r2 hA (addS_2 G t F _ a b a' b') hP (putS_3 ht _ _ _ _ _ _ _) hF hf1 hf2 hf3 (by rw [hd]; exact w7) (Nat.mod_lt _ (by omega)) hX hY hX2 hY2 ha hb ha' hb' hq hq'
        (by rw [hd, w4, if_neg (by decide), R.r11]; rfl) (by rw [hd, w4, if_pos rfl, R.r12, nI_1])
  · rw [if_neg hdd] at hA hP
    exact lay_core hn1 hn2 V R hph ht hh r2 hA (addS_1 G t F a b a' b') hP (putS_1 ht _ _ _ _ _ _ R.r7) hF hf1 hf2 hf3 hd hd4 hX hY hX2 hY2 ha hb ha' hb' hq hq'
      (by rw [hd, w5, if_neg (by decide), R.r11]; rfl) (by rw [hd, w5, if_neg (by decide), R.r12]; rfl)
theorem lay_none {n1 n2 : Nat} (hn2 : 28 < n2) {G : GS} {B : Nat} (V : VG G B) {s : Nat → Int32} (R : RG G s) {t : Nat} (ht : t < 28) (h : ¬ (G.1 3 = 1 ∧ rs n2 s t = 0)) (lf : Int32) : f_X0_layIfPossible n1 G (nI t) lf = some (G, 0) := by
  obtain ⟨r1, r2, r3, r4⟩ := reason_rs hn2 V R ht
  unfold f_X0_layIfPossible
  refine bd_eq r2 (in_eq ?_ rfl)
  by_cases hp : G.1 3 = 1
  · rw [if_pos hp]
    exact fun q => h ⟨hp, q⟩
  · rw [if_neg hp]
    decide
theorem lay_m1 {n1 : Nat} {G : GS} {B : Nat} (V : VG G B) (lf : Int32) : f_X0_layIfPossible n1 G (-1) lf = some (G, 0) := by
  unfold f_X0_layIfPossible
  by_cases hp : G.1 3 = 1
  · have h1 : f_X0_reasonAgainst G (-1) = some 1 := by
      obtain ⟨P, tt, q, h1, h2, h3, h4, e1, e2, e3⟩ := V.pl hp
      unfold f_X0_reasonAgainst
      refine bd_eq f_isPlayed ?_
      rw [if_pos hp]
      refine in_eq (by decide) ?_
      refine bd_eq (v := -1) rfl ?_
      rw [e2]
      exact if_neg (nI_ne_m1' (by omega))
    exact bd_eq h1 rfl
  · have h1 : f_X0_reasonAgainst G (-1) = some (-1) := by
      unfold f_X0_reasonAgainst
      refine bd_eq f_isPlayed ?_
      rw [if_neg hp]
      exact if_pos rfl
    exact bd_eq h1 rfl
