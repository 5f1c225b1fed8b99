/-! PURE LEVEL: a tile is laid as it was told, and taken back -/
theorem eq_cell {G T : GS} (E : eqG G T) (x y : Int32) : cellF T x y ↔ cellF G x y := by
  unfold cellF
  constructor
  · rintro ⟨a, b, ha, hb, e1, e2, hq⟩
    refine ⟨a, b, ha, hb, e1, e2, fun q => hq ?_⟩
    unfold bitG at q ⊢
    rw [E.c 9 b (by omega) hb]
    exact q
  · rintro ⟨a, b, ha, hb, e1, e2, hq⟩
    refine ⟨a, b, ha, hb, e1, e2, fun q => hq ?_⟩
    unfold bitG at q ⊢
    rw [E.c 9 b (by omega) hb] at q
    exact q
theorem eq_room {G T : GS} (E : eqG G T) : roomG T ↔ roomG G := by
  unfold roomG
  rw [E.b 2 (by omega), E.b 3 (by omega), E.b 4 (by omega), eq_cell E, eq_cell E]
theorem eq_sz {G T : GS} (E : eqG G T) : szG T = szG G := by
  unfold szG
  rw [E.b 0 (by omega)]
theorem eq_ho {G T : GS} (E : eqG G T) {t : Nat} (ht : t < 28) : T.2.2 1 t = G.2.2 1 t := E.c 1 t (by omega) ht
theorem eq_rsn {G T : GS} {B B' : Nat} (V : VG G B) (V' : VG T B') (E : eqG G T) {t : Nat} (ht : t < 28) : rsn T t = rsn G t := by
  refine rsn_un (f_reason V ht).2 (f_reason V' ht).2 ?_ ?_ ?_ (eq_room E)
  · rw [E.a 3 (by omega)]
  · rw [eq_ho E ht, E.a 5 (by omega)]
  · unfold fitG
    rw [eq_sz E, E.b 1 (by omega)]
theorem thrown_no {k : Nat} (h : k < 2 ^ 31) : f_L_thrown (nI k) = some 0 := by
  have ne : ∀ v : Int32, v < 0 → ¬ nI k = v := fun v hv q => by
    rw [← q] at hv
    exact nI_lt0 h hv
  unfold f_L_thrown
  exact in_eq (ne _ (by decide)) (in_eq (ne _ (by decide)) (in_eq (ne _ (by decide)) rfl))
theorem lays_471 {n B t tt : Nat} (hn : 28 < n) {c : CS} {G : GS} {B' : Nat} (W : WI B c) (V : VG G B') (hT : topP c G) (hp : G.1 3 = 1) (h5 : G.1 5 = nI tt) (ht : t < 28) (h4 : tt < 4) (x2 : Int32) :
    ∃ c', f_L_lays_b471 n x2 c c (nI t) (rsn G t) (nI tt) (nI (szG G)) (nI (cntH (G.2.2 1) (nI tt) 28)) (1 : Int32) = some (c', c', 1) ∧ WI B c' := by
  obtain ⟨c', T, v, h1, W', hG, hE, hv⟩ := f_undo W hT
  obtain ⟨bg, k, b1, b2, b3, b4, b5⟩ := hT
  have hv2 : v = nI k := by
    rw [hv, b4, suL_1 (by omega), Nat.add_sub_cancel]
  subst hv2
  have hu : f_L_call n c (10 : Int32) 0 0 0 = some (c', nI k) := k_tryUndo_0 h1
  have hth := thrown_no (k := k) (by omega)
  have VT := W'.g
  rw [hG] at VT
  have a5 := ab_5 (n := n) (z0 := 0) (z1 := 0) W'
  have a3 := ab_3 (n := n) (z0 := 0) (z1 := 0) W'
  have p0 := pl_0 (n := n) (c := c') (z0 := 0) hn h4
  have w0 := why_v (n := n) (z0 := 0) (z1 := 0) W' ht
  rw [hG, eq_sz hE] at a5
  rw [hG, hE.a 3 (by omega), if_pos hp, hE.a 5 (by omega), h5] at a3
  rw [hG, cntH_congr 28 (fun j hj => eq_ho hE hj)] at p0
  rw [hG, eq_rsn V VT hE ht] at w0
  refine ⟨c', ?_, W'⟩
  unfold f_L_lays_b471
  exact in_eq (by decide) (bd_eq hu (bd_eq hth (ip_eq rfl (bd_eq hu (bd_eq hth (ip_eq rfl (bd_eq a5 (ip_eq rfl (bd_eq a3 (ip_eq rfl (bd_eq p0 (ip_eq rfl (bd_eq w0 (ip_eq rfl rfl))))))))))))))
/-! what laying makes of the numbers -/
theorem layF_l (K : GS) (P tt : Nat) : (layF K P tt).2.1 = K.2.1 := by
  unfold layF
  split <;> rfl
theorem layF_a (K : GS) (P tt : Nat) {j : Nat} (h2 : j ≠ 2) (h3 : j ≠ 3) : (layF K P tt).2.2 j = K.2.2 j := by
  unfold layF
  split
  · unfold winG gS gA va_up
    dsimp only
    rw [if_neg h3, if_neg h2]
  · rfl
theorem layF_g (K : GS) (P tt : Nat) : (layF K P tt).1 1 = K.1 1 ∧ (layF K P tt).1 4 = K.1 4 := by
  unfold layF
  split
  · exact ⟨rfl, rfl⟩
  · exact ⟨rfl, rfl⟩
theorem sum_upd {h : Nat → Int32} {t tt : Nat} (ht : t < 28) (hh : h t = nI tt) (h4 : tt < 4) : sumP (upd h t (-1)) 4 + pp t = sumP h 4 := by
  have e : ∀ p : Nat, p < 4 → pipH (upd h t (-1)) (nI p) 28 + (if p = tt then pp t else 0) = pipH h (nI p) 28 := fun p hp => by
    have := pipH_upd h (p := nI p) (nI_ne_m1' (by omega)) t 28
    rw [← this, hh]
    by_cases q : p = tt
    · subst q
      rw [if_pos rfl, if_pos ⟨ht, rfl⟩]
    · rw [if_neg q, if_neg (fun z => q (nI_inj (by omega) (by omega) z.2).symm)]
  have e0 := e 0 (by omega)
  have e1 := e 1 (by omega)
  have e2 := e 2 (by omega)
  have e3 := e 3 (by omega)
  simp only [sumP]
  have hc : tt = 0 ∨ tt = 1 ∨ tt = 2 ∨ tt = 3 := by omega
  rcases hc with rfl | rfl | rfl | rfl <;> simp at e0 e1 e2 e3 <;> omega
theorem sum_more {h : Nat → Int32} {P : Nat} (hP : P ≤ 4) (ho : ∀ t, t < 28 → h t = -1 ∨ ∃ p, p < P ∧ h t = nI p) : ∀ d, P + d ≤ 4 → sumP h (P + d) = sumP h P := by
  intro d
  induction d with
  | zero => intro _; rfl
  | succ d ih =>
    intro hd
    have h1 := ih (by omega)
    rw [← Nat.add_assoc]
    simp only [sumP]
    rw [h1, pipH_0 28 (cntH_no 28 (fun t ht q => ?_)), Nat.add_zero]
    rcases ho t ht with e | ⟨p, hp, e⟩
    · rw [e] at q
      exact nI_ne_m1' (by omega) q
    · rw [e] at q
      have := nI_inj (by omega) (by omega) q
      omega
theorem pp_le {t : Nat} (ht : t < 28) : pp t ≤ 12 := by
  have := tl ht
  unfold pp
  omega
/-- the tile lies as it was told -/
theorem lays_317 {n B B' t f w d a b a' b' P tt : Nat} (hn : 28 < n) {c : CS} {G K : GS} {lf : Int32} (W : WI B c) (V : VG G B') (X : XG G B') (hT : topP c G) (ht : t < 28) (S : layS G K t f w d a b a' b' P tt lf) (hH : c.2.2 0 = layF K P tt) (h0 : rsn G t = 0) (x2 : Int32) :
    ∃ c', f_L_lays_b304 n x2 c c (nI t) (0 : Int32) (nI tt) (G.2.1 2) (nI (szG G)) (nI (cntH (G.2.2 1) (nI tt) 28)) (G.2.2 2 tt) (((nI (pipH (G.2.2 1) (nI 0) 28) + nI (pipH (G.2.2 1) (nI 1) 28)) + nI (pipH (G.2.2 1) (nI 2) 28)) + nI (pipH (G.2.2 1) (nI 3) 28)) (nI (lo t)) (nI (hi t)) (1 : Int32) (nI w) = some (c', c', 1) ∧ WI B c' := by
  have A := S.ad
  have hP := S.P4
  have hP2 := S.P2
  have htP := S.tP
  have h6 := tl ht
  have hz := size_lt V ht (show G.2.2 1 t ≠ -1 by rw [S.hh]; exact nI_ne_m1 (by omega))
  have hsz : szG (c.2.2 0) = szG G + 1 := by
    have hl0 : K.2.1 0 = nI (szG G + 1) := by rw [A.l0, V.sz, nI_1]
    unfold szG
    rw [hH, layF_l, hl0, nI_clamp (by omega)]
    rfl
  obtain ⟨c', hfin, W'⟩ := lays_471 (t := t) (tt := tt) hn W V hT S.ph S.e2 ht (by omega) x2
  rw [h0] at hfin
  refine ⟨c', ?_, W'⟩
  obtain ⟨q0, q1, q2, q3, q4, q5⟩ := f_laid W.g (show szG G < szG (c.2.2 0) by omega)
  have l0 := laid_v (n := n) (w := 0) (z0 := 0) W (show szG G < szG (c.2.2 0) by omega) (by omega) q0
  have l3 := laid_v (n := n) (w := 3) (z0 := 0) W (show szG G < szG (c.2.2 0) by omega) (by omega) q3
  have et : tlG (c.2.2 0) (szG G) = t := by
    unfold tlG
    rw [hH, layF_a K P tt (by decide) (by decide), A.a4, upd_eq rfl, nI_clamp (by omega)]
  have ew : (c.2.2 0).2.2 7 (szG G) = G.2.1 2 := by
    rw [hH, layF_a K P tt (by decide) (by decide), A.a7, upd_eq rfl]
  rw [et] at l0
  rw [ew] at l3
  have a7 := ab_7 (n := n) (z0 := 0) (z1 := 0) W
  rw [hH, layF_l, A.l2] at a7
  have hcn : cntH (K.2.2 1) (nI tt) 28 + 1 = cntH (G.2.2 1) (nI tt) 28 := by
    have := cntH_upd (G.2.2 1) (p := nI tt) (nI_ne_m1' (by omega)) t 28
    rw [if_pos ⟨ht, S.hh⟩] at this
    rw [A.a1]
    exact this
  have hcle := cntH_le (G.2.2 1) (nI tt) 28
  have p0 := pl_0 (n := n) (c := c) (z0 := 0) hn (show tt < 4 by omega)
  rw [hH, layF_a K P tt (by decide) (by decide)] at p0
  have e11 : nI (cntH (K.2.2 1) (nI tt) 28) = nI (cntH (G.2.2 1) (nI tt) 28) - (1 : Int32) := by
    rw [suL_1 (by omega), ← hcn, Nat.add_sub_cancel]
  have a1 := ab_1 (n := n) (z0 := 0) (z1 := 0) W
  have s2 := pl_2 (n := n) (c := c) (z0 := 0) (show tt < 4 by omega)
  by_cases hc0 : cntH (K.2.2 1) (nI tt) 28 = 0
  · -- the round is over
    have hF : layF K P tt = winG K tt P := by
      unfold layF
      rw [if_pos hc0]
    have ph2 : (c.2.2 0).1 3 = 2 := by
      rw [hH, hF]
      rfl
    have esc : (c.2.2 0).2.2 2 tt = G.2.2 2 tt + (((((nI (pipH (G.2.2 1) (nI 0) 28) + nI (pipH (G.2.2 1) (nI 1) 28)) + nI (pipH (G.2.2 1) (nI 2) 28)) + nI (pipH (G.2.2 1) (nI 3) 28)) - nI (lo t)) - nI (hi t)) := by
      have e9 : (winG K tt P).2.2 2 = upd (K.2.2 2) tt (K.2.2 2 tt + (nI (sumP (K.2.2 1) P) - nI (2 * pipH (K.2.2 1) (nI tt) 28))) := rfl
      obtain ⟨P', p1, p2, p3⟩ := X.hp
      have eP : P' = P := by
        have q := S.e1
        rw [p2] at q
        exact nI_inj (by omega) (by omega) q
      subst eP
      have hK : ∀ u, u < 28 → K.2.2 1 u = -1 ∨ ∃ p, p < P' ∧ K.2.2 1 u = nI p := fun u hu => by
        rw [A.a1]
        by_cases e : u = t
        · exact Or.inl (upd_eq e)
        · rw [upd_ne e]
          exact p3 u hu
      have s1 := sum_more (h := K.2.2 1) hP hK (4 - P') (by omega)
      have s3 := sum_upd (h := G.2.2 1) ht S.hh (show tt < 4 by omega)
      rw [show P' + (4 - P') = 4 by omega] at s1
      rw [← A.a1, s1] at s3
      have s4 : sumP (G.2.2 1) 4 = pipH (G.2.2 1) (nI 0) 28 + pipH (G.2.2 1) (nI 1) 28 + pipH (G.2.2 1) (nI 2) 28 + pipH (G.2.2 1) (nI 3) 28 := by
        simp only [sumP]
        omega
      have hpp : pp t = lo t + hi t := rfl
      rw [hH, hF, e9, upd_eq rfl, A.a2, pipH_0 28 hc0, nI_add, nI_add, nI_add, ← s4, ← s3, nI_sub (by omega), nI_sub (by omega), nI_sub (by omega)]
      congr 2
      omega
    unfold f_L_lays_b304
    refine ip_eq (by rw [← hcn, hc0]; rfl) ?_
    unfold f_L_lays_b317 f_L_lays_b398 f_L_lays_b431 f_L_lays_b464 f_L_lays_b469
    refine in_eq (by decide) (bd_eq l0 (ip_eq rfl (bd_eq l3 (ip_eq rfl (bd_eq a7 (ip_eq rfl (bd_eq p0 (ip_eq e11 (bd_eq a1 (ip_eq ph2 (ip_eq rfl (bd_eq s2 (in_eq (by decide) (ip_eq esc (in_eq (by decide) ?_)))))))))))))))
    exact hfin
  · have hF : layF K P tt = gS K 5 (nI ((tt + 1) % P)) := by
      unfold layF
      rw [if_neg hc0]
    have ph1 : (c.2.2 0).1 3 = 1 := by
      rw [hH, hF]
      exact A.g3.trans S.ph
    have esc : (c.2.2 0).2.2 2 tt = G.2.2 2 tt + (0 : Int32) := by
      rw [hH, hF, Int32.add_zero]
      exact congrFun A.a2 tt
    have a3 := ab_3 (n := n) (z0 := 0) (z1 := 0) W
    have a2 := ab_2 (n := n) (z0 := 0) (z1 := 0) W
    rw [if_pos ph1, show (c.2.2 0).1 5 = nI ((tt + 1) % P) by rw [hH, hF]; rfl] at a3
    rw [show (c.2.2 0).1 4 = nI P by rw [hH, (layF_g K P tt).2, A.g4]; exact S.e1] at a2
    have hpm : ¬ (c.2.2 0).1 3 = 2 := by
      rw [ph1]
      decide
    unfold f_L_lays_b304
    refine in_eq (fun q => ?_) ?_
    · have := nI_inj (a := cntH (G.2.2 1) (nI tt) 28) (b := 1) (by omega) (by omega) q
      omega
    · unfold f_L_lays_b317 f_L_lays_b398 f_L_lays_b431 f_L_lays_b464 f_L_lays_b469
      refine in_eq (by decide) (bd_eq l0 (ip_eq rfl (bd_eq l3 (ip_eq rfl (bd_eq a7 (ip_eq rfl (bd_eq p0 (ip_eq e11 (bd_eq a1 (in_eq hpm (ip_eq rfl (bd_eq s2 (ip_eq rfl (ip_eq esc (ip_eq rfl (bd_eq a3 (bd_eq a2 (ck_eq (nI_ne0 (n := P) (by omega) (by omega)) (ip_eq ?_ hfin)))))))))))))))))))
      show nI ((tt + 1) % P) = jrem (nI tt + (1 : Int32)) (nI P)
      rw [nI_1, jrem_n (by omega) (by omega) (by omega)]
theorem lays_58 {n B t : Nat} (hn : 28 < n) (hB : B < 2 ^ 20) {c : CS} (W : WI B c) (hp : (c.2.2 0).1 3 = 1) (ht : t < 28) (x2 lf : Int32) : ∃ c', f_L_lays_b58 n x2 c c (nI t) lf = some (c', c', 1) ∧ WI (B + 1) c' := by
  obtain ⟨P, tt, q, h1, h2, h3, h4, e1, e2, e3⟩ := W.g.pl hp
  have hz := W.g.sz28
  have a3 := ab_3 (n := n) (z0 := 0) (z1 := 0) W
  rw [if_pos hp, e2] at a3
  obtain ⟨u0, u1, _, _, _⟩ := f_tile (n := n) hn W.g ht
  have t0 := tile_v (n := n) (c := c) (w := 0) (z0 := 0) ht (by omega) u0
  have t1 := tile_v (n := n) (c := c) (w := 1) (z0 := 0) ht (by omega) u1
  obtain ⟨c1, H, hpl, W2, hT, hH⟩ := a_plays (n := n) hn hB W ht hp lf
  have hG2 : (cG c1 0 H).2.2 0 = H := cG_at _ _ _
  have a10 := ab_10 (n := n) (z0 := 0) (z1 := 0) W2
  have a5 := ab_5 (n := n) (z0 := 0) (z1 := 0) W2
  rw [hG2] at a10 a5
  have go : ∀ r : Option (CS × CS × Int32), (if rsn (c.2.2 0) t = 0 then f_L_lays_b237 n x2 (cG c1 0 H) (cG c1 0 H) (nI t) lf (rsn (c.2.2 0) t) (nI tt) ((c.2.2 0).2.1 2) (nI (szG (c.2.2 0))) (nI (cntH ((c.2.2 0).2.2 1) (nI tt) 28)) ((c.2.2 0).2.2 2 tt) (((nI (pipH ((c.2.2 0).2.2 1) (nI 0) 28) + nI (pipH ((c.2.2 0).2.2 1) (nI 1) 28)) + nI (pipH ((c.2.2 0).2.2 1) (nI 2) 28)) + nI (pipH ((c.2.2 0).2.2 1) (nI 3) 28)) (nI (lo t)) (nI (hi t)) (0 : Int32) ((c.2.2 0).1 1) (H.1 1)
      else f_L_lays_b237 n x2 (cG c1 0 H) (cG c1 0 H) (nI t) lf (rsn (c.2.2 0) t) (nI tt) ((c.2.2 0).2.1 2) (nI (szG (c.2.2 0))) (nI (cntH ((c.2.2 0).2.2 1) (nI tt) 28)) ((c.2.2 0).2.2 2 tt) (((nI (pipH ((c.2.2 0).2.2 1) (nI 0) 28) + nI (pipH ((c.2.2 0).2.2 1) (nI 1) 28)) + nI (pipH ((c.2.2 0).2.2 1) (nI 2) 28)) + nI (pipH ((c.2.2 0).2.2 1) (nI 3) 28)) (nI (lo t)) (nI (hi t)) (1 : Int32) ((c.2.2 0).1 1) (H.1 1)) = r → f_L_lays_b58 n x2 c c (nI t) lf = r := fun r h => by
    unfold f_L_lays_b58
    exact bd_eq (why_v W ht) (bd_eq a3 (bd_eq (ab_7 W) (bd_eq (ab_5 W) (bd_eq (ab_10 W) (bd_eq (pl_0 hn (by omega)) (bd_eq (pl_2 (by omega)) (bd_eq (pl_1 (p := 0) hn (by omega)) (bd_eq (pl_1 (p := 1) hn (by omega)) (bd_eq (pl_1 (p := 2) hn (by omega)) (bd_eq (pl_1 (p := 3) hn (by omega)) (bd_eq t0 (bd_eq t1 (bd_eq hpl (ip_eq rfl (bd_eq hpl (ip_eq rfl (bd_eq a10 h)))))))))))))))))
  rcases hH with ⟨h0, K, f, w, d, a, b, a', b', P', tt', S, rfl⟩ | ⟨h0, rfl⟩
  · have eP : P' = P := by
      have q := S.e1
      rw [e1] at q
      exact (nI_inj (by have := S.P4; omega) (by omega) q.symm)
    have eT : tt' = tt := by
      have q := S.e2
      rw [e2] at q
      exact (nI_inj (by have := S.P4; have := S.tP; omega) (by omega) q.symm)
    subst eP eT
    have A := S.ad
    have hzl := size_lt W.g ht (show (c.2.2 0).2.2 1 t ≠ -1 by rw [S.hh]; exact nI_ne_m1 (by omega))
    have hsz : szG (layF K P' tt') = szG (c.2.2 0) + 1 := by
      have hl0 : K.2.1 0 = nI (szG (c.2.2 0) + 1) := by rw [A.l0, W.g.sz, nI_1]
      unfold szG
      rw [layF_l, hl0, nI_clamp (by omega)]
      rfl
    obtain ⟨c', h9, W9⟩ := lays_317 hn W2 W.g W.x hT ht S hG2 h0 x2
    refine ⟨c', go _ ?_, W9⟩
    rw [h0]
    refine ip_eq rfl ?_
    unfold f_L_lays_b237 f_L_lays_b261 f_L_lays_b270
    refine ip_eq (by rw [(layF_g K P' tt').1, A.g1, Int32.add_zero]) (bd_eq a5 (ip_eq rfl (ip_eq ?_ (ip_eq rfl ?_))))
    · show nI (szG (layF K P' tt')) = nI (szG (c.2.2 0)) + (1 : Int32)
      rw [hsz, nI_1]
    · have h6 := tl ht
      have hd := S.hd
      have hd4 := S.d4
      by_cases hdd : lo t = hi t
      · refine ip_eq (by rw [hdd]) ?_
        by_cases hl : lf = 0
        · refine ip_eq hl ?_
          unfold f_L_lays_b296
          refine ck_eq (by decide) ?_
          rw [show jrem ((c.2.2 0).2.1 2 + (1 : Int32)) (4 : Int32) = nI w by rw [hd, nI_1, S.w1 hdd hl]; exact jrem_n (d := 4) (by omega) (by omega) (by omega)]
          exact h9
        · refine in_eq hl ?_
          unfold f_L_lays_b296
          refine ck_eq (by decide) ?_
          rw [show jrem ((c.2.2 0).2.1 2 + (3 : Int32)) (4 : Int32) = nI w by rw [hd, adL_3, S.w3 hdd hl]; exact jrem_n (d := 4) (by omega) (by omega) (by omega)]
          exact h9
      · refine in_eq (fun q => hdd (nI_inj (by omega) (by omega) q)) ?_
        have e7 : f_L_lays_b304 n x2 (cG c1 0 (layF K P' tt')) (cG c1 0 (layF K P' tt')) (nI t) (0 : Int32) (nI tt') ((c.2.2 0).2.1 2) (nI (szG (c.2.2 0))) (nI (cntH ((c.2.2 0).2.2 1) (nI tt') 28)) ((c.2.2 0).2.2 2 tt') (((nI (pipH ((c.2.2 0).2.2 1) (nI 0) 28) + nI (pipH ((c.2.2 0).2.2 1) (nI 1) 28)) + nI (pipH ((c.2.2 0).2.2 1) (nI 2) 28)) + nI (pipH ((c.2.2 0).2.2 1) (nI 3) 28)) (nI (lo t)) (nI (hi t)) (1 : Int32) ((c.2.2 0).2.1 2) = some (c', c', 1) := by
          rw [← S.wd hdd] at hd
          rw [← hd] at h9
          exact h9
        exact e7
  · obtain ⟨c', h9, W9⟩ := lays_471 (t := t) (tt := tt) hn W2 W.g hT hp e2 ht (by omega) x2
    refine ⟨c', go _ ?_, W9⟩
    refine in_eq h0 ?_
    unfold f_L_lays_b237 f_L_lays_b261 f_L_lays_b270
    refine ip_eq rfl (bd_eq a5 (in_eq h0 (ip_eq ?_ (in_eq h0 h9))))
    show nI (szG (c.2.2 0)) = nI (szG (c.2.2 0)) + (0 : Int32)
    rw [Int32.add_zero]
theorem lays_ok {n B x : Nat} (hn : 28 < n) (hB : B < 2 ^ 20) {c : CS} (W : WI B c) (hx : x < 2 ^ 31) : ∃ c', f_L_lays n c c (nI x) = some (c', c', 1) ∧ WI (B + 1) c' := by
  by_cases hp : (c.2.2 0).1 3 = 1
  · have r28 : jrem (nI x) (28 : Int32) = nI (x % 28) := jrem_n (d := 28) hx (by omega) (by omega)
    have m28 : x % 28 < 28 := Nat.mod_lt _ (by omega)
    have k43 : ∀ t, t < 28 → ∃ c', f_L_lays_b43 n (nI x) c c (nI t) = some (c', c', 1) ∧ WI (B + 1) c' := fun t ht => by
      unfold f_L_lays_b43
      by_cases ho : jrem (nI x / (28 : Int32)) (2 : Int32) = 0
      · obtain ⟨c', h1, h2⟩ := lays_58 (n := n) hn hB W hp ht (nI x) 1
        exact ⟨c', ck_eq (by decide) (ck_eq (by decide) (ip_eq ho h1)), h2⟩
      · obtain ⟨c', h1, h2⟩ := lays_58 (n := n) hn hB W hp ht (nI x) 0
        exact ⟨c', ck_eq (by decide) (ck_eq (by decide) (in_eq ho h1)), h2⟩
    obtain ⟨r, hb1, hb2⟩ := best_v (n := n) hn W
    unfold f_L_lays f_L_lays_b42
    rw [r28]
    rcases hb2 with ⟨rfl, _⟩ | ⟨b, hb, _, rfl, hb0, _⟩
    · obtain ⟨c', h1, h2⟩ := k43 (x % 28) m28
      exact ⟨c', bd_eq (ab_1 W) (ip_eq hp (ck_eq (by decide) (bd_eq hb1 (ip_eq rfl h1)))), h2⟩
    · by_cases h3 : jrem (nI x) (3 : Int32) = 0
      · obtain ⟨c', h1, h2⟩ := k43 b hb
        exact ⟨c', bd_eq (ab_1 W) (ip_eq hp (ck_eq (by decide) (bd_eq hb1 (in_eq (nI_ne_m1 (by omega)) (ck_eq (by decide) (ip_eq h3 h1)))))), h2⟩
      · obtain ⟨c', h1, h2⟩ := k43 (x % 28) m28
        exact ⟨c', bd_eq (ab_1 W) (ip_eq hp (ck_eq (by decide) (bd_eq hb1 (in_eq (nI_ne_m1 (by omega)) (ck_eq (by decide) (in_eq h3 h1)))))), h2⟩
  · refine ⟨c, ?_, W.le (by omega)⟩
    unfold f_L_lays
    exact bd_eq (ab_1 W) (in_eq hp rfl)
