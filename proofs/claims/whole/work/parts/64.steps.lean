/-! PURE LEVEL: the 24 calls of the law -/
theorem st_append {B : Nat} (hB : 200 ≤ B) (hB2 : B < 2 ^ 20) {c : CS} {M : MS} (W : WR B c M) (o : Nat → Int64) (a1 a2 a3 : Int32) : ∃ c' M' o', A_append c M o a1 a2 a3 c' M' o' ∧ WR (B + 1) c' M' := by
  obtain ⟨code, k, c', v, M', h1, h2, h3, h4, W'⟩ := c_append W a1
  rcases List.mem_cons.mp h4 with e | h4
  · cases e
    exact ⟨c', M', vp_updL o (0 : Int32).toNatClampNeg v.toInt64, ⟨5000, 5000, 0, v, bd_eq h1 (ip_eq rfl rfl), h2, congrArg some h3, fun _ => if_pos (by decide)⟩, W'⟩
  rcases List.mem_cons.mp h4 with e | h4
  · cases e
    exact ⟨c', M', o, ⟨5000, 5000, 1, v, bd_eq h1 (in_eq (show ¬ (1 : Int32) = 0 by decide) (ip_eq rfl rfl)), h2, congrArg some h3, fun q => absurd q (by decide)⟩, W'⟩
  rcases List.mem_cons.mp h4 with e | h4
  · cases e
    exact ⟨c', M', o, ⟨5000, 5000, 2, v, bd_eq h1 (in_eq (show ¬ (2 : Int32) = 0 by decide) (in_eq (show ¬ (2 : Int32) = 1 by decide) (ip_eq rfl rfl))), h2, congrArg some h3, fun q => absurd q (by decide)⟩, W'⟩
  cases h4
theorem st_clearText {B : Nat} (hB : 200 ≤ B) (hB2 : B < 2 ^ 20) {c : CS} {M : MS} (W : WR B c M) (o : Nat → Int64) (a1 a2 a3 : Int32) : ∃ c' M' o', A_clearText c M o a1 a2 a3 c' M' o' ∧ WR (B + 1) c' M' := by
  obtain ⟨c', M', b, h1, h2, W'⟩ := c_clear W
  exact ⟨c', M', o, ⟨0, 0, b, h1, h2, rfl⟩, W'⟩
theorem st_errorPosition {B : Nat} (hB : 200 ≤ B) (hB2 : B < 2 ^ 20) {c : CS} {M : MS} (W : WR B c M) (o : Nat → Int64) (a1 a2 a3 : Int32) : ∃ c' M' o', A_errorPosition c M o a1 a2 a3 c' M' o' ∧ WR (B + 1) c' M' := by
  obtain ⟨M', b, h1, h2, W'⟩ := c_error (n := 5000) (by omega) W
  exact ⟨c, M', o, ⟨5000, 5000, b, h1, rfl, h2, rfl⟩, W'⟩
theorem st_load {B : Nat} (hB : 200 ≤ B) (hB2 : B < 2 ^ 20) {c : CS} {M : MS} (W : WR B c M) (o : Nat → Int64) (a1 a2 a3 : Int32) : ∃ c' M' o', A_load c M o a1 a2 a3 c' M' o' ∧ WR (B + 1) c' M' := by
  obtain ⟨code, k, c', v, M', h1, h2, h3, h4, W'⟩ := c_load (n := 5000) (by omega) hB W
  rcases List.mem_cons.mp h4 with e | h4
  · cases e
    exact ⟨c', M', vp_updL o (0 : Int32).toNatClampNeg v.toInt64, ⟨5000, 5000, 0, v, bd_eq h1 (ip_eq rfl rfl), h2, congrArg some h3, fun _ => if_pos (by decide)⟩, W'⟩
  rcases List.mem_cons.mp h4 with e | h4
  · cases e
    exact ⟨c', M', o, ⟨5000, 5000, 1, v, bd_eq h1 (in_eq (show ¬ (2 : Int32) = 0 by decide) (ip_eq rfl rfl)), h2, congrArg some h3, fun q => absurd q (by decide)⟩, W'⟩
  cases h4
theorem st_about {B : Nat} (hB : 200 ≤ B) (hB2 : B < 2 ^ 20) {c : CS} {M : MS} (W : WR B c M) (o : Nat → Int64) (a1 a2 a3 : Int32) : ∃ c' M' o', A_about c M o a1 a2 a3 c' M' o' ∧ WR (B + 1) c' M' := by
  obtain ⟨code, k, c', v, M', h1, h2, h3, h4, W'⟩ := c_about (n := 5000) (by omega) W a1
  rcases List.mem_cons.mp h4 with e | h4
  · cases e
    exact ⟨c', M', vp_updL o (0 : Int32).toNatClampNeg v.toInt64, ⟨5000, 5000, 0, v, bd_eq h1 (ip_eq rfl rfl), h2, congrArg some h3, fun _ => if_pos (by decide)⟩, W'.le (by omega)⟩
  rcases List.mem_cons.mp h4 with e | h4
  · cases e
    exact ⟨c', M', o, ⟨5000, 5000, 1, v, bd_eq h1 (in_eq (show ¬ (1 : Int32) = 0 by decide) (ip_eq rfl rfl)), h2, congrArg some h3, fun q => absurd q (by decide)⟩, W'.le (by omega)⟩
  cases h4
theorem st_tileOf {B : Nat} (hB : 200 ≤ B) (hB2 : B < 2 ^ 20) {c : CS} {M : MS} (W : WR B c M) (o : Nat → Int64) (a1 a2 a3 : Int32) : ∃ c' M' o', A_tileOf c M o a1 a2 a3 c' M' o' ∧ WR (B + 1) c' M' := by
  obtain ⟨code, k, c', v, M', h1, h2, h3, h4, W'⟩ := c_tileOf (n := 5000) (by omega) W a1 a2
  rcases List.mem_cons.mp h4 with e | h4
  · cases e
    exact ⟨c', M', vp_updL o (0 : Int32).toNatClampNeg v.toInt64, ⟨5000, 5000, 0, v, bd_eq h1 (ip_eq rfl rfl), h2, congrArg some h3, fun _ => if_pos (by decide)⟩, W'.le (by omega)⟩
  rcases List.mem_cons.mp h4 with e | h4
  · cases e
    exact ⟨c', M', o, ⟨5000, 5000, 1, v, bd_eq h1 (in_eq (show ¬ (3 : Int32) = 0 by decide) (ip_eq rfl rfl)), h2, congrArg some h3, fun q => absurd q (by decide)⟩, W'.le (by omega)⟩
  rcases List.mem_cons.mp h4 with e | h4
  · cases e
    exact ⟨c', M', o, ⟨5000, 5000, 2, v, bd_eq h1 (in_eq (show ¬ (1 : Int32) = 0 by decide) (in_eq (show ¬ (1 : Int32) = 3 by decide) (ip_eq rfl rfl))), h2, congrArg some h3, fun q => absurd q (by decide)⟩, W'.le (by omega)⟩
  cases h4
theorem st_laid {B : Nat} (hB : 200 ≤ B) (hB2 : B < 2 ^ 20) {c : CS} {M : MS} (W : WR B c M) (o : Nat → Int64) (a1 a2 a3 : Int32) : ∃ c' M' o', A_laid c M o a1 a2 a3 c' M' o' ∧ WR (B + 1) c' M' := by
  obtain ⟨code, k, c', v, M', h1, h2, h3, h4, W'⟩ := c_laid (n := 5000) (by omega) W a1 a2
  rcases List.mem_cons.mp h4 with e | h4
  · cases e
    exact ⟨c', M', vp_updL o (0 : Int32).toNatClampNeg v.toInt64, ⟨5000, 5000, 0, v, bd_eq h1 (ip_eq rfl rfl), h2, congrArg some h3, fun _ => if_pos (by decide)⟩, W'.le (by omega)⟩
  rcases List.mem_cons.mp h4 with e | h4
  · cases e
    exact ⟨c', M', o, ⟨5000, 5000, 1, v, bd_eq h1 (in_eq (show ¬ (3 : Int32) = 0 by decide) (ip_eq rfl rfl)), h2, congrArg some h3, fun q => absurd q (by decide)⟩, W'.le (by omega)⟩
  rcases List.mem_cons.mp h4 with e | h4
  · cases e
    exact ⟨c', M', o, ⟨5000, 5000, 2, v, bd_eq h1 (in_eq (show ¬ (1 : Int32) = 0 by decide) (in_eq (show ¬ (1 : Int32) = 3 by decide) (ip_eq rfl rfl))), h2, congrArg some h3, fun q => absurd q (by decide)⟩, W'.le (by omega)⟩
  cases h4
theorem st_playerOf {B : Nat} (hB : 200 ≤ B) (hB2 : B < 2 ^ 20) {c : CS} {M : MS} (W : WR B c M) (o : Nat → Int64) (a1 a2 a3 : Int32) : ∃ c' M' o', A_playerOf c M o a1 a2 a3 c' M' o' ∧ WR (B + 1) c' M' := by
  obtain ⟨code, k, c', v, M', h1, h2, h3, h4, W'⟩ := c_playerOf (n := 5000) (by omega) W a1 a2
  rcases List.mem_cons.mp h4 with e | h4
  · cases e
    exact ⟨c', M', vp_updL o (0 : Int32).toNatClampNeg v.toInt64, ⟨5000, 5000, 0, v, bd_eq h1 (ip_eq rfl rfl), h2, congrArg some h3, fun _ => if_pos (by decide)⟩, W'.le (by omega)⟩
  rcases List.mem_cons.mp h4 with e | h4
  · cases e
    exact ⟨c', M', o, ⟨5000, 5000, 1, v, bd_eq h1 (in_eq (show ¬ (3 : Int32) = 0 by decide) (ip_eq rfl rfl)), h2, congrArg some h3, fun q => absurd q (by decide)⟩, W'.le (by omega)⟩
  rcases List.mem_cons.mp h4 with e | h4
  · cases e
    exact ⟨c', M', o, ⟨5000, 5000, 2, v, bd_eq h1 (in_eq (show ¬ (1 : Int32) = 0 by decide) (in_eq (show ¬ (1 : Int32) = 3 by decide) (ip_eq rfl rfl))), h2, congrArg some h3, fun q => absurd q (by decide)⟩, W'.le (by omega)⟩
  cases h4
theorem st_at {B : Nat} (hB : 200 ≤ B) (hB2 : B < 2 ^ 20) {c : CS} {M : MS} (W : WR B c M) (o : Nat → Int64) (a1 a2 a3 : Int32) : ∃ c' M' o', A_at c M o a1 a2 a3 c' M' o' ∧ WR (B + 1) c' M' := by
  obtain ⟨code, k, c', v, M', h1, h2, h3, h4, W'⟩ := c_at (n := 5000) (by omega) W a1 a2
  rcases List.mem_cons.mp h4 with e | h4
  · cases e
    exact ⟨c', M', vp_updL o (0 : Int32).toNatClampNeg v.toInt64, ⟨5000, 5000, 0, v, bd_eq h1 (ip_eq rfl rfl), h2, congrArg some h3, fun _ => if_pos (by decide)⟩, W'.le (by omega)⟩
  rcases List.mem_cons.mp h4 with e | h4
  · cases e
    exact ⟨c', M', o, ⟨5000, 5000, 1, v, bd_eq h1 (in_eq (show ¬ (3 : Int32) = 0 by decide) (ip_eq rfl rfl)), h2, congrArg some h3, fun q => absurd q (by decide)⟩, W'.le (by omega)⟩
  cases h4
theorem st_free {B : Nat} (hB : 200 ≤ B) (hB2 : B < 2 ^ 20) {c : CS} {M : MS} (W : WR B c M) (o : Nat → Int64) (a1 a2 a3 : Int32) : ∃ c' M' o', A_free c M o a1 a2 a3 c' M' o' ∧ WR (B + 1) c' M' := by
  obtain ⟨code, k, c', v, M', h1, h2, h3, h4, W'⟩ := c_free (n := 5000) (by omega) W a1
  rcases List.mem_cons.mp h4 with e | h4
  · cases e
    exact ⟨c', M', vp_updL o (0 : Int32).toNatClampNeg v.toInt64, ⟨5000, 5000, 0, v, bd_eq h1 (ip_eq rfl rfl), h2, congrArg some h3, fun _ => if_pos (by decide)⟩, W'.le (by omega)⟩
  rcases List.mem_cons.mp h4 with e | h4
  · cases e
    exact ⟨c', M', o, ⟨5000, 5000, 1, v, bd_eq h1 (in_eq (show ¬ (1 : Int32) = 0 by decide) (ip_eq rfl rfl)), h2, congrArg some h3, fun q => absurd q (by decide)⟩, W'.le (by omega)⟩
  cases h4
theorem st_deal {B : Nat} (hB : 200 ≤ B) (hB2 : B < 2 ^ 20) {c : CS} {M : MS} (W : WR B c M) (o : Nat → Int64) (a1 a2 a3 : Int32) : ∃ c' M' o', A_deal c M o a1 a2 a3 c' M' o' ∧ WR (B + 1) c' M' := by
  obtain ⟨code, k, c', v, M', h1, h2, h3, h4, W'⟩ := c_deal (n := 5000) (by omega) hB2 W a1 (lg2 a2 a3)
  rcases List.mem_cons.mp h4 with e | h4
  · cases e
    exact ⟨c', M', vp_updL o (0 : Int32).toNatClampNeg v.toInt64, ⟨5000, 5000, 0, v, bd_eq h1 (ip_eq rfl rfl), h2, congrArg some h3, fun _ => if_pos (by decide)⟩, W'⟩
  rcases List.mem_cons.mp h4 with e | h4
  · cases e
    exact ⟨c', M', o, ⟨5000, 5000, 1, v, bd_eq h1 (in_eq (show ¬ (1 : Int32) = 0 by decide) (ip_eq rfl rfl)), h2, congrArg some h3, fun q => absurd q (by decide)⟩, W'⟩
  cases h4
theorem st_play {B : Nat} (hB : 200 ≤ B) (hB2 : B < 2 ^ 20) {c : CS} {M : MS} (W : WR B c M) (o : Nat → Int64) (a1 a2 a3 : Int32) : ∃ c' M' o', A_play c M o a1 a2 a3 c' M' o' ∧ WR (B + 1) c' M' := by
  obtain ⟨code, k, c', v, M', h1, h2, h3, h4, W'⟩ := c_play (n := 5000) (by omega) W a1 (if a2 = 0 then (0 : Int32) else 1)
  rcases List.mem_cons.mp h4 with e | h4
  · cases e
    exact ⟨c', M', vp_updL o (0 : Int32).toNatClampNeg v.toInt64, ⟨5000, 5000, 0, v, bd_eq h1 (ip_eq rfl rfl), h2, congrArg some h3, fun _ => if_pos (by decide)⟩, W'⟩
  rcases List.mem_cons.mp h4 with e | h4
  · cases e
    exact ⟨c', M', o, ⟨5000, 5000, 1, v, bd_eq h1 (in_eq (show ¬ (3 : Int32) = 0 by decide) (ip_eq rfl rfl)), h2, congrArg some h3, fun q => absurd q (by decide)⟩, W'⟩
  rcases List.mem_cons.mp h4 with e | h4
  · cases e
    exact ⟨c', M', o, ⟨5000, 5000, 2, v, bd_eq h1 (in_eq (show ¬ (2 : Int32) = 0 by decide) (in_eq (show ¬ (2 : Int32) = 3 by decide) (ip_eq rfl rfl))), h2, congrArg some h3, fun q => absurd q (by decide)⟩, W'⟩
  cases h4
theorem st_draw {B : Nat} (hB : 200 ≤ B) (hB2 : B < 2 ^ 20) {c : CS} {M : MS} (W : WR B c M) (o : Nat → Int64) (a1 a2 a3 : Int32) : ∃ c' M' o', A_draw c M o a1 a2 a3 c' M' o' ∧ WR (B + 1) c' M' := by
  obtain ⟨code, k, c', v, M', h1, h2, h3, h4, W'⟩ := c_draw (n := 5000) (by omega) W
  rcases List.mem_cons.mp h4 with e | h4
  · cases e
    exact ⟨c', M', vp_updL o (0 : Int32).toNatClampNeg v.toInt64, ⟨5000, 5000, 0, v, bd_eq h1 (ip_eq rfl rfl), h2, congrArg some h3, fun _ => if_pos (by decide)⟩, W'⟩
  rcases List.mem_cons.mp h4 with e | h4
  · cases e
    exact ⟨c', M', o, ⟨5000, 5000, 1, v, bd_eq h1 (in_eq (show ¬ (2 : Int32) = 0 by decide) (ip_eq rfl rfl)), h2, congrArg some h3, fun q => absurd q (by decide)⟩, W'⟩
  cases h4
theorem st_pass {B : Nat} (hB : 200 ≤ B) (hB2 : B < 2 ^ 20) {c : CS} {M : MS} (W : WR B c M) (o : Nat → Int64) (a1 a2 a3 : Int32) : ∃ c' M' o', A_pass c M o a1 a2 a3 c' M' o' ∧ WR (B + 1) c' M' := by
  obtain ⟨code, k, c', v, M', h1, h2, h3, h4, W'⟩ := c_pass (n := 5000) (by omega) W
  rcases List.mem_cons.mp h4 with e | h4
  · cases e
    exact ⟨c', M', vp_updL o (0 : Int32).toNatClampNeg v.toInt64, ⟨5000, 5000, 0, v, bd_eq h1 (ip_eq rfl rfl), h2, congrArg some h3, fun _ => if_pos (by decide)⟩, W'⟩
  rcases List.mem_cons.mp h4 with e | h4
  · cases e
    exact ⟨c', M', o, ⟨5000, 5000, 1, v, bd_eq h1 (in_eq (show ¬ (2 : Int32) = 0 by decide) (ip_eq rfl rfl)), h2, congrArg some h3, fun q => absurd q (by decide)⟩, W'⟩
  cases h4
theorem st_undo {B : Nat} (hB : 200 ≤ B) (hB2 : B < 2 ^ 20) {c : CS} {M : MS} (W : WR B c M) (o : Nat → Int64) (a1 a2 a3 : Int32) : ∃ c' M' o', A_undo c M o a1 a2 a3 c' M' o' ∧ WR (B + 1) c' M' := by
  obtain ⟨code, k, c', v, M', h1, h2, h3, h4, W'⟩ := c_undo (n := 5000) (by omega) W
  rcases List.mem_cons.mp h4 with e | h4
  · cases e
    exact ⟨c', M', vp_updL o (0 : Int32).toNatClampNeg v.toInt64, ⟨5000, 5000, 0, v, bd_eq h1 (ip_eq rfl rfl), h2, congrArg some h3, fun _ => if_pos (by decide)⟩, W'⟩
  rcases List.mem_cons.mp h4 with e | h4
  · cases e
    exact ⟨c', M', o, ⟨5000, 5000, 1, v, bd_eq h1 (in_eq (show ¬ (2 : Int32) = 0 by decide) (ip_eq rfl rfl)), h2, congrArg some h3, fun q => absurd q (by decide)⟩, W'⟩
  cases h4
theorem st_why {B : Nat} (hB : 200 ≤ B) (hB2 : B < 2 ^ 20) {c : CS} {M : MS} (W : WR B c M) (o : Nat → Int64) (a1 a2 a3 : Int32) : ∃ c' M' o', A_why c M o a1 a2 a3 c' M' o' ∧ WR (B + 1) c' M' := by
  obtain ⟨code, k, c', v, M', h1, h2, h3, h4, W'⟩ := c_why (n := 5000) (by omega) W a1
  rcases List.mem_cons.mp h4 with e | h4
  · cases e
    exact ⟨c', M', vp_updL o (0 : Int32).toNatClampNeg v.toInt64, ⟨5000, 5000, 0, v, bd_eq h1 (ip_eq rfl rfl), h2, congrArg some h3, fun _ => if_pos (by decide)⟩, W'.le (by omega)⟩
  rcases List.mem_cons.mp h4 with e | h4
  · cases e
    exact ⟨c', M', o, ⟨5000, 5000, 1, v, bd_eq h1 (in_eq (show ¬ (3 : Int32) = 0 by decide) (ip_eq rfl rfl)), h2, congrArg some h3, fun q => absurd q (by decide)⟩, W'.le (by omega)⟩
  cases h4
theorem st_legal {B : Nat} (hB : 200 ≤ B) (hB2 : B < 2 ^ 20) {c : CS} {M : MS} (W : WR B c M) (o : Nat → Int64) (a1 a2 a3 : Int32) : ∃ c' M' o', A_legal c M o a1 a2 a3 c' M' o' ∧ WR (B + 1) c' M' := by
  obtain ⟨M', b, h1, h2, W'⟩ := c_legal (n := 5000) (by omega) W
  exact ⟨c, M', o, ⟨5000, 5000, b, h1, rfl, h2, rfl⟩, W'⟩
theorem st_best {B : Nat} (hB : 200 ≤ B) (hB2 : B < 2 ^ 20) {c : CS} {M : MS} (W : WR B c M) (o : Nat → Int64) (a1 a2 a3 : Int32) : ∃ c' M' o', A_best c M o a1 a2 a3 c' M' o' ∧ WR (B + 1) c' M' := by
  obtain ⟨M', b, h1, h2, W'⟩ := c_best (n := 5000) (by omega) W
  exact ⟨c, M', o, ⟨5000, 5000, b, h1, rfl, h2, rfl⟩, W'⟩
theorem st_chain {B : Nat} (hB : 200 ≤ B) (hB2 : B < 2 ^ 20) {c : CS} {M : MS} (W : WR B c M) (o : Nat → Int64) (a1 a2 a3 : Int32) : ∃ c' M' o', A_chain c M o a1 a2 a3 c' M' o' ∧ WR (B + 1) c' M' := by
  obtain ⟨n2, hC⟩ := c_chain (n := 5000) (by omega) W a1 a2
  obtain ⟨code, k, c', v, M', h1, h2, h3, h4, W'⟩ := hC
  rcases List.mem_cons.mp h4 with e | h4
  · cases e
    exact ⟨c', M', vp_updL o (0 : Int32).toNatClampNeg v.toInt64, ⟨5000, n2, 0, v, bd_eq h1 (ip_eq rfl rfl), h2, congrArg some h3, fun _ => if_pos (by decide)⟩, W'.le (by omega)⟩
  rcases List.mem_cons.mp h4 with e | h4
  · cases e
    exact ⟨c', M', o, ⟨5000, n2, 1, v, bd_eq h1 (in_eq (show ¬ (3 : Int32) = 0 by decide) (ip_eq rfl rfl)), h2, congrArg some h3, fun q => absurd q (by decide)⟩, W'.le (by omega)⟩
  rcases List.mem_cons.mp h4 with e | h4
  · cases e
    exact ⟨c', M', o, ⟨5000, n2, 2, v, bd_eq h1 (in_eq (show ¬ (1 : Int32) = 0 by decide) (in_eq (show ¬ (1 : Int32) = 3 by decide) (ip_eq rfl rfl))), h2, congrArg some h3, fun q => absurd q (by decide)⟩, W'.le (by omega)⟩
  cases h4
theorem st_reach {B : Nat} (hB : 200 ≤ B) (hB2 : B < 2 ^ 20) {c : CS} {M : MS} (W : WR B c M) (o : Nat → Int64) (a1 a2 a3 : Int32) : ∃ c' M' o', A_reach c M o a1 a2 a3 c' M' o' ∧ WR (B + 1) c' M' := by
  obtain ⟨code, k, c', v, M', h1, h2, h3, h4, W'⟩ := c_reach (n := 5000) (by omega) W a1
  rcases List.mem_cons.mp h4 with e | h4
  · cases e
    exact ⟨c', M', vp_updL o (0 : Int32).toNatClampNeg v.toInt64, ⟨5000, 5000, 0, v, bd_eq h1 (ip_eq rfl rfl), h2, congrArg some h3, fun _ => if_pos (by decide)⟩, W'.le (by omega)⟩
  rcases List.mem_cons.mp h4 with e | h4
  · cases e
    exact ⟨c', M', o, ⟨5000, 5000, 1, v, bd_eq h1 (in_eq (show ¬ (1 : Int32) = 0 by decide) (ip_eq rfl rfl)), h2, congrArg some h3, fun q => absurd q (by decide)⟩, W'.le (by omega)⟩
  cases h4
theorem st_runScript {B : Nat} (hB : 200 ≤ B) (hB2 : B < 2 ^ 20) {c : CS} {M : MS} (W : WR B c M) (o : Nat → Int64) (a1 a2 a3 : Int32) : ∃ c' M' o', A_runScript c M o a1 a2 a3 c' M' o' ∧ WR (B + 1) c' M' := by
  obtain ⟨code, k, c', v, M', h1, h2, h3, h4, W'⟩ := c_script (n := 5000) (by omega) hB2 W a1 (lg2 a2 a3)
  rcases List.mem_cons.mp h4 with e | h4
  · cases e
    exact ⟨c', M', vp_updL o (0 : Int32).toNatClampNeg v.toInt64, ⟨5000, 5000, 0, v, bd_eq h1 (ip_eq rfl rfl), h2, congrArg some h3, fun _ => if_pos (by decide)⟩, W'⟩
  rcases List.mem_cons.mp h4 with e | h4
  · cases e
    exact ⟨c', M', o, ⟨5000, 5000, 1, v, bd_eq h1 (in_eq (show ¬ (1 : Int32) = 0 by decide) (ip_eq rfl rfl)), h2, congrArg some h3, fun q => absurd q (by decide)⟩, W'⟩
  cases h4
theorem st_simulate {B : Nat} (hB : 200 ≤ B) (hB2 : B < 2 ^ 20) {c : CS} {M : MS} (W : WR B c M) (o : Nat → Int64) (a1 a2 a3 : Int32) : ∃ c' M' o', A_simulate c M o a1 a2 a3 c' M' o' ∧ WR (B + 1) c' M' := by
  obtain ⟨code, k, c', v, M', h1, h2, h3, h4, W'⟩ := c_simulate (n := 5000) (by omega) hB2 W (lg2 a1 a2) a3
  rcases List.mem_cons.mp h4 with e | h4
  · cases e
    exact ⟨c', M', vp_updL o (0 : Int32).toNatClampNeg v.toInt64, ⟨5000, 5000, 0, v, bd_eq h1 (ip_eq rfl rfl), h2, congrArg some h3, fun _ => if_pos (by decide)⟩, W'⟩
  rcases List.mem_cons.mp h4 with e | h4
  · cases e
    exact ⟨c', M', o, ⟨5000, 5000, 1, v, bd_eq h1 (in_eq (show ¬ (1 : Int32) = 0 by decide) (ip_eq rfl rfl)), h2, congrArg some h3, fun q => absurd q (by decide)⟩, W'⟩
  cases h4
theorem st_save {B : Nat} (hB : 200 ≤ B) (hB2 : B < 2 ^ 20) {c : CS} {M : MS} (W : WR B c M) (o : Nat → Int64) (a1 a2 a3 : Int32) : ∃ c' M' o', A_save c M o a1 a2 a3 c' M' o' ∧ WR (B + 1) c' M' := by
  obtain ⟨code, k, c', v, M', h1, h2, h3, h4, W'⟩ := c_save (n := 5000) (by omega) W a1
  rcases List.mem_cons.mp h4 with e | h4
  · cases e
    exact ⟨c', M', vp_updL o (0 : Int32).toNatClampNeg v.toInt64, ⟨5000, 5000, 0, v, bd_eq h1 (ip_eq rfl rfl), h2, congrArg some h3, fun _ => if_pos (by decide)⟩, W'⟩
  rcases List.mem_cons.mp h4 with e | h4
  · cases e
    exact ⟨c', M', o, ⟨5000, 5000, 1, v, bd_eq h1 (in_eq (show ¬ (3 : Int32) = 0 by decide) (ip_eq rfl rfl)), h2, congrArg some h3, fun q => absurd q (by decide)⟩, W'⟩
  cases h4
theorem st_restore {B : Nat} (hB : 200 ≤ B) (hB2 : B < 2 ^ 20) {c : CS} {M : MS} (W : WR B c M) (o : Nat → Int64) (a1 a2 a3 : Int32) : ∃ c' M' o', A_restore c M o a1 a2 a3 c' M' o' ∧ WR (B + 1) c' M' := by
  obtain ⟨code, k, c', v, M', h1, h2, h3, h4, W'⟩ := c_restore (n := 5000) (by omega) W a1
  rcases List.mem_cons.mp h4 with e | h4
  · cases e
    exact ⟨c', M', vp_updL o (0 : Int32).toNatClampNeg v.toInt64, ⟨5000, 5000, 0, v, bd_eq h1 (ip_eq rfl rfl), h2, congrArg some h3, fun _ => if_pos (by decide)⟩, W'⟩
  rcases List.mem_cons.mp h4 with e | h4
  · cases e
    exact ⟨c', M', o, ⟨5000, 5000, 1, v, bd_eq h1 (in_eq (show ¬ (3 : Int32) = 0 by decide) (ip_eq rfl rfl)), h2, congrArg some h3, fun q => absurd q (by decide)⟩, W'⟩
  rcases List.mem_cons.mp h4 with e | h4
  · cases e
    exact ⟨c', M', o, ⟨5000, 5000, 2, v, bd_eq h1 (in_eq (show ¬ (2 : Int32) = 0 by decide) (in_eq (show ¬ (2 : Int32) = 3 by decide) (ip_eq rfl rfl))), h2, congrArg some h3, fun q => absurd q (by decide)⟩, W'⟩
  cases h4
theorem st_any {B : Nat} (hB : 200 ≤ B) (hB2 : B < 2 ^ 20) {c : CS} {M : MS} (W : WR B c M) (o : Nat → Int64) (op a1 a2 a3 : Int32) : ∃ c' M' o', Agree op a1 a2 a3 c M o c' M' o' ∧ WR (B + 1) c' M' := by
  unfold Agree
  by_cases e0 : op = (0 : Int32)
  · obtain ⟨c', M', o', h, W'⟩ := st_append hB hB2 W o a1 a2 a3
    exact ⟨c', M', o', by rw [if_pos e0]; exact h, W'⟩
  by_cases e1 : op = (1 : Int32)
  · obtain ⟨c', M', o', h, W'⟩ := st_clearText hB hB2 W o a1 a2 a3
    exact ⟨c', M', o', by rw [if_neg e0, if_pos e1]; exact h, W'⟩
  by_cases e2 : op = (2 : Int32)
  · obtain ⟨c', M', o', h, W'⟩ := st_errorPosition hB hB2 W o a1 a2 a3
    exact ⟨c', M', o', by rw [if_neg e0, if_neg e1, if_pos e2]; exact h, W'⟩
  by_cases e3 : op = (3 : Int32)
  · obtain ⟨c', M', o', h, W'⟩ := st_load hB hB2 W o a1 a2 a3
    exact ⟨c', M', o', by rw [if_neg e0, if_neg e1, if_neg e2, if_pos e3]; exact h, W'⟩
  by_cases e4 : op = (4 : Int32)
  · obtain ⟨c', M', o', h, W'⟩ := st_about hB hB2 W o a1 a2 a3
    exact ⟨c', M', o', by rw [if_neg e0, if_neg e1, if_neg e2, if_neg e3, if_pos e4]; exact h, W'⟩
  by_cases e5 : op = (5 : Int32)
  · obtain ⟨c', M', o', h, W'⟩ := st_tileOf hB hB2 W o a1 a2 a3
    exact ⟨c', M', o', by rw [if_neg e0, if_neg e1, if_neg e2, if_neg e3, if_neg e4, if_pos e5]; exact h, W'⟩
  by_cases e6 : op = (6 : Int32)
  · obtain ⟨c', M', o', h, W'⟩ := st_laid hB hB2 W o a1 a2 a3
    exact ⟨c', M', o', by rw [if_neg e0, if_neg e1, if_neg e2, if_neg e3, if_neg e4, if_neg e5, if_pos e6]; exact h, W'⟩
  by_cases e7 : op = (7 : Int32)
  · obtain ⟨c', M', o', h, W'⟩ := st_playerOf hB hB2 W o a1 a2 a3
    exact ⟨c', M', o', by rw [if_neg e0, if_neg e1, if_neg e2, if_neg e3, if_neg e4, if_neg e5, if_neg e6, if_pos e7]; exact h, W'⟩
  by_cases e8 : op = (8 : Int32)
  · obtain ⟨c', M', o', h, W'⟩ := st_at hB hB2 W o a1 a2 a3
    exact ⟨c', M', o', by rw [if_neg e0, if_neg e1, if_neg e2, if_neg e3, if_neg e4, if_neg e5, if_neg e6, if_neg e7, if_pos e8]; exact h, W'⟩
  by_cases e9 : op = (9 : Int32)
  · obtain ⟨c', M', o', h, W'⟩ := st_free hB hB2 W o a1 a2 a3
    exact ⟨c', M', o', by rw [if_neg e0, if_neg e1, if_neg e2, if_neg e3, if_neg e4, if_neg e5, if_neg e6, if_neg e7, if_neg e8, if_pos e9]; exact h, W'⟩
  by_cases e10 : op = (10 : Int32)
  · obtain ⟨c', M', o', h, W'⟩ := st_deal hB hB2 W o a1 a2 a3
    exact ⟨c', M', o', by rw [if_neg e0, if_neg e1, if_neg e2, if_neg e3, if_neg e4, if_neg e5, if_neg e6, if_neg e7, if_neg e8, if_neg e9, if_pos e10]; exact h, W'⟩
  by_cases e11 : op = (11 : Int32)
  · obtain ⟨c', M', o', h, W'⟩ := st_play hB hB2 W o a1 a2 a3
    exact ⟨c', M', o', by rw [if_neg e0, if_neg e1, if_neg e2, if_neg e3, if_neg e4, if_neg e5, if_neg e6, if_neg e7, if_neg e8, if_neg e9, if_neg e10, if_pos e11]; exact h, W'⟩
  by_cases e12 : op = (12 : Int32)
  · obtain ⟨c', M', o', h, W'⟩ := st_draw hB hB2 W o a1 a2 a3
    exact ⟨c', M', o', by rw [if_neg e0, if_neg e1, if_neg e2, if_neg e3, if_neg e4, if_neg e5, if_neg e6, if_neg e7, if_neg e8, if_neg e9, if_neg e10, if_neg e11, if_pos e12]; exact h, W'⟩
  by_cases e13 : op = (13 : Int32)
  · obtain ⟨c', M', o', h, W'⟩ := st_pass hB hB2 W o a1 a2 a3
    exact ⟨c', M', o', by rw [if_neg e0, if_neg e1, if_neg e2, if_neg e3, if_neg e4, if_neg e5, if_neg e6, if_neg e7, if_neg e8, if_neg e9, if_neg e10, if_neg e11, if_neg e12, if_pos e13]; exact h, W'⟩
  by_cases e14 : op = (14 : Int32)
  · obtain ⟨c', M', o', h, W'⟩ := st_undo hB hB2 W o a1 a2 a3
    exact ⟨c', M', o', by rw [if_neg e0, if_neg e1, if_neg e2, if_neg e3, if_neg e4, if_neg e5, if_neg e6, if_neg e7, if_neg e8, if_neg e9, if_neg e10, if_neg e11, if_neg e12, if_neg e13, if_pos e14]; exact h, W'⟩
  by_cases e15 : op = (15 : Int32)
  · obtain ⟨c', M', o', h, W'⟩ := st_why hB hB2 W o a1 a2 a3
    exact ⟨c', M', o', by rw [if_neg e0, if_neg e1, if_neg e2, if_neg e3, if_neg e4, if_neg e5, if_neg e6, if_neg e7, if_neg e8, if_neg e9, if_neg e10, if_neg e11, if_neg e12, if_neg e13, if_neg e14, if_pos e15]; exact h, W'⟩
  by_cases e16 : op = (16 : Int32)
  · obtain ⟨c', M', o', h, W'⟩ := st_legal hB hB2 W o a1 a2 a3
    exact ⟨c', M', o', by rw [if_neg e0, if_neg e1, if_neg e2, if_neg e3, if_neg e4, if_neg e5, if_neg e6, if_neg e7, if_neg e8, if_neg e9, if_neg e10, if_neg e11, if_neg e12, if_neg e13, if_neg e14, if_neg e15, if_pos e16]; exact h, W'⟩
  by_cases e17 : op = (17 : Int32)
  · obtain ⟨c', M', o', h, W'⟩ := st_best hB hB2 W o a1 a2 a3
    exact ⟨c', M', o', by rw [if_neg e0, if_neg e1, if_neg e2, if_neg e3, if_neg e4, if_neg e5, if_neg e6, if_neg e7, if_neg e8, if_neg e9, if_neg e10, if_neg e11, if_neg e12, if_neg e13, if_neg e14, if_neg e15, if_neg e16, if_pos e17]; exact h, W'⟩
  by_cases e18 : op = (18 : Int32)
  · obtain ⟨c', M', o', h, W'⟩ := st_chain hB hB2 W o a1 a2 a3
    exact ⟨c', M', o', by rw [if_neg e0, if_neg e1, if_neg e2, if_neg e3, if_neg e4, if_neg e5, if_neg e6, if_neg e7, if_neg e8, if_neg e9, if_neg e10, if_neg e11, if_neg e12, if_neg e13, if_neg e14, if_neg e15, if_neg e16, if_neg e17, if_pos e18]; exact h, W'⟩
  by_cases e19 : op = (19 : Int32)
  · obtain ⟨c', M', o', h, W'⟩ := st_reach hB hB2 W o a1 a2 a3
    exact ⟨c', M', o', by rw [if_neg e0, if_neg e1, if_neg e2, if_neg e3, if_neg e4, if_neg e5, if_neg e6, if_neg e7, if_neg e8, if_neg e9, if_neg e10, if_neg e11, if_neg e12, if_neg e13, if_neg e14, if_neg e15, if_neg e16, if_neg e17, if_neg e18, if_pos e19]; exact h, W'⟩
  by_cases e20 : op = (20 : Int32)
  · obtain ⟨c', M', o', h, W'⟩ := st_runScript hB hB2 W o a1 a2 a3
    exact ⟨c', M', o', by rw [if_neg e0, if_neg e1, if_neg e2, if_neg e3, if_neg e4, if_neg e5, if_neg e6, if_neg e7, if_neg e8, if_neg e9, if_neg e10, if_neg e11, if_neg e12, if_neg e13, if_neg e14, if_neg e15, if_neg e16, if_neg e17, if_neg e18, if_neg e19, if_pos e20]; exact h, W'⟩
  by_cases e21 : op = (21 : Int32)
  · obtain ⟨c', M', o', h, W'⟩ := st_simulate hB hB2 W o a1 a2 a3
    exact ⟨c', M', o', by rw [if_neg e0, if_neg e1, if_neg e2, if_neg e3, if_neg e4, if_neg e5, if_neg e6, if_neg e7, if_neg e8, if_neg e9, if_neg e10, if_neg e11, if_neg e12, if_neg e13, if_neg e14, if_neg e15, if_neg e16, if_neg e17, if_neg e18, if_neg e19, if_neg e20, if_pos e21]; exact h, W'⟩
  by_cases e22 : op = (22 : Int32)
  · obtain ⟨c', M', o', h, W'⟩ := st_save hB hB2 W o a1 a2 a3
    exact ⟨c', M', o', by rw [if_neg e0, if_neg e1, if_neg e2, if_neg e3, if_neg e4, if_neg e5, if_neg e6, if_neg e7, if_neg e8, if_neg e9, if_neg e10, if_neg e11, if_neg e12, if_neg e13, if_neg e14, if_neg e15, if_neg e16, if_neg e17, if_neg e18, if_neg e19, if_neg e20, if_neg e21, if_pos e22]; exact h, W'⟩
  by_cases e23 : op = (23 : Int32)
  · obtain ⟨c', M', o', h, W'⟩ := st_restore hB hB2 W o a1 a2 a3
    exact ⟨c', M', o', by rw [if_neg e0, if_neg e1, if_neg e2, if_neg e3, if_neg e4, if_neg e5, if_neg e6, if_neg e7, if_neg e8, if_neg e9, if_neg e10, if_neg e11, if_neg e12, if_neg e13, if_neg e14, if_neg e15, if_neg e16, if_neg e17, if_neg e18, if_neg e19, if_neg e20, if_neg e21, if_neg e22, if_pos e23]; exact h, W'⟩
  exact ⟨c, M, o, by rw [if_neg e0, if_neg e1, if_neg e2, if_neg e3, if_neg e4, if_neg e5, if_neg e6, if_neg e7, if_neg e8, if_neg e9, if_neg e10, if_neg e11, if_neg e12, if_neg e13, if_neg e14, if_neg e15, if_neg e16, if_neg e17, if_neg e18, if_neg e19, if_neg e20, if_neg e21, if_neg e22, if_neg e23]; exact ⟨rfl, rfl, rfl⟩, W.le (by omega)⟩
theorem st_0 {g : Nat → Int32} (hg : ∀ i, i < 217 → g i = clr i) : WR 200 (cI0 (newG GI)) (mA MI 1 g) := by
  refine WR.mk ⟨0, tX.mk (by omega) rfl (fun i hi => by omega) (fun i hi => by omega), rfl⟩ ((new_VG GI).le (by omega)) (new_RG GI hg) ⟨0, 0, by omega, by omega, rfl, rfl, rfl, fun k hk => by omega⟩ (fun i hi => Or.inl ⟨rfl, rfl⟩)
