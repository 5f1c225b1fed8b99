/-! PURE LEVEL: a call of the law, out of the method that it calls -/
theorem t_tryAppend_0 {c d : CS} {x1 : Int32} {v : Int32} (h : f_X5_append c x1 = some ((0 : Int32), d, v)) : f_L_tryAppend c x1 = some (d, v) := by
  unfold f_L_tryAppend
  exact bd_eq h (ip_eq rfl rfl)
theorem k_tryAppend_0 {n : Nat} {c d : CS} {x1 : Int32} {z0 : Int32} {z1 : Int32} {v : Int32} (h : f_X5_append c x1 = some ((0 : Int32), d, v)) : f_L_call n c (0 : Int32) x1 z0 z1 = some (d, v) := by
  unfold f_L_call
  exact ip_eq rfl (bd_eq (t_tryAppend_0 h) rfl)
theorem t_tryAppend_1 {c d : CS} {x1 : Int32} {v : Int32} (h : f_X5_append c x1 = some ((1 : Int32), d, v)) : f_L_tryAppend c x1 = some (d, (-9999002 : Int32)) := by
  unfold f_L_tryAppend
  exact bd_eq h (in_eq (show ¬ (1 : Int32) = 0 by decide) (ip_eq rfl rfl))
theorem k_tryAppend_1 {n : Nat} {c d : CS} {x1 : Int32} {z0 : Int32} {z1 : Int32} {v : Int32} (h : f_X5_append c x1 = some ((1 : Int32), d, v)) : f_L_call n c (0 : Int32) x1 z0 z1 = some (d, (-9999002 : Int32)) := by
  unfold f_L_call
  exact ip_eq rfl (bd_eq (t_tryAppend_1 h) rfl)
theorem t_tryAppend_2 {c d : CS} {x1 : Int32} {v : Int32} (h : f_X5_append c x1 = some ((2 : Int32), d, v)) : f_L_tryAppend c x1 = some (d, (-9999003 : Int32)) := by
  unfold f_L_tryAppend
  exact bd_eq h (in_eq (show ¬ (2 : Int32) = 0 by decide) (in_eq (show ¬ (2 : Int32) = 1 by decide) (ip_eq rfl rfl)))
theorem k_tryAppend_2 {n : Nat} {c d : CS} {x1 : Int32} {z0 : Int32} {z1 : Int32} {v : Int32} (h : f_X5_append c x1 = some ((2 : Int32), d, v)) : f_L_call n c (0 : Int32) x1 z0 z1 = some (d, (-9999003 : Int32)) := by
  unfold f_L_call
  exact ip_eq rfl (bd_eq (t_tryAppend_2 h) rfl)
theorem t_tryLoad_0 {n : Nat} {c d : CS}  {v : Int32} (h : f_X5_load n c = some ((0 : Int32), d, v)) : f_L_tryLoad n c = some (d, v) := by
  unfold f_L_tryLoad
  exact bd_eq h (ip_eq rfl rfl)
theorem k_tryLoad_0 {n : Nat} {c d : CS}  {z0 : Int32} {z1 : Int32} {z2 : Int32} {v : Int32} (h : f_X5_load n c = some ((0 : Int32), d, v)) : f_L_call n c (1 : Int32) z0 z1 z2 = some (d, v) := by
  unfold f_L_call
  exact in_eq (by decide) (ip_eq rfl (bd_eq (t_tryLoad_0 h) rfl))
theorem t_tryLoad_2 {n : Nat} {c d : CS}  {v : Int32} (h : f_X5_load n c = some ((2 : Int32), d, v)) : f_L_tryLoad n c = some (d, (-9999003 : Int32)) := by
  unfold f_L_tryLoad
  exact bd_eq h (in_eq (show ¬ (2 : Int32) = 0 by decide) (ip_eq rfl rfl))
theorem k_tryLoad_2 {n : Nat} {c d : CS}  {z0 : Int32} {z1 : Int32} {z2 : Int32} {v : Int32} (h : f_X5_load n c = some ((2 : Int32), d, v)) : f_L_call n c (1 : Int32) z0 z1 z2 = some (d, (-9999003 : Int32)) := by
  unfold f_L_call
  exact in_eq (by decide) (ip_eq rfl (bd_eq (t_tryLoad_2 h) rfl))
theorem t_tryAbout_0 {n : Nat} {c d : CS} {x1 : Int32} {v : Int32} (h : f_X5_about n c x1 = some ((0 : Int32), d, v)) : f_L_tryAbout n c x1 = some (d, v) := by
  unfold f_L_tryAbout
  exact bd_eq h (ip_eq rfl rfl)
theorem k_tryAbout_0 {n : Nat} {c d : CS} {x1 : Int32} {z0 : Int32} {z1 : Int32} {v : Int32} (h : f_X5_about n c x1 = some ((0 : Int32), d, v)) : f_L_call n c (2 : Int32) x1 z0 z1 = some (d, v) := by
  unfold f_L_call
  exact in_eq (by decide) (in_eq (by decide) (ip_eq rfl (bd_eq (t_tryAbout_0 h) rfl)))
theorem t_tryAbout_1 {n : Nat} {c d : CS} {x1 : Int32} {v : Int32} (h : f_X5_about n c x1 = some ((1 : Int32), d, v)) : f_L_tryAbout n c x1 = some (d, (-9999002 : Int32)) := by
  unfold f_L_tryAbout
  exact bd_eq h (in_eq (show ¬ (1 : Int32) = 0 by decide) (ip_eq rfl rfl))
theorem k_tryAbout_1 {n : Nat} {c d : CS} {x1 : Int32} {z0 : Int32} {z1 : Int32} {v : Int32} (h : f_X5_about n c x1 = some ((1 : Int32), d, v)) : f_L_call n c (2 : Int32) x1 z0 z1 = some (d, (-9999002 : Int32)) := by
  unfold f_L_call
  exact in_eq (by decide) (in_eq (by decide) (ip_eq rfl (bd_eq (t_tryAbout_1 h) rfl)))
theorem t_tryTile_0 {n : Nat} {c d : CS} {x1 : Int32} {x2 : Int32} {v : Int32} (h : f_X5_tileOf n c x1 x2 = some ((0 : Int32), d, v)) : f_L_tryTile n c x1 x2 = some (d, v) := by
  unfold f_L_tryTile
  exact bd_eq h (ip_eq rfl rfl)
theorem k_tryTile_0 {n : Nat} {c d : CS} {x1 : Int32} {x2 : Int32} {z0 : Int32} {v : Int32} (h : f_X5_tileOf n c x1 x2 = some ((0 : Int32), d, v)) : f_L_call n c (3 : Int32) x1 x2 z0 = some (d, v) := by
  unfold f_L_call
  exact in_eq (by decide) (in_eq (by decide) (in_eq (by decide) (ip_eq rfl (bd_eq (t_tryTile_0 h) rfl))))
theorem t_tryTile_3 {n : Nat} {c d : CS} {x1 : Int32} {x2 : Int32} {v : Int32} (h : f_X5_tileOf n c x1 x2 = some ((3 : Int32), d, v)) : f_L_tryTile n c x1 x2 = some (d, (-9999001 : Int32)) := by
  unfold f_L_tryTile
  exact bd_eq h (in_eq (show ¬ (3 : Int32) = 0 by decide) (ip_eq rfl rfl))
theorem k_tryTile_3 {n : Nat} {c d : CS} {x1 : Int32} {x2 : Int32} {z0 : Int32} {v : Int32} (h : f_X5_tileOf n c x1 x2 = some ((3 : Int32), d, v)) : f_L_call n c (3 : Int32) x1 x2 z0 = some (d, (-9999001 : Int32)) := by
  unfold f_L_call
  exact in_eq (by decide) (in_eq (by decide) (in_eq (by decide) (ip_eq rfl (bd_eq (t_tryTile_3 h) rfl))))
theorem t_tryTile_1 {n : Nat} {c d : CS} {x1 : Int32} {x2 : Int32} {v : Int32} (h : f_X5_tileOf n c x1 x2 = some ((1 : Int32), d, v)) : f_L_tryTile n c x1 x2 = some (d, (-9999002 : Int32)) := by
  unfold f_L_tryTile
  exact bd_eq h (in_eq (show ¬ (1 : Int32) = 0 by decide) (in_eq (show ¬ (1 : Int32) = 3 by decide) (ip_eq rfl rfl)))
theorem k_tryTile_1 {n : Nat} {c d : CS} {x1 : Int32} {x2 : Int32} {z0 : Int32} {v : Int32} (h : f_X5_tileOf n c x1 x2 = some ((1 : Int32), d, v)) : f_L_call n c (3 : Int32) x1 x2 z0 = some (d, (-9999002 : Int32)) := by
  unfold f_L_call
  exact in_eq (by decide) (in_eq (by decide) (in_eq (by decide) (ip_eq rfl (bd_eq (t_tryTile_1 h) rfl))))
theorem t_tryLaid_0 {c d : CS} {x1 : Int32} {x2 : Int32} {v : Int32} (h : f_X5_laid c x1 x2 = some ((0 : Int32), d, v)) : f_L_tryLaid c x1 x2 = some (d, v) := by
  unfold f_L_tryLaid
  exact bd_eq h (ip_eq rfl rfl)
theorem k_tryLaid_0 {n : Nat} {c d : CS} {x1 : Int32} {x2 : Int32} {z0 : Int32} {v : Int32} (h : f_X5_laid c x1 x2 = some ((0 : Int32), d, v)) : f_L_call n c (4 : Int32) x1 x2 z0 = some (d, v) := by
  unfold f_L_call
  exact in_eq (by decide) (in_eq (by decide) (in_eq (by decide) (in_eq (by decide) (ip_eq rfl (bd_eq (t_tryLaid_0 h) rfl)))))
theorem t_tryLaid_3 {c d : CS} {x1 : Int32} {x2 : Int32} {v : Int32} (h : f_X5_laid c x1 x2 = some ((3 : Int32), d, v)) : f_L_tryLaid c x1 x2 = some (d, (-9999001 : Int32)) := by
  unfold f_L_tryLaid
  exact bd_eq h (in_eq (show ¬ (3 : Int32) = 0 by decide) (ip_eq rfl rfl))
theorem k_tryLaid_3 {n : Nat} {c d : CS} {x1 : Int32} {x2 : Int32} {z0 : Int32} {v : Int32} (h : f_X5_laid c x1 x2 = some ((3 : Int32), d, v)) : f_L_call n c (4 : Int32) x1 x2 z0 = some (d, (-9999001 : Int32)) := by
  unfold f_L_call
  exact in_eq (by decide) (in_eq (by decide) (in_eq (by decide) (in_eq (by decide) (ip_eq rfl (bd_eq (t_tryLaid_3 h) rfl)))))
theorem t_tryLaid_1 {c d : CS} {x1 : Int32} {x2 : Int32} {v : Int32} (h : f_X5_laid c x1 x2 = some ((1 : Int32), d, v)) : f_L_tryLaid c x1 x2 = some (d, (-9999002 : Int32)) := by
  unfold f_L_tryLaid
  exact bd_eq h (in_eq (show ¬ (1 : Int32) = 0 by decide) (in_eq (show ¬ (1 : Int32) = 3 by decide) (ip_eq rfl rfl)))
theorem k_tryLaid_1 {n : Nat} {c d : CS} {x1 : Int32} {x2 : Int32} {z0 : Int32} {v : Int32} (h : f_X5_laid c x1 x2 = some ((1 : Int32), d, v)) : f_L_call n c (4 : Int32) x1 x2 z0 = some (d, (-9999002 : Int32)) := by
  unfold f_L_call
  exact in_eq (by decide) (in_eq (by decide) (in_eq (by decide) (in_eq (by decide) (ip_eq rfl (bd_eq (t_tryLaid_1 h) rfl)))))
theorem t_tryPlayer_0 {n : Nat} {c d : CS} {x1 : Int32} {x2 : Int32} {v : Int32} (h : f_X5_playerOf n c x1 x2 = some ((0 : Int32), d, v)) : f_L_tryPlayer n c x1 x2 = some (d, v) := by
  unfold f_L_tryPlayer
  exact bd_eq h (ip_eq rfl rfl)
theorem k_tryPlayer_0 {n : Nat} {c d : CS} {x1 : Int32} {x2 : Int32} {z0 : Int32} {v : Int32} (h : f_X5_playerOf n c x1 x2 = some ((0 : Int32), d, v)) : f_L_call n c (5 : Int32) x1 x2 z0 = some (d, v) := by
  unfold f_L_call
  exact in_eq (by decide) (in_eq (by decide) (in_eq (by decide) (in_eq (by decide) (in_eq (by decide) (ip_eq rfl (bd_eq (t_tryPlayer_0 h) rfl))))))
theorem t_tryPlayer_3 {n : Nat} {c d : CS} {x1 : Int32} {x2 : Int32} {v : Int32} (h : f_X5_playerOf n c x1 x2 = some ((3 : Int32), d, v)) : f_L_tryPlayer n c x1 x2 = some (d, (-9999001 : Int32)) := by
  unfold f_L_tryPlayer
  exact bd_eq h (in_eq (show ¬ (3 : Int32) = 0 by decide) (ip_eq rfl rfl))
theorem k_tryPlayer_3 {n : Nat} {c d : CS} {x1 : Int32} {x2 : Int32} {z0 : Int32} {v : Int32} (h : f_X5_playerOf n c x1 x2 = some ((3 : Int32), d, v)) : f_L_call n c (5 : Int32) x1 x2 z0 = some (d, (-9999001 : Int32)) := by
  unfold f_L_call
  exact in_eq (by decide) (in_eq (by decide) (in_eq (by decide) (in_eq (by decide) (in_eq (by decide) (ip_eq rfl (bd_eq (t_tryPlayer_3 h) rfl))))))
theorem t_tryPlayer_1 {n : Nat} {c d : CS} {x1 : Int32} {x2 : Int32} {v : Int32} (h : f_X5_playerOf n c x1 x2 = some ((1 : Int32), d, v)) : f_L_tryPlayer n c x1 x2 = some (d, (-9999002 : Int32)) := by
  unfold f_L_tryPlayer
  exact bd_eq h (in_eq (show ¬ (1 : Int32) = 0 by decide) (in_eq (show ¬ (1 : Int32) = 3 by decide) (ip_eq rfl rfl)))
theorem k_tryPlayer_1 {n : Nat} {c d : CS} {x1 : Int32} {x2 : Int32} {z0 : Int32} {v : Int32} (h : f_X5_playerOf n c x1 x2 = some ((1 : Int32), d, v)) : f_L_call n c (5 : Int32) x1 x2 z0 = some (d, (-9999002 : Int32)) := by
  unfold f_L_call
  exact in_eq (by decide) (in_eq (by decide) (in_eq (by decide) (in_eq (by decide) (in_eq (by decide) (ip_eq rfl (bd_eq (t_tryPlayer_1 h) rfl))))))
theorem t_tryAt_0 {n : Nat} {c d : CS} {x1 : Int32} {x2 : Int32} {v : Int32} (h : f_X5_at n c x1 x2 = some ((0 : Int32), d, v)) : f_L_tryAt n c x1 x2 = some (d, v) := by
  unfold f_L_tryAt
  exact bd_eq h (ip_eq rfl rfl)
theorem k_tryAt_0 {n : Nat} {c d : CS} {x1 : Int32} {x2 : Int32} {z0 : Int32} {v : Int32} (h : f_X5_at n c x1 x2 = some ((0 : Int32), d, v)) : f_L_call n c (6 : Int32) x1 x2 z0 = some (d, v) := by
  unfold f_L_call
  exact in_eq (by decide) (in_eq (by decide) (in_eq (by decide) (in_eq (by decide) (in_eq (by decide) (in_eq (by decide) (ip_eq rfl (bd_eq (t_tryAt_0 h) rfl)))))))
theorem t_tryAt_3 {n : Nat} {c d : CS} {x1 : Int32} {x2 : Int32} {v : Int32} (h : f_X5_at n c x1 x2 = some ((3 : Int32), d, v)) : f_L_tryAt n c x1 x2 = some (d, (-9999001 : Int32)) := by
  unfold f_L_tryAt
  exact bd_eq h (in_eq (show ¬ (3 : Int32) = 0 by decide) (ip_eq rfl rfl))
theorem k_tryAt_3 {n : Nat} {c d : CS} {x1 : Int32} {x2 : Int32} {z0 : Int32} {v : Int32} (h : f_X5_at n c x1 x2 = some ((3 : Int32), d, v)) : f_L_call n c (6 : Int32) x1 x2 z0 = some (d, (-9999001 : Int32)) := by
  unfold f_L_call
  exact in_eq (by decide) (in_eq (by decide) (in_eq (by decide) (in_eq (by decide) (in_eq (by decide) (in_eq (by decide) (ip_eq rfl (bd_eq (t_tryAt_3 h) rfl)))))))
theorem t_tryFree_0 {n : Nat} {c d : CS} {x1 : Int32} {v : Int32} (h : f_X5_free n c x1 = some ((0 : Int32), d, v)) : f_L_tryFree n c x1 = some (d, v) := by
  unfold f_L_tryFree
  exact bd_eq h (ip_eq rfl rfl)
theorem k_tryFree_0 {n : Nat} {c d : CS} {x1 : Int32} {z0 : Int32} {z1 : Int32} {v : Int32} (h : f_X5_free n c x1 = some ((0 : Int32), d, v)) : f_L_call n c (7 : Int32) x1 z0 z1 = some (d, v) := by
  unfold f_L_call
  exact in_eq (by decide) (in_eq (by decide) (in_eq (by decide) (in_eq (by decide) (in_eq (by decide) (in_eq (by decide) (in_eq (by decide) (ip_eq rfl (bd_eq (t_tryFree_0 h) rfl))))))))
theorem t_tryFree_1 {n : Nat} {c d : CS} {x1 : Int32} {v : Int32} (h : f_X5_free n c x1 = some ((1 : Int32), d, v)) : f_L_tryFree n c x1 = some (d, (-9999002 : Int32)) := by
  unfold f_L_tryFree
  exact bd_eq h (in_eq (show ¬ (1 : Int32) = 0 by decide) (ip_eq rfl rfl))
theorem k_tryFree_1 {n : Nat} {c d : CS} {x1 : Int32} {z0 : Int32} {z1 : Int32} {v : Int32} (h : f_X5_free n c x1 = some ((1 : Int32), d, v)) : f_L_call n c (7 : Int32) x1 z0 z1 = some (d, (-9999002 : Int32)) := by
  unfold f_L_call
  exact in_eq (by decide) (in_eq (by decide) (in_eq (by decide) (in_eq (by decide) (in_eq (by decide) (in_eq (by decide) (in_eq (by decide) (ip_eq rfl (bd_eq (t_tryFree_1 h) rfl))))))))
theorem t_tryDraw_0 {c d : CS}  {v : Int32} (h : f_X5_draw c = some ((0 : Int32), d, v)) : f_L_tryDraw c = some (d, v) := by
  unfold f_L_tryDraw
  exact bd_eq h (ip_eq rfl rfl)
theorem k_tryDraw_0 {n : Nat} {c d : CS}  {z0 : Int32} {z1 : Int32} {z2 : Int32} {v : Int32} (h : f_X5_draw c = some ((0 : Int32), d, v)) : f_L_call n c (8 : Int32) z0 z1 z2 = some (d, v) := by
  unfold f_L_call
  exact in_eq (by decide) (in_eq (by decide) (in_eq (by decide) (in_eq (by decide) (in_eq (by decide) (in_eq (by decide) (in_eq (by decide) (in_eq (by decide) (ip_eq rfl (bd_eq (t_tryDraw_0 h) rfl)))))))))
theorem t_tryDraw_2 {c d : CS}  {v : Int32} (h : f_X5_draw c = some ((2 : Int32), d, v)) : f_L_tryDraw c = some (d, (-9999003 : Int32)) := by
  unfold f_L_tryDraw
  exact bd_eq h (in_eq (show ¬ (2 : Int32) = 0 by decide) (ip_eq rfl rfl))
theorem k_tryDraw_2 {n : Nat} {c d : CS}  {z0 : Int32} {z1 : Int32} {z2 : Int32} {v : Int32} (h : f_X5_draw c = some ((2 : Int32), d, v)) : f_L_call n c (8 : Int32) z0 z1 z2 = some (d, (-9999003 : Int32)) := by
  unfold f_L_call
  exact in_eq (by decide) (in_eq (by decide) (in_eq (by decide) (in_eq (by decide) (in_eq (by decide) (in_eq (by decide) (in_eq (by decide) (in_eq (by decide) (ip_eq rfl (bd_eq (t_tryDraw_2 h) rfl)))))))))
theorem t_tryPass_0 {n : Nat} {c d : CS}  {v : Int32} (h : f_X5_pass n c = some ((0 : Int32), d, v)) : f_L_tryPass n c = some (d, v) := by
  unfold f_L_tryPass
  exact bd_eq h (ip_eq rfl rfl)
theorem k_tryPass_0 {n : Nat} {c d : CS}  {z0 : Int32} {z1 : Int32} {z2 : Int32} {v : Int32} (h : f_X5_pass n c = some ((0 : Int32), d, v)) : f_L_call n c (9 : Int32) z0 z1 z2 = some (d, v) := by
  unfold f_L_call
  exact in_eq (by decide) (in_eq (by decide) (in_eq (by decide) (in_eq (by decide) (in_eq (by decide) (in_eq (by decide) (in_eq (by decide) (in_eq (by decide) (in_eq (by decide) (ip_eq rfl (bd_eq (t_tryPass_0 h) rfl))))))))))
theorem t_tryPass_2 {n : Nat} {c d : CS}  {v : Int32} (h : f_X5_pass n c = some ((2 : Int32), d, v)) : f_L_tryPass n c = some (d, (-9999003 : Int32)) := by
  unfold f_L_tryPass
  exact bd_eq h (in_eq (show ¬ (2 : Int32) = 0 by decide) (ip_eq rfl rfl))
theorem k_tryPass_2 {n : Nat} {c d : CS}  {z0 : Int32} {z1 : Int32} {z2 : Int32} {v : Int32} (h : f_X5_pass n c = some ((2 : Int32), d, v)) : f_L_call n c (9 : Int32) z0 z1 z2 = some (d, (-9999003 : Int32)) := by
  unfold f_L_call
  exact in_eq (by decide) (in_eq (by decide) (in_eq (by decide) (in_eq (by decide) (in_eq (by decide) (in_eq (by decide) (in_eq (by decide) (in_eq (by decide) (in_eq (by decide) (ip_eq rfl (bd_eq (t_tryPass_2 h) rfl))))))))))
theorem t_tryUndo_0 {c d : CS}  {v : Int32} (h : f_X5_undo c = some ((0 : Int32), d, v)) : f_L_tryUndo c = some (d, v) := by
  unfold f_L_tryUndo
  exact bd_eq h (ip_eq rfl rfl)
theorem k_tryUndo_0 {n : Nat} {c d : CS}  {z0 : Int32} {z1 : Int32} {z2 : Int32} {v : Int32} (h : f_X5_undo c = some ((0 : Int32), d, v)) : f_L_call n c (10 : Int32) z0 z1 z2 = some (d, v) := by
  unfold f_L_call
  exact in_eq (by decide) (in_eq (by decide) (in_eq (by decide) (in_eq (by decide) (in_eq (by decide) (in_eq (by decide) (in_eq (by decide) (in_eq (by decide) (in_eq (by decide) (in_eq (by decide) (ip_eq rfl (bd_eq (t_tryUndo_0 h) rfl)))))))))))
theorem t_tryUndo_2 {c d : CS}  {v : Int32} (h : f_X5_undo c = some ((2 : Int32), d, v)) : f_L_tryUndo c = some (d, (-9999003 : Int32)) := by
  unfold f_L_tryUndo
  exact bd_eq h (in_eq (show ¬ (2 : Int32) = 0 by decide) (ip_eq rfl rfl))
theorem k_tryUndo_2 {n : Nat} {c d : CS}  {z0 : Int32} {z1 : Int32} {z2 : Int32} {v : Int32} (h : f_X5_undo c = some ((2 : Int32), d, v)) : f_L_call n c (10 : Int32) z0 z1 z2 = some (d, (-9999003 : Int32)) := by
  unfold f_L_call
  exact in_eq (by decide) (in_eq (by decide) (in_eq (by decide) (in_eq (by decide) (in_eq (by decide) (in_eq (by decide) (in_eq (by decide) (in_eq (by decide) (in_eq (by decide) (in_eq (by decide) (ip_eq rfl (bd_eq (t_tryUndo_2 h) rfl)))))))))))
theorem t_tryWhy_0 {c d : CS} {x1 : Int32} {v : Int32} (h : f_X5_why c x1 = some ((0 : Int32), d, v)) : f_L_tryWhy c x1 = some (d, v) := by
  unfold f_L_tryWhy
  exact bd_eq h (ip_eq rfl rfl)
theorem k_tryWhy_0 {n : Nat} {c d : CS} {x1 : Int32} {z0 : Int32} {z1 : Int32} {v : Int32} (h : f_X5_why c x1 = some ((0 : Int32), d, v)) : f_L_call n c (11 : Int32) x1 z0 z1 = some (d, v) := by
  unfold f_L_call
  exact in_eq (by decide) (in_eq (by decide) (in_eq (by decide) (in_eq (by decide) (in_eq (by decide) (in_eq (by decide) (in_eq (by decide) (in_eq (by decide) (in_eq (by decide) (in_eq (by decide) (in_eq (by decide) (ip_eq rfl (bd_eq (t_tryWhy_0 h) rfl))))))))))))
theorem t_tryWhy_3 {c d : CS} {x1 : Int32} {v : Int32} (h : f_X5_why c x1 = some ((3 : Int32), d, v)) : f_L_tryWhy c x1 = some (d, (-9999001 : Int32)) := by
  unfold f_L_tryWhy
  exact bd_eq h (in_eq (show ¬ (3 : Int32) = 0 by decide) (ip_eq rfl rfl))
theorem k_tryWhy_3 {n : Nat} {c d : CS} {x1 : Int32} {z0 : Int32} {z1 : Int32} {v : Int32} (h : f_X5_why c x1 = some ((3 : Int32), d, v)) : f_L_call n c (11 : Int32) x1 z0 z1 = some (d, (-9999001 : Int32)) := by
  unfold f_L_call
  exact in_eq (by decide) (in_eq (by decide) (in_eq (by decide) (in_eq (by decide) (in_eq (by decide) (in_eq (by decide) (in_eq (by decide) (in_eq (by decide) (in_eq (by decide) (in_eq (by decide) (in_eq (by decide) (ip_eq rfl (bd_eq (t_tryWhy_3 h) rfl))))))))))))
theorem t_tryChain_0 {n : Nat} {c d : CS} {x1 : Int32} {x2 : Int32} {v : Int32} (h : f_X5_chain n c x1 x2 = some ((0 : Int32), d, v)) : f_L_tryChain n c x1 x2 = some (d, v) := by
  unfold f_L_tryChain
  exact bd_eq h (ip_eq rfl rfl)
theorem k_tryChain_0 {n : Nat} {c d : CS} {x1 : Int32} {x2 : Int32} {z0 : Int32} {v : Int32} (h : f_X5_chain n c x1 x2 = some ((0 : Int32), d, v)) : f_L_call n c (12 : Int32) x1 x2 z0 = some (d, v) := by
  unfold f_L_call
  exact in_eq (by decide) (in_eq (by decide) (in_eq (by decide) (in_eq (by decide) (in_eq (by decide) (in_eq (by decide) (in_eq (by decide) (in_eq (by decide) (in_eq (by decide) (in_eq (by decide) (in_eq (by decide) (in_eq (by decide) (ip_eq rfl (bd_eq (t_tryChain_0 h) rfl)))))))))))))
theorem t_tryChain_3 {n : Nat} {c d : CS} {x1 : Int32} {x2 : Int32} {v : Int32} (h : f_X5_chain n c x1 x2 = some ((3 : Int32), d, v)) : f_L_tryChain n c x1 x2 = some (d, (-9999001 : Int32)) := by
  unfold f_L_tryChain
  exact bd_eq h (in_eq (show ¬ (3 : Int32) = 0 by decide) (ip_eq rfl rfl))
theorem k_tryChain_3 {n : Nat} {c d : CS} {x1 : Int32} {x2 : Int32} {z0 : Int32} {v : Int32} (h : f_X5_chain n c x1 x2 = some ((3 : Int32), d, v)) : f_L_call n c (12 : Int32) x1 x2 z0 = some (d, (-9999001 : Int32)) := by
  unfold f_L_call
  exact in_eq (by decide) (in_eq (by decide) (in_eq (by decide) (in_eq (by decide) (in_eq (by decide) (in_eq (by decide) (in_eq (by decide) (in_eq (by decide) (in_eq (by decide) (in_eq (by decide) (in_eq (by decide) (in_eq (by decide) (ip_eq rfl (bd_eq (t_tryChain_3 h) rfl)))))))))))))
theorem t_tryChain_1 {n : Nat} {c d : CS} {x1 : Int32} {x2 : Int32} {v : Int32} (h : f_X5_chain n c x1 x2 = some ((1 : Int32), d, v)) : f_L_tryChain n c x1 x2 = some (d, (-9999002 : Int32)) := by
  unfold f_L_tryChain
  exact bd_eq h (in_eq (show ¬ (1 : Int32) = 0 by decide) (in_eq (show ¬ (1 : Int32) = 3 by decide) (ip_eq rfl rfl)))
theorem k_tryChain_1 {n : Nat} {c d : CS} {x1 : Int32} {x2 : Int32} {z0 : Int32} {v : Int32} (h : f_X5_chain n c x1 x2 = some ((1 : Int32), d, v)) : f_L_call n c (12 : Int32) x1 x2 z0 = some (d, (-9999002 : Int32)) := by
  unfold f_L_call
  exact in_eq (by decide) (in_eq (by decide) (in_eq (by decide) (in_eq (by decide) (in_eq (by decide) (in_eq (by decide) (in_eq (by decide) (in_eq (by decide) (in_eq (by decide) (in_eq (by decide) (in_eq (by decide) (in_eq (by decide) (ip_eq rfl (bd_eq (t_tryChain_1 h) rfl)))))))))))))
theorem t_tryReach_0 {n : Nat} {c d : CS} {x1 : Int32} {v : Int32} (h : f_X5_reach n c x1 = some ((0 : Int32), d, v)) : f_L_tryReach n c x1 = some (d, v) := by
  unfold f_L_tryReach
  exact bd_eq h (ip_eq rfl rfl)
theorem k_tryReach_0 {n : Nat} {c d : CS} {x1 : Int32} {z0 : Int32} {z1 : Int32} {v : Int32} (h : f_X5_reach n c x1 = some ((0 : Int32), d, v)) : f_L_call n c (13 : Int32) x1 z0 z1 = some (d, v) := by
  unfold f_L_call
  exact in_eq (by decide) (in_eq (by decide) (in_eq (by decide) (in_eq (by decide) (in_eq (by decide) (in_eq (by decide) (in_eq (by decide) (in_eq (by decide) (in_eq (by decide) (in_eq (by decide) (in_eq (by decide) (in_eq (by decide) (in_eq (by decide) (ip_eq rfl (bd_eq (t_tryReach_0 h) rfl))))))))))))))
theorem t_tryReach_1 {n : Nat} {c d : CS} {x1 : Int32} {v : Int32} (h : f_X5_reach n c x1 = some ((1 : Int32), d, v)) : f_L_tryReach n c x1 = some (d, (-9999002 : Int32)) := by
  unfold f_L_tryReach
  exact bd_eq h (in_eq (show ¬ (1 : Int32) = 0 by decide) (ip_eq rfl rfl))
theorem k_tryReach_1 {n : Nat} {c d : CS} {x1 : Int32} {z0 : Int32} {z1 : Int32} {v : Int32} (h : f_X5_reach n c x1 = some ((1 : Int32), d, v)) : f_L_call n c (13 : Int32) x1 z0 z1 = some (d, (-9999002 : Int32)) := by
  unfold f_L_call
  exact in_eq (by decide) (in_eq (by decide) (in_eq (by decide) (in_eq (by decide) (in_eq (by decide) (in_eq (by decide) (in_eq (by decide) (in_eq (by decide) (in_eq (by decide) (in_eq (by decide) (in_eq (by decide) (in_eq (by decide) (in_eq (by decide) (ip_eq rfl (bd_eq (t_tryReach_1 h) rfl))))))))))))))
theorem t_tryKeep_0 {c d : CS} {x1 : Int32} {v : Int32} (h : f_X5_save c x1 = some ((0 : Int32), d, v)) : f_L_tryKeep c x1 = some (d, v) := by
  unfold f_L_tryKeep
  exact bd_eq h (ip_eq rfl rfl)
theorem k_tryKeep_0 {n : Nat} {c d : CS} {x1 : Int32} {z0 : Int32} {z1 : Int32} {v : Int32} (h : f_X5_save c x1 = some ((0 : Int32), d, v)) : f_L_call n c (14 : Int32) x1 z0 z1 = some (d, v) := by
  unfold f_L_call
  exact in_eq (by decide) (in_eq (by decide) (in_eq (by decide) (in_eq (by decide) (in_eq (by decide) (in_eq (by decide) (in_eq (by decide) (in_eq (by decide) (in_eq (by decide) (in_eq (by decide) (in_eq (by decide) (in_eq (by decide) (in_eq (by decide) (in_eq (by decide) (ip_eq rfl (bd_eq (t_tryKeep_0 h) rfl)))))))))))))))
theorem t_tryKeep_3 {c d : CS} {x1 : Int32} {v : Int32} (h : f_X5_save c x1 = some ((3 : Int32), d, v)) : f_L_tryKeep c x1 = some (d, (-9999001 : Int32)) := by
  unfold f_L_tryKeep
  exact bd_eq h (in_eq (show ¬ (3 : Int32) = 0 by decide) (ip_eq rfl rfl))
theorem k_tryKeep_3 {n : Nat} {c d : CS} {x1 : Int32} {z0 : Int32} {z1 : Int32} {v : Int32} (h : f_X5_save c x1 = some ((3 : Int32), d, v)) : f_L_call n c (14 : Int32) x1 z0 z1 = some (d, (-9999001 : Int32)) := by
  unfold f_L_call
  exact in_eq (by decide) (in_eq (by decide) (in_eq (by decide) (in_eq (by decide) (in_eq (by decide) (in_eq (by decide) (in_eq (by decide) (in_eq (by decide) (in_eq (by decide) (in_eq (by decide) (in_eq (by decide) (in_eq (by decide) (in_eq (by decide) (in_eq (by decide) (ip_eq rfl (bd_eq (t_tryKeep_3 h) rfl)))))))))))))))
theorem t_tryBack_0 {c d : CS} {x1 : Int32} {v : Int32} (h : f_X5_restore c x1 = some ((0 : Int32), d, v)) : f_L_tryBack c x1 = some (d, v) := by
  unfold f_L_tryBack
  exact bd_eq h (ip_eq rfl rfl)
theorem k_tryBack_0 {n : Nat} {c d : CS} {x1 : Int32} {z0 : Int32} {z1 : Int32} {v : Int32} (h : f_X5_restore c x1 = some ((0 : Int32), d, v)) : f_L_call n c (15 : Int32) x1 z0 z1 = some (d, v) := by
  unfold f_L_call
  exact in_eq (by decide) (in_eq (by decide) (in_eq (by decide) (in_eq (by decide) (in_eq (by decide) (in_eq (by decide) (in_eq (by decide) (in_eq (by decide) (in_eq (by decide) (in_eq (by decide) (in_eq (by decide) (in_eq (by decide) (in_eq (by decide) (in_eq (by decide) (in_eq (by decide) (bd_eq (t_tryBack_0 h) rfl)))))))))))))))
theorem t_tryBack_3 {c d : CS} {x1 : Int32} {v : Int32} (h : f_X5_restore c x1 = some ((3 : Int32), d, v)) : f_L_tryBack c x1 = some (d, (-9999001 : Int32)) := by
  unfold f_L_tryBack
  exact bd_eq h (in_eq (show ¬ (3 : Int32) = 0 by decide) (ip_eq rfl rfl))
theorem k_tryBack_3 {n : Nat} {c d : CS} {x1 : Int32} {z0 : Int32} {z1 : Int32} {v : Int32} (h : f_X5_restore c x1 = some ((3 : Int32), d, v)) : f_L_call n c (15 : Int32) x1 z0 z1 = some (d, (-9999001 : Int32)) := by
  unfold f_L_call
  exact in_eq (by decide) (in_eq (by decide) (in_eq (by decide) (in_eq (by decide) (in_eq (by decide) (in_eq (by decide) (in_eq (by decide) (in_eq (by decide) (in_eq (by decide) (in_eq (by decide) (in_eq (by decide) (in_eq (by decide) (in_eq (by decide) (in_eq (by decide) (in_eq (by decide) (bd_eq (t_tryBack_3 h) rfl)))))))))))))))
theorem t_tryBack_2 {c d : CS} {x1 : Int32} {v : Int32} (h : f_X5_restore c x1 = some ((2 : Int32), d, v)) : f_L_tryBack c x1 = some (d, (-9999003 : Int32)) := by
  unfold f_L_tryBack
  exact bd_eq h (in_eq (show ¬ (2 : Int32) = 0 by decide) (in_eq (show ¬ (2 : Int32) = 3 by decide) (ip_eq rfl rfl)))
theorem k_tryBack_2 {n : Nat} {c d : CS} {x1 : Int32} {z0 : Int32} {z1 : Int32} {v : Int32} (h : f_X5_restore c x1 = some ((2 : Int32), d, v)) : f_L_call n c (15 : Int32) x1 z0 z1 = some (d, (-9999003 : Int32)) := by
  unfold f_L_call
  exact in_eq (by decide) (in_eq (by decide) (in_eq (by decide) (in_eq (by decide) (in_eq (by decide) (in_eq (by decide) (in_eq (by decide) (in_eq (by decide) (in_eq (by decide) (in_eq (by decide) (in_eq (by decide) (in_eq (by decide) (in_eq (by decide) (in_eq (by decide) (in_eq (by decide) (bd_eq (t_tryBack_2 h) rfl)))))))))))))))
theorem t_deals_0 {n : Nat} {c d : CS} {x1 : Int32} {y2 : Int64} {v : Int32} (h : f_X5_deal n c x1 y2 = some ((0 : Int32), d, v)) : f_L_deals n c x1 y2 = some (d, v) := by
  unfold f_L_deals
  exact bd_eq h (ip_eq rfl rfl)
theorem t_deals_1 {n : Nat} {c d : CS} {x1 : Int32} {y2 : Int64} {v : Int32} (h : f_X5_deal n c x1 y2 = some ((1 : Int32), d, v)) : f_L_deals n c x1 y2 = some (d, (-9999002 : Int32)) := by
  unfold f_L_deals
  exact bd_eq h (in_eq (show ¬ (1 : Int32) = 0 by decide) (ip_eq rfl rfl))
theorem t_plays_0 {n : Nat} {c d : CS} {x1 : Int32} {x2 : Int32} {v : Int32} (h : f_X5_play n c x1 x2 = some ((0 : Int32), d, v)) : f_L_plays n c x1 x2 = some (d, v) := by
  unfold f_L_plays
  exact bd_eq h (ip_eq rfl rfl)
theorem t_plays_3 {n : Nat} {c d : CS} {x1 : Int32} {x2 : Int32} {v : Int32} (h : f_X5_play n c x1 x2 = some ((3 : Int32), d, v)) : f_L_plays n c x1 x2 = some (d, (-9999001 : Int32)) := by
  unfold f_L_plays
  exact bd_eq h (in_eq (show ¬ (3 : Int32) = 0 by decide) (ip_eq rfl rfl))
theorem t_plays_2 {n : Nat} {c d : CS} {x1 : Int32} {x2 : Int32} {v : Int32} (h : f_X5_play n c x1 x2 = some ((2 : Int32), d, v)) : f_L_plays n c x1 x2 = some (d, (-9999003 : Int32)) := by
  unfold f_L_plays
  exact bd_eq h (in_eq (show ¬ (2 : Int32) = 0 by decide) (in_eq (show ¬ (2 : Int32) = 3 by decide) (ip_eq rfl rfl)))
theorem t_doScript_0 {n : Nat} {c d : CS} {x1 : Int32} {y2 : Int64} {v : Int32} (h : f_X5_runScript n c x1 y2 = some ((0 : Int32), d, v)) : f_L_doScript n c x1 y2 = some (d, v) := by
  unfold f_L_doScript
  exact bd_eq h (ip_eq rfl rfl)
theorem t_doScript_1 {n : Nat} {c d : CS} {x1 : Int32} {y2 : Int64} {v : Int32} (h : f_X5_runScript n c x1 y2 = some ((1 : Int32), d, v)) : f_L_doScript n c x1 y2 = some (d, (-9999002 : Int32)) := by
  unfold f_L_doScript
  exact bd_eq h (in_eq (show ¬ (1 : Int32) = 0 by decide) (ip_eq rfl rfl))
theorem t_doSimulate_0 {n : Nat} {c d : CS} {y1 : Int64} {x3 : Int32} {v : Int32} (h : f_X5_simulate n c y1 x3 = some ((0 : Int32), d, v)) : f_L_doSimulate n c y1 x3 = some (d, v) := by
  unfold f_L_doSimulate
  exact bd_eq h (ip_eq rfl rfl)
theorem t_doSimulate_1 {n : Nat} {c d : CS} {y1 : Int64} {x3 : Int32} {v : Int32} (h : f_X5_simulate n c y1 x3 = some ((1 : Int32), d, v)) : f_L_doSimulate n c y1 x3 = some (d, (-9999002 : Int32)) := by
  unfold f_L_doSimulate
  exact bd_eq h (in_eq (show ¬ (1 : Int32) = 0 by decide) (ip_eq rfl rfl))
