def sX (w : Int32) : Int32 := if w = 0 then 1 else if w = 2 then -1 else 0
def sY (w : Int32) : Int32 := if w = 1 then 1 else if w = 3 then -1 else 0
theorem f_stepX (w : Int32) : f_X5_stepX w = some (sX w) := by
  unfold f_X5_stepX sX
  repeat' split
  all_goals rfl
theorem f_stepY (w : Int32) : f_X5_stepY w = some (sY w) := by
  unfold f_X5_stepY sY
  repeat' split
  all_goals rfl
