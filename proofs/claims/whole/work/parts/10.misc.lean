theorem sl_p1 {α β : Type} {x : α} {y : β} {r : α × β} (h : some (x, y) = some r) : x = r.1 := by cases h; rfl
theorem sl_p2 {α β : Type} {x : α} {y : β} {r : α × β} (h : some (x, y) = some r) : y = r.2 := by cases h; rfl
