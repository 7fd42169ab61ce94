theorem zneg0 {x : zF} (h : 0 - x = 0) : x = 0 := by grind
