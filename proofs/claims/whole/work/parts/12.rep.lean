/-! rules, rings, groups: which cells are such objects, and where their rows stand -/
abbrev rul (r : Int) : Prop := r = 6 ∨ r = 15 ∨ r = 19
abbrev rng (r : Int) : Prop := r = 10 ∨ r = 23 ∨ r = 25 ∨ r = 27 ∨ r = 29 ∨ r = 31
abbrev grp (r : Int) : Prop := r = 4 ∨ r = 13
theorem ob8 {r : Int} (h : rul r) : ob NC r 8 := by rcases h with rfl | rfl | rfl <;> decide
theorem ob7 {r : Int} (h : rng r) : ob NC r 7 := by rcases h with rfl | rfl | rfl | rfl | rfl | rfl <;> decide
theorem ob2 {r : Int} (h : grp r) : ob NC r 2 := by rcases h with rfl | rfl <;> decide
theorem rf8_0 {r : Int} (h : rul r) : rf r 0 = r + 1 := by rcases h with rfl | rfl | rfl <;> rfl
theorem rf8_1 {r : Int} (h : rul r) : rf r 1 = r + 2 := by rcases h with rfl | rfl | rfl <;> rfl
theorem rf8_2 {r : Int} (h : rul r) : rf r 2 = r + 3 := by rcases h with rfl | rfl | rfl <;> rfl
theorem rf7_0 {r : Int} (h : rng r) : rf r 0 = r + 1 := by rcases h with rfl | rfl | rfl | rfl | rfl | rfl <;> rfl
theorem rf2_0 {r : Int} (h : grp r) : rf r 0 = r + 1 := by rcases h with rfl | rfl <;> rfl
theorem ar8a {r : Int} (h : rul r) : ar NC (r + 1) 1 216 := by rcases h with rfl | rfl | rfl <;> decide
theorem ar8b {r : Int} (h : rul r) : ar NC (r + 2) 2 216 := by rcases h with rfl | rfl | rfl <;> decide
theorem ar8c {r : Int} (h : rul r) : ar NC (r + 3) 2 216 := by rcases h with rfl | rfl | rfl <;> decide
theorem ar7 {r : Int} (h : rng r) : ar NC (r + 1) 1 16 := by rcases h with rfl | rfl | rfl | rfl | rfl | rfl <;> decide
theorem ar2 {r : Int} (h : grp r) : ar NC (r + 1) 1 36 := by rcases h with rfl | rfl <;> decide
