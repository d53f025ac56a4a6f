theorem q_tst1 : q_k 254 = 20 := rfl
theorem q_tst2 (g h : Int) : RF g h 0 8 = g := rfl
theorem q_tst3 (g h : Int) : RF g h 219 67 = 268 := by rfl
theorem q_tst4 : q_n 254 = 240 := rfl
