theorem t0_97 {a : Int → Int} : s_t0 a 97 = -6 := rfl
theorem t0_98 {a : Int → Int} : s_t0 a 98 = 0 := rfl
theorem t0_99 {a : Int → Int} : s_t0 a 99 = 0 := rfl
theorem t0_100 {a : Int → Int} : s_t0 a 100 = 0 := rfl
