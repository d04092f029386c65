theorem zz_t1 (a b : Int) : (a + b) * (a - b) = a * a - b * b := by grind
theorem zz_t2 (a b c d : Int) (h : 0 < a * b) (h2 : 0 ≤ c) (h3 : 0 ≤ d) (h4 : 0 < a) : 0 ≤ c * d := by grind
theorem zz_t3 (a b : Int) (h : 0 < a) (h2 : 0 < b) : 0 < a * b := Int.mul_pos h h2
