theorem cr_mulL (k : Int) {x y : Int32} (hx : x.toInt = k) (h : -2147483648 ≤ k * y.toInt ∧ k * y.toInt < 2147483648) : (x * y).toInt = k * y.toInt := by
  rw [Int32.toInt_mul, hx]; exact cr_bmod h
