def mnOk (n : Nat) : Bool := (decide ((FP.ddiv (FP.i2d (nI n)) 4617315517961601024) &&& 0x7fffffffffffffff ≤ 0x7ff0000000000000)) && decide (cmpValue (FP.dcmp (FP.ddiv (FP.i2d (nI n)) 4617315517961601024) (FP.ddiv (FP.i2d (nI n)) 4617315517961601024)) .l = 0)
set_option maxRecDepth 100000 in
theorem mn_t : ∀ n : Nat, n < 5000 → mnOk n = true := by decide +kernel
