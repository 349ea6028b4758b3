/-! more small things -/
theorem wd_n : wds [] = 0 := rfl
theorem wd_i {x : Int32} {st : List Value} : wds (.int x :: st) = 1 + wds st := by simp [wds, Value.category]
theorem wd_a {x : Nat} {st : List Value} : wds (.ref x :: st) = 1 + wds st := by simp [wds, Value.category]
theorem wd_u {st : List Value} : wds (.null :: st) = 1 + wds st := by simp [wds, Value.category]
theorem wd_l {x : Int64} {st : List Value} : wds (.long x :: st) = 2 + wds st := by simp [wds, Value.category]
/-- a test of an int within whole numbers -/
theorem i32_lt {x y : Int32} : (x < y) = (x.toInt < y.toInt) := propext Int32.lt_iff_toInt_lt
theorem i32_le {x y : Int32} : (x ≤ y) = (x.toInt ≤ y.toInt) := propext Int32.le_iff_toInt_le
theorem i64_lt {x y : Int64} : (x < y) = (x.toInt < y.toInt) := propext Int64.lt_iff_toInt_lt
theorem i64_le {x y : Int64} : (x ≤ y) = (x.toInt ≤ y.toInt) := propext Int64.le_iff_toInt_le
theorem i2l_toInt (x : Int32) : x.toInt64.toInt = x.toInt := by simp
