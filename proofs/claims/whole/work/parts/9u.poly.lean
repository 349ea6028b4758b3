/-! Newton's form in longs: from within, and as a sum -/
theorem nw_2 (d0 d1 d2 m i : Int64) : d0 * ((1 * (m * 2)) * (m * 1)) + (i - 0 * m) * (d1 * (1 * (m * 2)) + (i - 1 * m) * d2) = (0 + d0 * 1 * (1 * (m * 1) * (m * 2))) + d1 * (1 * (i - 0 * m)) * (m * 2) + d2 * (1 * (i - 0 * m) * (i - 1 * m)) * 1 := by grind
/-- the polynomial of degree 4 at most, times its scale -/
noncomputable def p4 (d0 d1 d2 d3 d4 m i : Int64) : Int64 := d0 * (24 * (m * m * m * m)) + i * (d1 * (24 * (m * m * m)) + (i - m) * (d2 * (12 * (m * m)) + (i - 2 * m) * (d3 * (4 * m) + (i - 3 * m) * d4)))
noncomputable def p3 (d0 d1 d2 d3 m i : Int64) : Int64 := d0 * (6 * (m * m * m)) + i * (d1 * (6 * (m * m)) + (i - m) * (d2 * (3 * m) + (i - 2 * m) * d3))
noncomputable def p2 (d0 d1 d2 m i : Int64) : Int64 := d0 * (2 * (m * m)) + i * (d1 * (2 * m) + (i - m) * d2)
noncomputable def p1 (d0 d1 m i : Int64) : Int64 := d0 * m + i * d1
/-- the difference beyond the degree is nothing -/
theorem p1_d (d0 d1 m i : Int64) : p1 d0 d1 m (i + 2) - 2 * p1 d0 d1 m (i + 1) + p1 d0 d1 m i = 0 := by
  unfold p1
  grind
theorem p2_d (d0 d1 d2 m i : Int64) : p2 d0 d1 d2 m (i + 3) - 3 * p2 d0 d1 d2 m (i + 2) + 3 * p2 d0 d1 d2 m (i + 1) - p2 d0 d1 d2 m i = 0 := by
  unfold p2
  grind
theorem p3_d (d0 d1 d2 d3 m i : Int64) : p3 d0 d1 d2 d3 m (i + 4) - 4 * p3 d0 d1 d2 d3 m (i + 3) + 6 * p3 d0 d1 d2 d3 m (i + 2) - 4 * p3 d0 d1 d2 d3 m (i + 1) + p3 d0 d1 d2 d3 m i = 0 := by
  unfold p3
  grind
theorem p4_d (d0 d1 d2 d3 d4 m i : Int64) : p4 d0 d1 d2 d3 d4 m (i + 5) - 5 * p4 d0 d1 d2 d3 d4 m (i + 4) + 10 * p4 d0 d1 d2 d3 d4 m (i + 3) - 10 * p4 d0 d1 d2 d3 d4 m (i + 2) + 5 * p4 d0 d1 d2 d3 d4 m (i + 1) - p4 d0 d1 d2 d3 d4 m i = 0 := by
  unfold p4
  grind
