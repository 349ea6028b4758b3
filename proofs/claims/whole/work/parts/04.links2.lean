/-! the methods and their links -/
theorem mo_0_ok : zOK (fun n p => moK (0 + n) p) (List.range 25) mo_0 = true := by decide +kernel
theorem mo_1_ok : zOK (fun n p => moK (25 + n) p) (List.range 25) mo_1 = true := by decide +kernel
theorem mo_2_ok : zOK (fun n p => moK (50 + n) p) (List.range 25) mo_2 = true := by decide +kernel
theorem mo_3_ok : zOK (fun n p => moK (75 + n) p) (List.range 25) mo_3 = true := by decide +kernel
theorem mo_4_ok : zOK (fun n p => moK (100 + n) p) (List.range 25) mo_4 = true := by decide +kernel
theorem mo_5_ok : zOK (fun n p => moK (125 + n) p) (List.range 25) mo_5 = true := by decide +kernel
theorem mo_6_ok : zOK (fun n p => moK (150 + n) p) (List.range 25) mo_6 = true := by decide +kernel
theorem mo_7_ok : zOK (fun n p => moK (175 + n) p) (List.range 25) mo_7 = true := by decide +kernel
theorem mo_8_ok : zOK (fun n p => moK (200 + n) p) (List.range 25) mo_8 = true := by decide +kernel
theorem mo_9_ok : zOK (fun n p => moK (225 + n) p) (List.range 25) mo_9 = true := by decide +kernel
theorem mo_10_ok : zOK (fun n p => moK (250 + n) p) (List.range 25) mo_10 = true := by decide +kernel
theorem mo_11_ok : zOK (fun n p => moK (275 + n) p) (List.range 23) mo_11 = true := by decide +kernel
theorem mo_ok {n : Nat} (h : n < 298) : ∃ p, moK n p = true := by
  by_cases h0 : n < 25
  · obtain ⟨p, hp⟩ := zOK_at mo_0_ok (List.mem_range.mpr (show n - 0 < 25 by omega))
    exact ⟨p, by rw [show n = 0 + (n - 0) by omega]; exact hp⟩
  by_cases h1 : n < 50
  · obtain ⟨p, hp⟩ := zOK_at mo_1_ok (List.mem_range.mpr (show n - 25 < 25 by omega))
    exact ⟨p, by rw [show n = 25 + (n - 25) by omega]; exact hp⟩
  by_cases h2 : n < 75
  · obtain ⟨p, hp⟩ := zOK_at mo_2_ok (List.mem_range.mpr (show n - 50 < 25 by omega))
    exact ⟨p, by rw [show n = 50 + (n - 50) by omega]; exact hp⟩
  by_cases h3 : n < 100
  · obtain ⟨p, hp⟩ := zOK_at mo_3_ok (List.mem_range.mpr (show n - 75 < 25 by omega))
    exact ⟨p, by rw [show n = 75 + (n - 75) by omega]; exact hp⟩
  by_cases h4 : n < 125
  · obtain ⟨p, hp⟩ := zOK_at mo_4_ok (List.mem_range.mpr (show n - 100 < 25 by omega))
    exact ⟨p, by rw [show n = 100 + (n - 100) by omega]; exact hp⟩
  by_cases h5 : n < 150
  · obtain ⟨p, hp⟩ := zOK_at mo_5_ok (List.mem_range.mpr (show n - 125 < 25 by omega))
    exact ⟨p, by rw [show n = 125 + (n - 125) by omega]; exact hp⟩
  by_cases h6 : n < 175
  · obtain ⟨p, hp⟩ := zOK_at mo_6_ok (List.mem_range.mpr (show n - 150 < 25 by omega))
    exact ⟨p, by rw [show n = 150 + (n - 150) by omega]; exact hp⟩
  by_cases h7 : n < 200
  · obtain ⟨p, hp⟩ := zOK_at mo_7_ok (List.mem_range.mpr (show n - 175 < 25 by omega))
    exact ⟨p, by rw [show n = 175 + (n - 175) by omega]; exact hp⟩
  by_cases h8 : n < 225
  · obtain ⟨p, hp⟩ := zOK_at mo_8_ok (List.mem_range.mpr (show n - 200 < 25 by omega))
    exact ⟨p, by rw [show n = 200 + (n - 200) by omega]; exact hp⟩
  by_cases h9 : n < 250
  · obtain ⟨p, hp⟩ := zOK_at mo_9_ok (List.mem_range.mpr (show n - 225 < 25 by omega))
    exact ⟨p, by rw [show n = 225 + (n - 225) by omega]; exact hp⟩
  by_cases h10 : n < 275
  · obtain ⟨p, hp⟩ := zOK_at mo_10_ok (List.mem_range.mpr (show n - 250 < 25 by omega))
    exact ⟨p, by rw [show n = 250 + (n - 250) by omega]; exact hp⟩
  have h11 : True := trivial
  obtain ⟨p, hp⟩ := zOK_at mo_11_ok (List.mem_range.mpr (show n - 275 < 23 by omega))
  exact ⟨p, by rw [show n = 275 + (n - 275) by omega]; exact hp⟩
theorem MLs_ok : zOK mlOK MLs MPs = true := by decide +kernel
theorem mtab_len : mtab.length = 299 := by decide +kernel
