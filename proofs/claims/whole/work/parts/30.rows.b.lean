/-! rows of the code, by program (genrows.py) -/
theorem e32 {E : aEnv} {c : Nat} {ah ahF : aHp} {r : Option Value} {p0 : Nat} {p1 : Int32} {p2 : Int32} {p3 : Nat} (h : WP E c 32 0 [some (.ref p0), some (.int p1), some (.int p2), some (.ref p3), none, none, none] [] ah (fun r1 x1 => r1 = r ∧ x1 = ahF)) : EV E c 32 [.ref p0, .int p1, .int p2, .ref p3] ah r ahF := EV.of (by rw [mr32.2.1]; exact h)
theorem e32n3 {E : aEnv} {c : Nat} {ah ahF : aHp} {r : Option Value} {p0 : Nat} {p1 : Int32} {p2 : Int32} (h : WP E c 32 0 [some (.ref p0), some (.int p1), some (.int p2), some .null, none, none, none] [] ah (fun r1 x1 => r1 = r ∧ x1 = ahF)) : EV E c 32 [.ref p0, .int p1, .int p2, .null] ah r ahF := EV.of (by rw [mr32.2.1]; exact h)
theorem i32_0 : insAt 32 0 = some (.aload 0, 1) := by decide +kernel
theorem r32_0 {E : aEnv} {c : Nat} {ah : aHp} {st : List Value} {Q : Option Value → aHp → Prop} {a1 a2 a3 a4 a5 a6 : Option Value} {x : Nat} : WP E c 32 0 [some (.ref x), a1, a2, a3, a4, a5, a6] (st) ah Q = WP E c 32 1 [some (.ref x), a1, a2, a3, a4, a5, a6] (.ref x :: st) ah Q := wp_s i32_0 rfl rfl rfl rfl
theorem i32_1 : insAt 32 1 = some (.ldc_w 4, 4) := by decide +kernel
-- 32 1 .ldc_w 4
theorem i32_4 : insAt 32 4 = some (.aload 0, 5) := by decide +kernel
theorem r32_4 {E : aEnv} {c : Nat} {ah : aHp} {st : List Value} {Q : Option Value → aHp → Prop} {a1 a2 a3 a4 a5 a6 : Option Value} {x : Nat} : WP E c 32 4 [some (.ref x), a1, a2, a3, a4, a5, a6] (st) ah Q = WP E c 32 5 [some (.ref x), a1, a2, a3, a4, a5, a6] (.ref x :: st) ah Q := wp_s i32_4 rfl rfl rfl rfl
theorem i32_5 : insAt 32 5 = some (.iconst 7, 7) := by decide +kernel
theorem r32_5 {E : aEnv} {c : Nat} {ah : aHp} {st : List Value} {Q : Option Value → aHp → Prop} {a0 a1 a2 a3 a4 a5 a6 : Option Value} : WP E c 32 5 [a0, a1, a2, a3, a4, a5, a6] (st) ah Q = WP E c 32 7 [a0, a1, a2, a3, a4, a5, a6] (.int (7) :: st) ah Q := wp_s i32_5 rfl rfl rfl rfl
theorem i32_7 : insAt 32 7 = some (.newarray .long, 9) := by decide +kernel
theorem r32_7 {E : aEnv} {c : Nat} {ah : aHp} {st : List Value} {Q : Option Value → aHp → Prop} {a0 a1 a2 a3 a4 a5 a6 : Option Value} {x : Int32} : WP E c 32 7 [a0, a1, a2, a3, a4, a5, a6] (.int x :: st) ah Q = WPo (nR E ah 1 (.int x :: st)) (fun q9 => WP E c 32 9 [a0, a1, a2, a3, a4, a5, a6] q9.1 q9.2 Q) := wp_hw i32_7 rfl rfl rfl rfl rfl rfl rfl rfl
theorem i32_9 : insAt 32 9 = some (.putfield 2082, 12) := by decide +kernel
theorem r32_9 {E : aEnv} {c : Nat} {ah : aHp} {st : List Value} {Q : Option Value → aHp → Prop} {a0 a1 a2 a3 a4 a5 a6 : Option Value} {a : Nat} {v : Value} : WP E c 32 9 [a0, a1, a2, a3, a4, a5, a6] (v :: .ref a :: st) ah Q = WPo (oPF (hg E ah a) 2082 v) (fun e => WP E c 32 12 [a0, a1, a2, a3, a4, a5, a6] st (hs E ah a e) Q) := wp_putf i32_9
theorem i32_12 : insAt 32 12 = some (.aload 0, 13) := by decide +kernel
theorem r32_12 {E : aEnv} {c : Nat} {ah : aHp} {st : List Value} {Q : Option Value → aHp → Prop} {a1 a2 a3 a4 a5 a6 : Option Value} {x : Nat} : WP E c 32 12 [some (.ref x), a1, a2, a3, a4, a5, a6] (st) ah Q = WP E c 32 13 [some (.ref x), a1, a2, a3, a4, a5, a6] (.ref x :: st) ah Q := wp_s i32_12 rfl rfl rfl rfl
theorem i32_13 : insAt 32 13 = some (.iconst 20, 15) := by decide +kernel
theorem r32_13 {E : aEnv} {c : Nat} {ah : aHp} {st : List Value} {Q : Option Value → aHp → Prop} {a0 a1 a2 a3 a4 a5 a6 : Option Value} : WP E c 32 13 [a0, a1, a2, a3, a4, a5, a6] (st) ah Q = WP E c 32 15 [a0, a1, a2, a3, a4, a5, a6] (.int (20) :: st) ah Q := wp_s i32_13 rfl rfl rfl rfl
theorem i32_15 : insAt 32 15 = some (.newarray .int, 17) := by decide +kernel
theorem r32_15 {E : aEnv} {c : Nat} {ah : aHp} {st : List Value} {Q : Option Value → aHp → Prop} {a0 a1 a2 a3 a4 a5 a6 : Option Value} {x : Int32} : WP E c 32 15 [a0, a1, a2, a3, a4, a5, a6] (.int x :: st) ah Q = WPo (nR E ah 0 (.int x :: st)) (fun q9 => WP E c 32 17 [a0, a1, a2, a3, a4, a5, a6] q9.1 q9.2 Q) := wp_hw i32_15 rfl rfl rfl rfl rfl rfl rfl rfl
theorem i32_17 : insAt 32 17 = some (.putfield 2092, 20) := by decide +kernel
theorem r32_17 {E : aEnv} {c : Nat} {ah : aHp} {st : List Value} {Q : Option Value → aHp → Prop} {a0 a1 a2 a3 a4 a5 a6 : Option Value} {a : Nat} {v : Value} : WP E c 32 17 [a0, a1, a2, a3, a4, a5, a6] (v :: .ref a :: st) ah Q = WPo (oPF (hg E ah a) 2092 v) (fun e => WP E c 32 20 [a0, a1, a2, a3, a4, a5, a6] st (hs E ah a e) Q) := wp_putf i32_17
theorem i32_20 : insAt 32 20 = some (.aload 0, 21) := by decide +kernel
theorem r32_20 {E : aEnv} {c : Nat} {ah : aHp} {st : List Value} {Q : Option Value → aHp → Prop} {a1 a2 a3 a4 a5 a6 : Option Value} {x : Nat} : WP E c 32 20 [some (.ref x), a1, a2, a3, a4, a5, a6] (st) ah Q = WP E c 32 21 [some (.ref x), a1, a2, a3, a4, a5, a6] (.ref x :: st) ah Q := wp_s i32_20 rfl rfl rfl rfl
theorem i32_21 : insAt 32 21 = some (.iconst 20, 23) := by decide +kernel
theorem r32_21 {E : aEnv} {c : Nat} {ah : aHp} {st : List Value} {Q : Option Value → aHp → Prop} {a0 a1 a2 a3 a4 a5 a6 : Option Value} : WP E c 32 21 [a0, a1, a2, a3, a4, a5, a6] (st) ah Q = WP E c 32 23 [a0, a1, a2, a3, a4, a5, a6] (.int (20) :: st) ah Q := wp_s i32_21 rfl rfl rfl rfl
theorem i32_23 : insAt 32 23 = some (.newarray .int, 25) := by decide +kernel
theorem r32_23 {E : aEnv} {c : Nat} {ah : aHp} {st : List Value} {Q : Option Value → aHp → Prop} {a0 a1 a2 a3 a4 a5 a6 : Option Value} {x : Int32} : WP E c 32 23 [a0, a1, a2, a3, a4, a5, a6] (.int x :: st) ah Q = WPo (nR E ah 0 (.int x :: st)) (fun q9 => WP E c 32 25 [a0, a1, a2, a3, a4, a5, a6] q9.1 q9.2 Q) := wp_hw i32_23 rfl rfl rfl rfl rfl rfl rfl rfl
theorem i32_25 : insAt 32 25 = some (.putfield 2102, 28) := by decide +kernel
theorem r32_25 {E : aEnv} {c : Nat} {ah : aHp} {st : List Value} {Q : Option Value → aHp → Prop} {a0 a1 a2 a3 a4 a5 a6 : Option Value} {a : Nat} {v : Value} : WP E c 32 25 [a0, a1, a2, a3, a4, a5, a6] (v :: .ref a :: st) ah Q = WPo (oPF (hg E ah a) 2102 v) (fun e => WP E c 32 28 [a0, a1, a2, a3, a4, a5, a6] st (hs E ah a e) Q) := wp_putf i32_25
theorem i32_28 : insAt 32 28 = some (.aload 0, 29) := by decide +kernel
theorem r32_28 {E : aEnv} {c : Nat} {ah : aHp} {st : List Value} {Q : Option Value → aHp → Prop} {a1 a2 a3 a4 a5 a6 : Option Value} {x : Nat} : WP E c 32 28 [some (.ref x), a1, a2, a3, a4, a5, a6] (st) ah Q = WP E c 32 29 [some (.ref x), a1, a2, a3, a4, a5, a6] (.ref x :: st) ah Q := wp_s i32_28 rfl rfl rfl rfl
theorem i32_29 : insAt 32 29 = some (.iconst 20, 31) := by decide +kernel
theorem r32_29 {E : aEnv} {c : Nat} {ah : aHp} {st : List Value} {Q : Option Value → aHp → Prop} {a0 a1 a2 a3 a4 a5 a6 : Option Value} : WP E c 32 29 [a0, a1, a2, a3, a4, a5, a6] (st) ah Q = WP E c 32 31 [a0, a1, a2, a3, a4, a5, a6] (.int (20) :: st) ah Q := wp_s i32_29 rfl rfl rfl rfl
theorem i32_31 : insAt 32 31 = some (.newarray .int, 33) := by decide +kernel
theorem r32_31 {E : aEnv} {c : Nat} {ah : aHp} {st : List Value} {Q : Option Value → aHp → Prop} {a0 a1 a2 a3 a4 a5 a6 : Option Value} {x : Int32} : WP E c 32 31 [a0, a1, a2, a3, a4, a5, a6] (.int x :: st) ah Q = WPo (nR E ah 0 (.int x :: st)) (fun q9 => WP E c 32 33 [a0, a1, a2, a3, a4, a5, a6] q9.1 q9.2 Q) := wp_hw i32_31 rfl rfl rfl rfl rfl rfl rfl rfl
theorem i32_33 : insAt 32 33 = some (.putfield 2112, 36) := by decide +kernel
theorem r32_33 {E : aEnv} {c : Nat} {ah : aHp} {st : List Value} {Q : Option Value → aHp → Prop} {a0 a1 a2 a3 a4 a5 a6 : Option Value} {a : Nat} {v : Value} : WP E c 32 33 [a0, a1, a2, a3, a4, a5, a6] (v :: .ref a :: st) ah Q = WPo (oPF (hg E ah a) 2112 v) (fun e => WP E c 32 36 [a0, a1, a2, a3, a4, a5, a6] st (hs E ah a e) Q) := wp_putf i32_33
theorem i32_36 : insAt 32 36 = some (.aload 0, 37) := by decide +kernel
theorem r32_36 {E : aEnv} {c : Nat} {ah : aHp} {st : List Value} {Q : Option Value → aHp → Prop} {a1 a2 a3 a4 a5 a6 : Option Value} {x : Nat} : WP E c 32 36 [some (.ref x), a1, a2, a3, a4, a5, a6] (st) ah Q = WP E c 32 37 [some (.ref x), a1, a2, a3, a4, a5, a6] (.ref x :: st) ah Q := wp_s i32_36 rfl rfl rfl rfl
theorem i32_37 : insAt 32 37 = some (.iconst 20, 39) := by decide +kernel
theorem r32_37 {E : aEnv} {c : Nat} {ah : aHp} {st : List Value} {Q : Option Value → aHp → Prop} {a0 a1 a2 a3 a4 a5 a6 : Option Value} : WP E c 32 37 [a0, a1, a2, a3, a4, a5, a6] (st) ah Q = WP E c 32 39 [a0, a1, a2, a3, a4, a5, a6] (.int (20) :: st) ah Q := wp_s i32_37 rfl rfl rfl rfl
theorem i32_39 : insAt 32 39 = some (.newarray .int, 41) := by decide +kernel
theorem r32_39 {E : aEnv} {c : Nat} {ah : aHp} {st : List Value} {Q : Option Value → aHp → Prop} {a0 a1 a2 a3 a4 a5 a6 : Option Value} {x : Int32} : WP E c 32 39 [a0, a1, a2, a3, a4, a5, a6] (.int x :: st) ah Q = WPo (nR E ah 0 (.int x :: st)) (fun q9 => WP E c 32 41 [a0, a1, a2, a3, a4, a5, a6] q9.1 q9.2 Q) := wp_hw i32_39 rfl rfl rfl rfl rfl rfl rfl rfl
theorem i32_41 : insAt 32 41 = some (.putfield 2122, 44) := by decide +kernel
theorem r32_41 {E : aEnv} {c : Nat} {ah : aHp} {st : List Value} {Q : Option Value → aHp → Prop} {a0 a1 a2 a3 a4 a5 a6 : Option Value} {a : Nat} {v : Value} : WP E c 32 41 [a0, a1, a2, a3, a4, a5, a6] (v :: .ref a :: st) ah Q = WPo (oPF (hg E ah a) 2122 v) (fun e => WP E c 32 44 [a0, a1, a2, a3, a4, a5, a6] st (hs E ah a e) Q) := wp_putf i32_41
theorem i32_44 : insAt 32 44 = some (.aload 0, 45) := by decide +kernel
theorem r32_44 {E : aEnv} {c : Nat} {ah : aHp} {st : List Value} {Q : Option Value → aHp → Prop} {a1 a2 a3 a4 a5 a6 : Option Value} {x : Nat} : WP E c 32 44 [some (.ref x), a1, a2, a3, a4, a5, a6] (st) ah Q = WP E c 32 45 [some (.ref x), a1, a2, a3, a4, a5, a6] (.ref x :: st) ah Q := wp_s i32_44 rfl rfl rfl rfl
theorem i32_45 : insAt 32 45 = some (.iconst 2, 46) := by decide +kernel
theorem r32_45 {E : aEnv} {c : Nat} {ah : aHp} {st : List Value} {Q : Option Value → aHp → Prop} {a0 a1 a2 a3 a4 a5 a6 : Option Value} : WP E c 32 45 [a0, a1, a2, a3, a4, a5, a6] (st) ah Q = WP E c 32 46 [a0, a1, a2, a3, a4, a5, a6] (.int (2) :: st) ah Q := wp_s i32_45 rfl rfl rfl rfl
theorem i32_46 : insAt 32 46 = some (.iconst 7, 48) := by decide +kernel
theorem r32_46 {E : aEnv} {c : Nat} {ah : aHp} {st : List Value} {Q : Option Value → aHp → Prop} {a0 a1 a2 a3 a4 a5 a6 : Option Value} : WP E c 32 46 [a0, a1, a2, a3, a4, a5, a6] (st) ah Q = WP E c 32 48 [a0, a1, a2, a3, a4, a5, a6] (.int (7) :: st) ah Q := wp_s i32_46 rfl rfl rfl rfl
theorem i32_48 : insAt 32 48 = some (.iload 1, 49) := by decide +kernel
theorem r32_48 {E : aEnv} {c : Nat} {ah : aHp} {st : List Value} {Q : Option Value → aHp → Prop} {a0 a2 a3 a4 a5 a6 : Option Value} {x : Int32} : WP E c 32 48 [a0, some (.int x), a2, a3, a4, a5, a6] (st) ah Q = WP E c 32 49 [a0, some (.int x), a2, a3, a4, a5, a6] (.int x :: st) ah Q := wp_s i32_48 rfl rfl rfl rfl
theorem i32_49 : insAt 32 49 = some (.invokestatic 294, 52) := by decide +kernel
theorem r32_49 {E : aEnv} {c : Nat} {ah ah1 : aHp} {r : Option Value} {st : List Value} {Q : Option Value → aHp → Prop} {a0 a1 a2 a3 a4 a5 a6 : Option Value} {p0 : Int32} {p1 : Int32} (h : EV E c 294 [.int p0, .int p1] ah r ah1) (h3 : wds st ≤ 8) : WP E (c + 1) 32 49 [a0, a1, a2, a3, a4, a5, a6] (.int p1 :: .int p0 :: st) ah Q = WP E (c + 1) 32 52 [a0, a1, a2, a3, a4, a5, a6] (r.toList ++ st) ah1 Q := wp_call (As := [.int p0, .int p1]) i32_49 (fun _ => rfl) rfl mr294.1 rfl h3 (by rw [mr294.2.1]; exact Nat.le_of_ble_eq_true rfl) h
theorem i32_52 : insAt 32 52 = some (.invokestatic 292, 55) := by decide +kernel
theorem r32_52 {E : aEnv} {c : Nat} {ah ah1 : aHp} {r : Option Value} {st : List Value} {Q : Option Value → aHp → Prop} {a0 a1 a2 a3 a4 a5 a6 : Option Value} {p0 : Int32} {p1 : Int32} (h : EV E c 292 [.int p0, .int p1] ah r ah1) (h3 : wds st ≤ 8) : WP E (c + 1) 32 52 [a0, a1, a2, a3, a4, a5, a6] (.int p1 :: .int p0 :: st) ah Q = WP E (c + 1) 32 55 [a0, a1, a2, a3, a4, a5, a6] (r.toList ++ st) ah1 Q := wp_call (As := [.int p0, .int p1]) i32_52 (fun _ => rfl) rfl mr292.1 rfl h3 (by rw [mr292.2.1]; exact Nat.le_of_ble_eq_true rfl) h
theorem i32_55 : insAt 32 55 = some (.putfield 2000, 58) := by decide +kernel
theorem r32_55 {E : aEnv} {c : Nat} {ah : aHp} {st : List Value} {Q : Option Value → aHp → Prop} {a0 a1 a2 a3 a4 a5 a6 : Option Value} {a : Nat} {v : Value} : WP E c 32 55 [a0, a1, a2, a3, a4, a5, a6] (v :: .ref a :: st) ah Q = WPo (oPF (hg E ah a) 2000 v) (fun e => WP E c 32 58 [a0, a1, a2, a3, a4, a5, a6] st (hs E ah a e) Q) := wp_putf i32_55
theorem i32_58 : insAt 32 58 = some (.aload 0, 59) := by decide +kernel
theorem r32_58 {E : aEnv} {c : Nat} {ah : aHp} {st : List Value} {Q : Option Value → aHp → Prop} {a1 a2 a3 a4 a5 a6 : Option Value} {x : Nat} : WP E c 32 58 [some (.ref x), a1, a2, a3, a4, a5, a6] (st) ah Q = WP E c 32 59 [some (.ref x), a1, a2, a3, a4, a5, a6] (.ref x :: st) ah Q := wp_s i32_58 rfl rfl rfl rfl
theorem i32_59 : insAt 32 59 = some (.iconst 1, 60) := by decide +kernel
theorem r32_59 {E : aEnv} {c : Nat} {ah : aHp} {st : List Value} {Q : Option Value → aHp → Prop} {a0 a1 a2 a3 a4 a5 a6 : Option Value} : WP E c 32 59 [a0, a1, a2, a3, a4, a5, a6] (st) ah Q = WP E c 32 60 [a0, a1, a2, a3, a4, a5, a6] (.int (1) :: st) ah Q := wp_s i32_59 rfl rfl rfl rfl
theorem i32_60 : insAt 32 60 = some (.iconst 12, 62) := by decide +kernel
theorem r32_60 {E : aEnv} {c : Nat} {ah : aHp} {st : List Value} {Q : Option Value → aHp → Prop} {a0 a1 a2 a3 a4 a5 a6 : Option Value} : WP E c 32 60 [a0, a1, a2, a3, a4, a5, a6] (st) ah Q = WP E c 32 62 [a0, a1, a2, a3, a4, a5, a6] (.int (12) :: st) ah Q := wp_s i32_60 rfl rfl rfl rfl
theorem i32_62 : insAt 32 62 = some (.iload 2, 63) := by decide +kernel
theorem r32_62 {E : aEnv} {c : Nat} {ah : aHp} {st : List Value} {Q : Option Value → aHp → Prop} {a0 a1 a3 a4 a5 a6 : Option Value} {x : Int32} : WP E c 32 62 [a0, a1, some (.int x), a3, a4, a5, a6] (st) ah Q = WP E c 32 63 [a0, a1, some (.int x), a3, a4, a5, a6] (.int x :: st) ah Q := wp_s i32_62 rfl rfl rfl rfl
theorem i32_63 : insAt 32 63 = some (.invokestatic 294, 66) := by decide +kernel
theorem r32_63 {E : aEnv} {c : Nat} {ah ah1 : aHp} {r : Option Value} {st : List Value} {Q : Option Value → aHp → Prop} {a0 a1 a2 a3 a4 a5 a6 : Option Value} {p0 : Int32} {p1 : Int32} (h : EV E c 294 [.int p0, .int p1] ah r ah1) (h3 : wds st ≤ 8) : WP E (c + 1) 32 63 [a0, a1, a2, a3, a4, a5, a6] (.int p1 :: .int p0 :: st) ah Q = WP E (c + 1) 32 66 [a0, a1, a2, a3, a4, a5, a6] (r.toList ++ st) ah1 Q := wp_call (As := [.int p0, .int p1]) i32_63 (fun _ => rfl) rfl mr294.1 rfl h3 (by rw [mr294.2.1]; exact Nat.le_of_ble_eq_true rfl) h
theorem i32_66 : insAt 32 66 = some (.invokestatic 292, 69) := by decide +kernel
theorem r32_66 {E : aEnv} {c : Nat} {ah ah1 : aHp} {r : Option Value} {st : List Value} {Q : Option Value → aHp → Prop} {a0 a1 a2 a3 a4 a5 a6 : Option Value} {p0 : Int32} {p1 : Int32} (h : EV E c 292 [.int p0, .int p1] ah r ah1) (h3 : wds st ≤ 8) : WP E (c + 1) 32 66 [a0, a1, a2, a3, a4, a5, a6] (.int p1 :: .int p0 :: st) ah Q = WP E (c + 1) 32 69 [a0, a1, a2, a3, a4, a5, a6] (r.toList ++ st) ah1 Q := wp_call (As := [.int p0, .int p1]) i32_66 (fun _ => rfl) rfl mr292.1 rfl h3 (by rw [mr292.2.1]; exact Nat.le_of_ble_eq_true rfl) h
theorem i32_69 : insAt 32 69 = some (.putfield 2010, 72) := by decide +kernel
theorem r32_69 {E : aEnv} {c : Nat} {ah : aHp} {st : List Value} {Q : Option Value → aHp → Prop} {a0 a1 a2 a3 a4 a5 a6 : Option Value} {a : Nat} {v : Value} : WP E c 32 69 [a0, a1, a2, a3, a4, a5, a6] (v :: .ref a :: st) ah Q = WPo (oPF (hg E ah a) 2010 v) (fun e => WP E c 32 72 [a0, a1, a2, a3, a4, a5, a6] st (hs E ah a e) Q) := wp_putf i32_69
theorem i32_72 : insAt 32 72 = some (.aload 0, 73) := by decide +kernel
theorem r32_72 {E : aEnv} {c : Nat} {ah : aHp} {st : List Value} {Q : Option Value → aHp → Prop} {a1 a2 a3 a4 a5 a6 : Option Value} {x : Nat} : WP E c 32 72 [some (.ref x), a1, a2, a3, a4, a5, a6] (st) ah Q = WP E c 32 73 [some (.ref x), a1, a2, a3, a4, a5, a6] (.ref x :: st) ah Q := wp_s i32_72 rfl rfl rfl rfl
theorem i32_73 : insAt 32 73 = some (.aload 0, 74) := by decide +kernel
theorem r32_73 {E : aEnv} {c : Nat} {ah : aHp} {st : List Value} {Q : Option Value → aHp → Prop} {a1 a2 a3 a4 a5 a6 : Option Value} {x : Nat} : WP E c 32 73 [some (.ref x), a1, a2, a3, a4, a5, a6] (st) ah Q = WP E c 32 74 [some (.ref x), a1, a2, a3, a4, a5, a6] (.ref x :: st) ah Q := wp_s i32_73 rfl rfl rfl rfl
theorem i32_74 : insAt 32 74 = some (.getfield 2010, 77) := by decide +kernel
theorem r32_74 {E : aEnv} {c : Nat} {ah : aHp} {st : List Value} {Q : Option Value → aHp → Prop} {a0 a1 a2 a3 a4 a5 a6 : Option Value} {a : Nat} : WP E c 32 74 [a0, a1, a2, a3, a4, a5, a6] (.ref a :: st) ah Q = WPo (oGF (hg E ah a) 2 1) (fun v => WP E c 32 77 [a0, a1, a2, a3, a4, a5, a6] (v :: st) ah Q) := wp_getf i32_74
theorem i32_77 : insAt 32 77 = some (.newarray .int, 79) := by decide +kernel
theorem r32_77 {E : aEnv} {c : Nat} {ah : aHp} {st : List Value} {Q : Option Value → aHp → Prop} {a0 a1 a2 a3 a4 a5 a6 : Option Value} {x : Int32} : WP E c 32 77 [a0, a1, a2, a3, a4, a5, a6] (.int x :: st) ah Q = WPo (nR E ah 0 (.int x :: st)) (fun q9 => WP E c 32 79 [a0, a1, a2, a3, a4, a5, a6] q9.1 q9.2 Q) := wp_hw i32_77 rfl rfl rfl rfl rfl rfl rfl rfl
theorem i32_79 : insAt 32 79 = some (.putfield 2022, 82) := by decide +kernel
theorem r32_79 {E : aEnv} {c : Nat} {ah : aHp} {st : List Value} {Q : Option Value → aHp → Prop} {a0 a1 a2 a3 a4 a5 a6 : Option Value} {a : Nat} {v : Value} : WP E c 32 79 [a0, a1, a2, a3, a4, a5, a6] (v :: .ref a :: st) ah Q = WPo (oPF (hg E ah a) 2022 v) (fun e => WP E c 32 82 [a0, a1, a2, a3, a4, a5, a6] st (hs E ah a e) Q) := wp_putf i32_79
theorem i32_82 : insAt 32 82 = some (.aload 0, 83) := by decide +kernel
theorem r32_82 {E : aEnv} {c : Nat} {ah : aHp} {st : List Value} {Q : Option Value → aHp → Prop} {a1 a2 a3 a4 a5 a6 : Option Value} {x : Nat} : WP E c 32 82 [some (.ref x), a1, a2, a3, a4, a5, a6] (st) ah Q = WP E c 32 83 [some (.ref x), a1, a2, a3, a4, a5, a6] (.ref x :: st) ah Q := wp_s i32_82 rfl rfl rfl rfl
theorem i32_83 : insAt 32 83 = some (.aload 0, 84) := by decide +kernel
theorem r32_83 {E : aEnv} {c : Nat} {ah : aHp} {st : List Value} {Q : Option Value → aHp → Prop} {a1 a2 a3 a4 a5 a6 : Option Value} {x : Nat} : WP E c 32 83 [some (.ref x), a1, a2, a3, a4, a5, a6] (st) ah Q = WP E c 32 84 [some (.ref x), a1, a2, a3, a4, a5, a6] (.ref x :: st) ah Q := wp_s i32_83 rfl rfl rfl rfl
theorem i32_84 : insAt 32 84 = some (.getfield 2010, 87) := by decide +kernel
theorem r32_84 {E : aEnv} {c : Nat} {ah : aHp} {st : List Value} {Q : Option Value → aHp → Prop} {a0 a1 a2 a3 a4 a5 a6 : Option Value} {a : Nat} : WP E c 32 84 [a0, a1, a2, a3, a4, a5, a6] (.ref a :: st) ah Q = WPo (oGF (hg E ah a) 2 1) (fun v => WP E c 32 87 [a0, a1, a2, a3, a4, a5, a6] (v :: st) ah Q) := wp_getf i32_84
theorem i32_87 : insAt 32 87 = some (.newarray .long, 89) := by decide +kernel
theorem r32_87 {E : aEnv} {c : Nat} {ah : aHp} {st : List Value} {Q : Option Value → aHp → Prop} {a0 a1 a2 a3 a4 a5 a6 : Option Value} {x : Int32} : WP E c 32 87 [a0, a1, a2, a3, a4, a5, a6] (.int x :: st) ah Q = WPo (nR E ah 1 (.int x :: st)) (fun q9 => WP E c 32 89 [a0, a1, a2, a3, a4, a5, a6] q9.1 q9.2 Q) := wp_hw i32_87 rfl rfl rfl rfl rfl rfl rfl rfl
theorem i32_89 : insAt 32 89 = some (.putfield 2032, 92) := by decide +kernel
theorem r32_89 {E : aEnv} {c : Nat} {ah : aHp} {st : List Value} {Q : Option Value → aHp → Prop} {a0 a1 a2 a3 a4 a5 a6 : Option Value} {a : Nat} {v : Value} : WP E c 32 89 [a0, a1, a2, a3, a4, a5, a6] (v :: .ref a :: st) ah Q = WPo (oPF (hg E ah a) 2032 v) (fun e => WP E c 32 92 [a0, a1, a2, a3, a4, a5, a6] st (hs E ah a e) Q) := wp_putf i32_89
theorem i32_92 : insAt 32 92 = some (.aload 0, 93) := by decide +kernel
theorem r32_92 {E : aEnv} {c : Nat} {ah : aHp} {st : List Value} {Q : Option Value → aHp → Prop} {a1 a2 a3 a4 a5 a6 : Option Value} {x : Nat} : WP E c 32 92 [some (.ref x), a1, a2, a3, a4, a5, a6] (st) ah Q = WP E c 32 93 [some (.ref x), a1, a2, a3, a4, a5, a6] (.ref x :: st) ah Q := wp_s i32_92 rfl rfl rfl rfl
theorem i32_93 : insAt 32 93 = some (.aload 0, 94) := by decide +kernel
theorem r32_93 {E : aEnv} {c : Nat} {ah : aHp} {st : List Value} {Q : Option Value → aHp → Prop} {a1 a2 a3 a4 a5 a6 : Option Value} {x : Nat} : WP E c 32 93 [some (.ref x), a1, a2, a3, a4, a5, a6] (st) ah Q = WP E c 32 94 [some (.ref x), a1, a2, a3, a4, a5, a6] (.ref x :: st) ah Q := wp_s i32_93 rfl rfl rfl rfl
theorem i32_94 : insAt 32 94 = some (.getfield 2000, 97) := by decide +kernel
theorem r32_94 {E : aEnv} {c : Nat} {ah : aHp} {st : List Value} {Q : Option Value → aHp → Prop} {a0 a1 a2 a3 a4 a5 a6 : Option Value} {a : Nat} : WP E c 32 94 [a0, a1, a2, a3, a4, a5, a6] (.ref a :: st) ah Q = WPo (oGF (hg E ah a) 2 0) (fun v => WP E c 32 97 [a0, a1, a2, a3, a4, a5, a6] (v :: st) ah Q) := wp_getf i32_94
theorem i32_97 : insAt 32 97 = some (.aload 0, 98) := by decide +kernel
theorem r32_97 {E : aEnv} {c : Nat} {ah : aHp} {st : List Value} {Q : Option Value → aHp → Prop} {a1 a2 a3 a4 a5 a6 : Option Value} {x : Nat} : WP E c 32 97 [some (.ref x), a1, a2, a3, a4, a5, a6] (st) ah Q = WP E c 32 98 [some (.ref x), a1, a2, a3, a4, a5, a6] (.ref x :: st) ah Q := wp_s i32_97 rfl rfl rfl rfl
theorem i32_98 : insAt 32 98 = some (.getfield 2010, 101) := by decide +kernel
theorem r32_98 {E : aEnv} {c : Nat} {ah : aHp} {st : List Value} {Q : Option Value → aHp → Prop} {a0 a1 a2 a3 a4 a5 a6 : Option Value} {a : Nat} : WP E c 32 98 [a0, a1, a2, a3, a4, a5, a6] (.ref a :: st) ah Q = WPo (oGF (hg E ah a) 2 1) (fun v => WP E c 32 101 [a0, a1, a2, a3, a4, a5, a6] (v :: st) ah Q) := wp_getf i32_98
theorem i32_101 : insAt 32 101 = some (.imul, 102) := by decide +kernel
theorem r32_101 {E : aEnv} {c : Nat} {ah : aHp} {st : List Value} {Q : Option Value → aHp → Prop} {a0 a1 a2 a3 a4 a5 a6 : Option Value} {x y : Int32} : WP E c 32 101 [a0, a1, a2, a3, a4, a5, a6] (.int y :: .int x :: st) ah Q = WP E c 32 102 [a0, a1, a2, a3, a4, a5, a6] (.int (x * y) :: st) ah Q := wp_s i32_101 rfl rfl rfl rfl
theorem i32_102 : insAt 32 102 = some (.newarray .int, 104) := by decide +kernel
theorem r32_102 {E : aEnv} {c : Nat} {ah : aHp} {st : List Value} {Q : Option Value → aHp → Prop} {a0 a1 a2 a3 a4 a5 a6 : Option Value} {x : Int32} : WP E c 32 102 [a0, a1, a2, a3, a4, a5, a6] (.int x :: st) ah Q = WPo (nR E ah 0 (.int x :: st)) (fun q9 => WP E c 32 104 [a0, a1, a2, a3, a4, a5, a6] q9.1 q9.2 Q) := wp_hw i32_102 rfl rfl rfl rfl rfl rfl rfl rfl
theorem i32_104 : insAt 32 104 = some (.putfield 2052, 107) := by decide +kernel
theorem r32_104 {E : aEnv} {c : Nat} {ah : aHp} {st : List Value} {Q : Option Value → aHp → Prop} {a0 a1 a2 a3 a4 a5 a6 : Option Value} {a : Nat} {v : Value} : WP E c 32 104 [a0, a1, a2, a3, a4, a5, a6] (v :: .ref a :: st) ah Q = WPo (oPF (hg E ah a) 2052 v) (fun e => WP E c 32 107 [a0, a1, a2, a3, a4, a5, a6] st (hs E ah a e) Q) := wp_putf i32_104
theorem i32_107 : insAt 32 107 = some (.aload 0, 108) := by decide +kernel
theorem r32_107 {E : aEnv} {c : Nat} {ah : aHp} {st : List Value} {Q : Option Value → aHp → Prop} {a1 a2 a3 a4 a5 a6 : Option Value} {x : Nat} : WP E c 32 107 [some (.ref x), a1, a2, a3, a4, a5, a6] (st) ah Q = WP E c 32 108 [some (.ref x), a1, a2, a3, a4, a5, a6] (.ref x :: st) ah Q := wp_s i32_107 rfl rfl rfl rfl
theorem i32_108 : insAt 32 108 = some (.aload 0, 109) := by decide +kernel
theorem r32_108 {E : aEnv} {c : Nat} {ah : aHp} {st : List Value} {Q : Option Value → aHp → Prop} {a1 a2 a3 a4 a5 a6 : Option Value} {x : Nat} : WP E c 32 108 [some (.ref x), a1, a2, a3, a4, a5, a6] (st) ah Q = WP E c 32 109 [some (.ref x), a1, a2, a3, a4, a5, a6] (.ref x :: st) ah Q := wp_s i32_108 rfl rfl rfl rfl
theorem i32_109 : insAt 32 109 = some (.getfield 2000, 112) := by decide +kernel
theorem r32_109 {E : aEnv} {c : Nat} {ah : aHp} {st : List Value} {Q : Option Value → aHp → Prop} {a0 a1 a2 a3 a4 a5 a6 : Option Value} {a : Nat} : WP E c 32 109 [a0, a1, a2, a3, a4, a5, a6] (.ref a :: st) ah Q = WPo (oGF (hg E ah a) 2 0) (fun v => WP E c 32 112 [a0, a1, a2, a3, a4, a5, a6] (v :: st) ah Q) := wp_getf i32_109
theorem i32_112 : insAt 32 112 = some (.aload 0, 113) := by decide +kernel
theorem r32_112 {E : aEnv} {c : Nat} {ah : aHp} {st : List Value} {Q : Option Value → aHp → Prop} {a1 a2 a3 a4 a5 a6 : Option Value} {x : Nat} : WP E c 32 112 [some (.ref x), a1, a2, a3, a4, a5, a6] (st) ah Q = WP E c 32 113 [some (.ref x), a1, a2, a3, a4, a5, a6] (.ref x :: st) ah Q := wp_s i32_112 rfl rfl rfl rfl
theorem i32_113 : insAt 32 113 = some (.getfield 2010, 116) := by decide +kernel
theorem r32_113 {E : aEnv} {c : Nat} {ah : aHp} {st : List Value} {Q : Option Value → aHp → Prop} {a0 a1 a2 a3 a4 a5 a6 : Option Value} {a : Nat} : WP E c 32 113 [a0, a1, a2, a3, a4, a5, a6] (.ref a :: st) ah Q = WPo (oGF (hg E ah a) 2 1) (fun v => WP E c 32 116 [a0, a1, a2, a3, a4, a5, a6] (v :: st) ah Q) := wp_getf i32_113
theorem i32_116 : insAt 32 116 = some (.imul, 117) := by decide +kernel
theorem r32_116 {E : aEnv} {c : Nat} {ah : aHp} {st : List Value} {Q : Option Value → aHp → Prop} {a0 a1 a2 a3 a4 a5 a6 : Option Value} {x y : Int32} : WP E c 32 116 [a0, a1, a2, a3, a4, a5, a6] (.int y :: .int x :: st) ah Q = WP E c 32 117 [a0, a1, a2, a3, a4, a5, a6] (.int (x * y) :: st) ah Q := wp_s i32_116 rfl rfl rfl rfl
theorem i32_117 : insAt 32 117 = some (.newarray .int, 119) := by decide +kernel
theorem r32_117 {E : aEnv} {c : Nat} {ah : aHp} {st : List Value} {Q : Option Value → aHp → Prop} {a0 a1 a2 a3 a4 a5 a6 : Option Value} {x : Int32} : WP E c 32 117 [a0, a1, a2, a3, a4, a5, a6] (.int x :: st) ah Q = WPo (nR E ah 0 (.int x :: st)) (fun q9 => WP E c 32 119 [a0, a1, a2, a3, a4, a5, a6] q9.1 q9.2 Q) := wp_hw i32_117 rfl rfl rfl rfl rfl rfl rfl rfl
theorem i32_119 : insAt 32 119 = some (.putfield 2062, 122) := by decide +kernel
theorem r32_119 {E : aEnv} {c : Nat} {ah : aHp} {st : List Value} {Q : Option Value → aHp → Prop} {a0 a1 a2 a3 a4 a5 a6 : Option Value} {a : Nat} {v : Value} : WP E c 32 119 [a0, a1, a2, a3, a4, a5, a6] (v :: .ref a :: st) ah Q = WPo (oPF (hg E ah a) 2062 v) (fun e => WP E c 32 122 [a0, a1, a2, a3, a4, a5, a6] st (hs E ah a e) Q) := wp_putf i32_119
theorem i32_122 : insAt 32 122 = some (.aload 0, 123) := by decide +kernel
theorem r32_122 {E : aEnv} {c : Nat} {ah : aHp} {st : List Value} {Q : Option Value → aHp → Prop} {a1 a2 a3 a4 a5 a6 : Option Value} {x : Nat} : WP E c 32 122 [some (.ref x), a1, a2, a3, a4, a5, a6] (st) ah Q = WP E c 32 123 [some (.ref x), a1, a2, a3, a4, a5, a6] (.ref x :: st) ah Q := wp_s i32_122 rfl rfl rfl rfl
theorem i32_123 : insAt 32 123 = some (.aload 0, 124) := by decide +kernel
theorem r32_123 {E : aEnv} {c : Nat} {ah : aHp} {st : List Value} {Q : Option Value → aHp → Prop} {a1 a2 a3 a4 a5 a6 : Option Value} {x : Nat} : WP E c 32 123 [some (.ref x), a1, a2, a3, a4, a5, a6] (st) ah Q = WP E c 32 124 [some (.ref x), a1, a2, a3, a4, a5, a6] (.ref x :: st) ah Q := wp_s i32_123 rfl rfl rfl rfl
theorem i32_124 : insAt 32 124 = some (.getfield 2010, 127) := by decide +kernel
theorem r32_124 {E : aEnv} {c : Nat} {ah : aHp} {st : List Value} {Q : Option Value → aHp → Prop} {a0 a1 a2 a3 a4 a5 a6 : Option Value} {a : Nat} : WP E c 32 124 [a0, a1, a2, a3, a4, a5, a6] (.ref a :: st) ah Q = WPo (oGF (hg E ah a) 2 1) (fun v => WP E c 32 127 [a0, a1, a2, a3, a4, a5, a6] (v :: st) ah Q) := wp_getf i32_124
theorem i32_127 : insAt 32 127 = some (.newarray .boolean, 129) := by decide +kernel
theorem r32_127 {E : aEnv} {c : Nat} {ah : aHp} {st : List Value} {Q : Option Value → aHp → Prop} {a0 a1 a2 a3 a4 a5 a6 : Option Value} {x : Int32} : WP E c 32 127 [a0, a1, a2, a3, a4, a5, a6] (.int x :: st) ah Q = WPo (nR E ah 3 (.int x :: st)) (fun q9 => WP E c 32 129 [a0, a1, a2, a3, a4, a5, a6] q9.1 q9.2 Q) := wp_hw i32_127 rfl rfl rfl rfl rfl rfl rfl rfl
theorem i32_129 : insAt 32 129 = some (.putfield 2072, 132) := by decide +kernel
theorem r32_129 {E : aEnv} {c : Nat} {ah : aHp} {st : List Value} {Q : Option Value → aHp → Prop} {a0 a1 a2 a3 a4 a5 a6 : Option Value} {a : Nat} {v : Value} : WP E c 32 129 [a0, a1, a2, a3, a4, a5, a6] (v :: .ref a :: st) ah Q = WPo (oPF (hg E ah a) 2072 v) (fun e => WP E c 32 132 [a0, a1, a2, a3, a4, a5, a6] st (hs E ah a e) Q) := wp_putf i32_129
theorem i32_132 : insAt 32 132 = some (.jsr_w 1, 133) := by decide +kernel
theorem r32_132 {E : aEnv} {c : Nat} {ah : aHp} {st : List Value} {Q : Option Value → aHp → Prop} {a0 a1 a2 a3 a4 a5 a6 : Option Value} : WP E c 32 132 [a0, a1, a2, a3, a4, a5, a6] (st) ah Q = WP E c 32 133 [a0, a1, a2, a3, a4, a5, a6] (.long (1) :: st) ah Q := wp_s i32_132 rfl rfl rfl rfl
theorem i32_133 : insAt 32 133 = some (.lstore 4, 135) := by decide +kernel
theorem r32_133 {E : aEnv} {c : Nat} {ah : aHp} {st : List Value} {Q : Option Value → aHp → Prop} {a0 a1 a2 a3 a4 a5 a6 : Option Value} {x : Int64} : WP E c 32 133 [a0, a1, a2, a3, a4, a5, a6] (.long x :: st) ah Q = WP E c 32 135 [a0, a1, a2, kil a3, some (.long x), none, a6] (st) ah Q := wp_s i32_133 rfl rfl rfl rfl
theorem i32_135 : insAt 32 135 = some (.iconst 0, 136) := by decide +kernel
theorem r32_135 {E : aEnv} {c : Nat} {ah : aHp} {st : List Value} {Q : Option Value → aHp → Prop} {a0 a1 a2 a3 a4 a5 a6 : Option Value} : WP E c 32 135 [a0, a1, a2, a3, a4, a5, a6] (st) ah Q = WP E c 32 136 [a0, a1, a2, a3, a4, a5, a6] (.int (0) :: st) ah Q := wp_s i32_135 rfl rfl rfl rfl
theorem i32_136 : insAt 32 136 = some (.istore 6, 138) := by decide +kernel
theorem r32_136 {E : aEnv} {c : Nat} {ah : aHp} {st : List Value} {Q : Option Value → aHp → Prop} {a0 a1 a2 a3 a4 a5 a6 : Option Value} {x : Int32} : WP E c 32 136 [a0, a1, a2, a3, a4, a5, a6] (.int x :: st) ah Q = WP E c 32 138 [a0, a1, a2, a3, a4, kil a5, some (.int x)] (st) ah Q := wp_s i32_136 rfl rfl rfl rfl
theorem i32_138 : insAt 32 138 = some (.iload 6, 140) := by decide +kernel
theorem r32_138 {E : aEnv} {c : Nat} {ah : aHp} {st : List Value} {Q : Option Value → aHp → Prop} {a0 a1 a2 a3 a4 a5 : Option Value} {x : Int32} : WP E c 32 138 [a0, a1, a2, a3, a4, a5, some (.int x)] (st) ah Q = WP E c 32 140 [a0, a1, a2, a3, a4, a5, some (.int x)] (.int x :: st) ah Q := wp_s i32_138 rfl rfl rfl rfl
theorem i32_140 : insAt 32 140 = some (.aload 0, 141) := by decide +kernel
theorem r32_140 {E : aEnv} {c : Nat} {ah : aHp} {st : List Value} {Q : Option Value → aHp → Prop} {a1 a2 a3 a4 a5 a6 : Option Value} {x : Nat} : WP E c 32 140 [some (.ref x), a1, a2, a3, a4, a5, a6] (st) ah Q = WP E c 32 141 [some (.ref x), a1, a2, a3, a4, a5, a6] (.ref x :: st) ah Q := wp_s i32_140 rfl rfl rfl rfl
theorem i32_141 : insAt 32 141 = some (.getfield 2010, 144) := by decide +kernel
theorem r32_141 {E : aEnv} {c : Nat} {ah : aHp} {st : List Value} {Q : Option Value → aHp → Prop} {a0 a1 a2 a3 a4 a5 a6 : Option Value} {a : Nat} : WP E c 32 141 [a0, a1, a2, a3, a4, a5, a6] (.ref a :: st) ah Q = WPo (oGF (hg E ah a) 2 1) (fun v => WP E c 32 144 [a0, a1, a2, a3, a4, a5, a6] (v :: st) ah Q) := wp_getf i32_141
theorem i32_144 : insAt 32 144 = some (.if_icmp .ge 195, 147) := by decide +kernel
theorem r32_144 {E : aEnv} {c : Nat} {ah : aHp} {st : List Value} {Q : Option Value → aHp → Prop} {a0 a1 a2 a3 a4 a5 a6 : Option Value} {x y : Int32} : WP E c 32 144 [a0, a1, a2, a3, a4, a5, a6] (.int y :: .int x :: st) ah Q = if y ≤ x then WP E c 32 195 [a0, a1, a2, a3, a4, a5, a6] st ah Q else WP E c 32 147 [a0, a1, a2, a3, a4, a5, a6] st ah Q := wp_j i32_144 rfl rfl rfl rfl
theorem i32_147 : insAt 32 147 = some (.aload 0, 148) := by decide +kernel
theorem r32_147 {E : aEnv} {c : Nat} {ah : aHp} {st : List Value} {Q : Option Value → aHp → Prop} {a1 a2 a3 a4 a5 a6 : Option Value} {x : Nat} : WP E c 32 147 [some (.ref x), a1, a2, a3, a4, a5, a6] (st) ah Q = WP E c 32 148 [some (.ref x), a1, a2, a3, a4, a5, a6] (.ref x :: st) ah Q := wp_s i32_147 rfl rfl rfl rfl
theorem i32_148 : insAt 32 148 = some (.getfield 2022, 151) := by decide +kernel
theorem r32_148 {E : aEnv} {c : Nat} {ah : aHp} {st : List Value} {Q : Option Value → aHp → Prop} {a0 a1 a2 a3 a4 a5 a6 : Option Value} {a : Nat} : WP E c 32 148 [a0, a1, a2, a3, a4, a5, a6] (.ref a :: st) ah Q = WPo (oGF (hg E ah a) 2 2) (fun v => WP E c 32 151 [a0, a1, a2, a3, a4, a5, a6] (v :: st) ah Q) := wp_getf i32_148
theorem i32_151 : insAt 32 151 = some (.iload 6, 153) := by decide +kernel
theorem r32_151 {E : aEnv} {c : Nat} {ah : aHp} {st : List Value} {Q : Option Value → aHp → Prop} {a0 a1 a2 a3 a4 a5 : Option Value} {x : Int32} : WP E c 32 151 [a0, a1, a2, a3, a4, a5, some (.int x)] (st) ah Q = WP E c 32 153 [a0, a1, a2, a3, a4, a5, some (.int x)] (.int x :: st) ah Q := wp_s i32_151 rfl rfl rfl rfl
theorem i32_153 : insAt 32 153 = some (.jsr_w 2, 156) := by decide +kernel
theorem r32_153 {E : aEnv} {c : Nat} {ah : aHp} {st : List Value} {Q : Option Value → aHp → Prop} {a0 a1 a2 a3 a4 a5 a6 : Option Value} : WP E c 32 153 [a0, a1, a2, a3, a4, a5, a6] (st) ah Q = WP E c 32 156 [a0, a1, a2, a3, a4, a5, a6] (.long (2) :: st) ah Q := wp_s i32_153 rfl rfl rfl rfl
theorem i32_156 : insAt 32 156 = some (.aload 3, 157) := by decide +kernel
theorem r32_156 {E : aEnv} {c : Nat} {ah : aHp} {st : List Value} {Q : Option Value → aHp → Prop} {a0 a1 a2 a4 a5 a6 : Option Value} {x : Nat} : WP E c 32 156 [a0, a1, a2, some (.ref x), a4, a5, a6] (st) ah Q = WP E c 32 157 [a0, a1, a2, some (.ref x), a4, a5, a6] (.ref x :: st) ah Q := wp_s i32_156 rfl rfl rfl rfl
theorem r32_156n {E : aEnv} {c : Nat} {ah : aHp} {st : List Value} {Q : Option Value → aHp → Prop} {a0 a1 a2 a4 a5 a6 : Option Value} : WP E c 32 156 [a0, a1, a2, some .null, a4, a5, a6] (st) ah Q = WP E c 32 157 [a0, a1, a2, some .null, a4, a5, a6] (.null :: st) ah Q := wp_s i32_156 rfl rfl rfl rfl
theorem i32_157 : insAt 32 157 = some (.iload 6, 159) := by decide +kernel
theorem r32_157 {E : aEnv} {c : Nat} {ah : aHp} {st : List Value} {Q : Option Value → aHp → Prop} {a0 a1 a2 a3 a4 a5 : Option Value} {x : Int32} : WP E c 32 157 [a0, a1, a2, a3, a4, a5, some (.int x)] (st) ah Q = WP E c 32 159 [a0, a1, a2, a3, a4, a5, some (.int x)] (.int x :: st) ah Q := wp_s i32_157 rfl rfl rfl rfl
theorem i32_159 : insAt 32 159 = some (.invokevirtual 139, 162) := by decide +kernel
theorem r32_159 {E : aEnv} {c : Nat} {ah ah1 : aHp} {r : Option Value} {st : List Value} {Q : Option Value → aHp → Prop} {a0 a1 a2 a3 a4 a5 a6 : Option Value} {p0 : Nat} {p1 : Int32} (h : EV E c 139 [.ref p0, .int p1] ah r ah1) (h2 : oCI (hg E ah p0) = 9) (h3 : wds st ≤ 8) : WP E (c + 1) 32 159 [a0, a1, a2, a3, a4, a5, a6] (.int p1 :: .ref p0 :: st) ah Q = WP E (c + 1) 32 162 [a0, a1, a2, a3, a4, a5, a6] (r.toList ++ st) ah1 Q := wp_call (As := [.ref p0, .int p1]) i32_159 (fun _ => rfl) rfl mr139.1 (rcv_1 h2 mr139.2.2 (by decide)) h3 (by rw [mr139.2.1]; exact Nat.le_of_ble_eq_true rfl) h
theorem i32_162 : insAt 32 162 = some (.invokestatic 293, 165) := by decide +kernel
theorem r32_162 {E : aEnv} {c : Nat} {ah ah1 : aHp} {r : Option Value} {st : List Value} {Q : Option Value → aHp → Prop} {a0 a1 a2 a3 a4 a5 a6 : Option Value} {p0 : Int64} {p1 : Int64} (h : EV E c 293 [.long p0, .long p1] ah r ah1) (h3 : wds st ≤ 8) : WP E (c + 1) 32 162 [a0, a1, a2, a3, a4, a5, a6] (.long p1 :: .long p0 :: st) ah Q = WP E (c + 1) 32 165 [a0, a1, a2, a3, a4, a5, a6] (r.toList ++ st) ah1 Q := wp_call (As := [.long p0, .long p1]) i32_162 (fun _ => rfl) rfl mr293.1 rfl h3 (by rw [mr293.2.1]; exact Nat.le_of_ble_eq_true rfl) h
theorem i32_165 : insAt 32 165 = some (.l2i, 166) := by decide +kernel
theorem r32_165 {E : aEnv} {c : Nat} {ah : aHp} {st : List Value} {Q : Option Value → aHp → Prop} {a0 a1 a2 a3 a4 a5 a6 : Option Value} {x : Int64} : WP E c 32 165 [a0, a1, a2, a3, a4, a5, a6] (.long x :: st) ah Q = WP E c 32 166 [a0, a1, a2, a3, a4, a5, a6] (.int x.toInt32 :: st) ah Q := wp_s i32_165 rfl rfl rfl rfl
theorem i32_166 : insAt 32 166 = some (.iastore, 167) := by decide +kernel
theorem r32_166 {E : aEnv} {c : Nat} {ah : aHp} {st : List Value} {Q : Option Value → aHp → Prop} {a0 a1 a2 a3 a4 a5 a6 : Option Value} {x : Int32} {i : Int32} {a : Nat} : WP E c 32 166 [a0, a1, a2, a3, a4, a5, a6] (.int x :: .int i :: .ref a :: st) ah Q = WPo (pI E ah (.int x :: .int i :: .ref a :: st)) (fun q9 => WP E c 32 167 [a0, a1, a2, a3, a4, a5, a6] q9.1 q9.2 Q) := wp_hw i32_166 rfl rfl rfl rfl rfl rfl rfl rfl
theorem i32_167 : insAt 32 167 = some (.aload 0, 168) := by decide +kernel
theorem r32_167 {E : aEnv} {c : Nat} {ah : aHp} {st : List Value} {Q : Option Value → aHp → Prop} {a1 a2 a3 a4 a5 a6 : Option Value} {x : Nat} : WP E c 32 167 [some (.ref x), a1, a2, a3, a4, a5, a6] (st) ah Q = WP E c 32 168 [some (.ref x), a1, a2, a3, a4, a5, a6] (.ref x :: st) ah Q := wp_s i32_167 rfl rfl rfl rfl
theorem i32_168 : insAt 32 168 = some (.getfield 2032, 171) := by decide +kernel
theorem r32_168 {E : aEnv} {c : Nat} {ah : aHp} {st : List Value} {Q : Option Value → aHp → Prop} {a0 a1 a2 a3 a4 a5 a6 : Option Value} {a : Nat} : WP E c 32 168 [a0, a1, a2, a3, a4, a5, a6] (.ref a :: st) ah Q = WPo (oGF (hg E ah a) 2 3) (fun v => WP E c 32 171 [a0, a1, a2, a3, a4, a5, a6] (v :: st) ah Q) := wp_getf i32_168
theorem i32_171 : insAt 32 171 = some (.iload 6, 173) := by decide +kernel
theorem r32_171 {E : aEnv} {c : Nat} {ah : aHp} {st : List Value} {Q : Option Value → aHp → Prop} {a0 a1 a2 a3 a4 a5 : Option Value} {x : Int32} : WP E c 32 171 [a0, a1, a2, a3, a4, a5, some (.int x)] (st) ah Q = WP E c 32 173 [a0, a1, a2, a3, a4, a5, some (.int x)] (.int x :: st) ah Q := wp_s i32_171 rfl rfl rfl rfl
theorem i32_173 : insAt 32 173 = some (.lload 4, 175) := by decide +kernel
theorem r32_173 {E : aEnv} {c : Nat} {ah : aHp} {st : List Value} {Q : Option Value → aHp → Prop} {a0 a1 a2 a3 a5 a6 : Option Value} {x : Int64} : WP E c 32 173 [a0, a1, a2, a3, some (.long x), a5, a6] (st) ah Q = WP E c 32 175 [a0, a1, a2, a3, some (.long x), a5, a6] (.long x :: st) ah Q := wp_s i32_173 rfl rfl rfl rfl
theorem i32_175 : insAt 32 175 = some (.lastore, 176) := by decide +kernel
theorem r32_175 {E : aEnv} {c : Nat} {ah : aHp} {st : List Value} {Q : Option Value → aHp → Prop} {a0 a1 a2 a3 a4 a5 a6 : Option Value} {x : Int64} {i : Int32} {a : Nat} : WP E c 32 175 [a0, a1, a2, a3, a4, a5, a6] (.long x :: .int i :: .ref a :: st) ah Q = WPo (pL E ah (.long x :: .int i :: .ref a :: st)) (fun q9 => WP E c 32 176 [a0, a1, a2, a3, a4, a5, a6] q9.1 q9.2 Q) := wp_hw i32_175 rfl rfl rfl rfl rfl rfl rfl rfl
theorem i32_176 : insAt 32 176 = some (.lload 4, 178) := by decide +kernel
theorem r32_176 {E : aEnv} {c : Nat} {ah : aHp} {st : List Value} {Q : Option Value → aHp → Prop} {a0 a1 a2 a3 a5 a6 : Option Value} {x : Int64} : WP E c 32 176 [a0, a1, a2, a3, some (.long x), a5, a6] (st) ah Q = WP E c 32 178 [a0, a1, a2, a3, some (.long x), a5, a6] (.long x :: st) ah Q := wp_s i32_176 rfl rfl rfl rfl
theorem i32_178 : insAt 32 178 = some (.aload 0, 179) := by decide +kernel
theorem r32_178 {E : aEnv} {c : Nat} {ah : aHp} {st : List Value} {Q : Option Value → aHp → Prop} {a1 a2 a3 a4 a5 a6 : Option Value} {x : Nat} : WP E c 32 178 [some (.ref x), a1, a2, a3, a4, a5, a6] (st) ah Q = WP E c 32 179 [some (.ref x), a1, a2, a3, a4, a5, a6] (.ref x :: st) ah Q := wp_s i32_178 rfl rfl rfl rfl
theorem i32_179 : insAt 32 179 = some (.getfield 2022, 182) := by decide +kernel
theorem r32_179 {E : aEnv} {c : Nat} {ah : aHp} {st : List Value} {Q : Option Value → aHp → Prop} {a0 a1 a2 a3 a4 a5 a6 : Option Value} {a : Nat} : WP E c 32 179 [a0, a1, a2, a3, a4, a5, a6] (.ref a :: st) ah Q = WPo (oGF (hg E ah a) 2 2) (fun v => WP E c 32 182 [a0, a1, a2, a3, a4, a5, a6] (v :: st) ah Q) := wp_getf i32_179
theorem i32_182 : insAt 32 182 = some (.iload 6, 184) := by decide +kernel
theorem r32_182 {E : aEnv} {c : Nat} {ah : aHp} {st : List Value} {Q : Option Value → aHp → Prop} {a0 a1 a2 a3 a4 a5 : Option Value} {x : Int32} : WP E c 32 182 [a0, a1, a2, a3, a4, a5, some (.int x)] (st) ah Q = WP E c 32 184 [a0, a1, a2, a3, a4, a5, some (.int x)] (.int x :: st) ah Q := wp_s i32_182 rfl rfl rfl rfl
theorem i32_184 : insAt 32 184 = some (.iaload, 185) := by decide +kernel
theorem r32_184 {E : aEnv} {c : Nat} {ah : aHp} {st : List Value} {Q : Option Value → aHp → Prop} {a0 a1 a2 a3 a4 a5 a6 : Option Value} {i : Int32} {a : Nat} : WP E c 32 184 [a0, a1, a2, a3, a4, a5, a6] (.int i :: .ref a :: st) ah Q = WPo (gI E ah (.int i :: .ref a :: st)) (fun s9 => WP E c 32 185 [a0, a1, a2, a3, a4, a5, a6] s9 ah Q) := wp_hr i32_184 rfl rfl rfl rfl rfl rfl rfl rfl
theorem i32_185 : insAt 32 185 = some (.i2l, 186) := by decide +kernel
theorem r32_185 {E : aEnv} {c : Nat} {ah : aHp} {st : List Value} {Q : Option Value → aHp → Prop} {a0 a1 a2 a3 a4 a5 a6 : Option Value} {x : Int32} : WP E c 32 185 [a0, a1, a2, a3, a4, a5, a6] (.int x :: st) ah Q = WP E c 32 186 [a0, a1, a2, a3, a4, a5, a6] (.long x.toInt64 :: st) ah Q := wp_s i32_185 rfl rfl rfl rfl
theorem i32_186 : insAt 32 186 = some (.lmul, 187) := by decide +kernel
theorem r32_186 {E : aEnv} {c : Nat} {ah : aHp} {st : List Value} {Q : Option Value → aHp → Prop} {a0 a1 a2 a3 a4 a5 a6 : Option Value} {x y : Int64} : WP E c 32 186 [a0, a1, a2, a3, a4, a5, a6] (.long y :: .long x :: st) ah Q = WP E c 32 187 [a0, a1, a2, a3, a4, a5, a6] (.long (x * y) :: st) ah Q := wp_s i32_186 rfl rfl rfl rfl
theorem i32_187 : insAt 32 187 = some (.lstore 4, 189) := by decide +kernel
theorem r32_187 {E : aEnv} {c : Nat} {ah : aHp} {st : List Value} {Q : Option Value → aHp → Prop} {a0 a1 a2 a3 a4 a5 a6 : Option Value} {x : Int64} : WP E c 32 187 [a0, a1, a2, a3, a4, a5, a6] (.long x :: st) ah Q = WP E c 32 189 [a0, a1, a2, kil a3, some (.long x), none, a6] (st) ah Q := wp_s i32_187 rfl rfl rfl rfl
theorem i32_189 : insAt 32 189 = some (.iinc 6 1, 192) := by decide +kernel
theorem r32_189 {E : aEnv} {c : Nat} {ah : aHp} {st : List Value} {Q : Option Value → aHp → Prop} {a0 a1 a2 a3 a4 a5 : Option Value} {x : Int32} : WP E c 32 189 [a0, a1, a2, a3, a4, a5, some (.int x)] (st) ah Q = WP E c 32 192 [a0, a1, a2, a3, a4, kil a5, some (.int (x + 1))] (st) ah Q := wp_s i32_189 rfl rfl rfl rfl
theorem i32_192 : insAt 32 192 = some (.goto 138, 195) := by decide +kernel
theorem r32_192 {E : aEnv} {c : Nat} {ah : aHp} {st : List Value} {Q : Option Value → aHp → Prop} {a0 a1 a2 a3 a4 a5 a6 : Option Value} : WP E c 32 192 [a0, a1, a2, a3, a4, a5, a6] (st) ah Q = WP E c 32 138 [a0, a1, a2, a3, a4, a5, a6] st ah Q := wp_s i32_192 rfl rfl rfl rfl
theorem i32_195 : insAt 32 195 = some (.aload 0, 196) := by decide +kernel
theorem r32_195 {E : aEnv} {c : Nat} {ah : aHp} {st : List Value} {Q : Option Value → aHp → Prop} {a1 a2 a3 a4 a5 a6 : Option Value} {x : Nat} : WP E c 32 195 [some (.ref x), a1, a2, a3, a4, a5, a6] (st) ah Q = WP E c 32 196 [some (.ref x), a1, a2, a3, a4, a5, a6] (.ref x :: st) ah Q := wp_s i32_195 rfl rfl rfl rfl
theorem i32_196 : insAt 32 196 = some (.lload 4, 198) := by decide +kernel
theorem r32_196 {E : aEnv} {c : Nat} {ah : aHp} {st : List Value} {Q : Option Value → aHp → Prop} {a0 a1 a2 a3 a5 a6 : Option Value} {x : Int64} : WP E c 32 196 [a0, a1, a2, a3, some (.long x), a5, a6] (st) ah Q = WP E c 32 198 [a0, a1, a2, a3, some (.long x), a5, a6] (.long x :: st) ah Q := wp_s i32_196 rfl rfl rfl rfl
theorem i32_198 : insAt 32 198 = some (.putfield 2041, 201) := by decide +kernel
theorem r32_198 {E : aEnv} {c : Nat} {ah : aHp} {st : List Value} {Q : Option Value → aHp → Prop} {a0 a1 a2 a3 a4 a5 a6 : Option Value} {a : Nat} {v : Value} : WP E c 32 198 [a0, a1, a2, a3, a4, a5, a6] (v :: .ref a :: st) ah Q = WPo (oPF (hg E ah a) 2041 v) (fun e => WP E c 32 201 [a0, a1, a2, a3, a4, a5, a6] st (hs E ah a e) Q) := wp_putf i32_198
theorem i32_201 : insAt 32 201 = some (.return_, 202) := by decide +kernel
theorem r32_201 {E : aEnv} {c : Nat} {ah : aHp} {Q : Option Value → aHp → Prop} {a0 a1 a2 a3 a4 a5 a6 : Option Value} : WP E c 32 201 [a0, a1, a2, a3, a4, a5, a6] ([]) ah Q = Q none ah := wp_rt i32_201 rfl
theorem e33 {E : aEnv} {c : Nat} {ah ahF : aHp} {r : Option Value} {p0 : Int32} {p1 : Int32} (h : WP E c 33 0 [some (.int p0), some (.int p1)] [] ah (fun r1 x1 => r1 = r ∧ x1 = ahF)) : EV E c 33 [.int p0, .int p1] ah r ahF := EV.of (by rw [mr33.2.1]; exact h)
theorem i33_0 : insAt 33 0 = some (.iload 0, 1) := by decide +kernel
theorem r33_0 {E : aEnv} {c : Nat} {ah : aHp} {st : List Value} {Q : Option Value → aHp → Prop} {a1 : Option Value} {x : Int32} : WP E c 33 0 [some (.int x), a1] (st) ah Q = WP E c 33 1 [some (.int x), a1] (.int x :: st) ah Q := wp_s i33_0 rfl rfl rfl rfl
theorem i33_1 : insAt 33 1 = some (.iconst 2, 2) := by decide +kernel
theorem r33_1 {E : aEnv} {c : Nat} {ah : aHp} {st : List Value} {Q : Option Value → aHp → Prop} {a0 a1 : Option Value} : WP E c 33 1 [a0, a1] (st) ah Q = WP E c 33 2 [a0, a1] (.int (2) :: st) ah Q := wp_s i33_1 rfl rfl rfl rfl
theorem i33_2 : insAt 33 2 = some (.if_icmp .lt 26, 5) := by decide +kernel
theorem r33_2 {E : aEnv} {c : Nat} {ah : aHp} {st : List Value} {Q : Option Value → aHp → Prop} {a0 a1 : Option Value} {x y : Int32} : WP E c 33 2 [a0, a1] (.int y :: .int x :: st) ah Q = if x < y then WP E c 33 26 [a0, a1] st ah Q else WP E c 33 5 [a0, a1] st ah Q := wp_j i33_2 rfl rfl rfl rfl
theorem i33_5 : insAt 33 5 = some (.iload 0, 6) := by decide +kernel
theorem r33_5 {E : aEnv} {c : Nat} {ah : aHp} {st : List Value} {Q : Option Value → aHp → Prop} {a1 : Option Value} {x : Int32} : WP E c 33 5 [some (.int x), a1] (st) ah Q = WP E c 33 6 [some (.int x), a1] (.int x :: st) ah Q := wp_s i33_5 rfl rfl rfl rfl
theorem i33_6 : insAt 33 6 = some (.iconst 7, 8) := by decide +kernel
theorem r33_6 {E : aEnv} {c : Nat} {ah : aHp} {st : List Value} {Q : Option Value → aHp → Prop} {a0 a1 : Option Value} : WP E c 33 6 [a0, a1] (st) ah Q = WP E c 33 8 [a0, a1] (.int (7) :: st) ah Q := wp_s i33_6 rfl rfl rfl rfl
theorem i33_8 : insAt 33 8 = some (.if_icmp .gt 26, 11) := by decide +kernel
theorem r33_8 {E : aEnv} {c : Nat} {ah : aHp} {st : List Value} {Q : Option Value → aHp → Prop} {a0 a1 : Option Value} {x y : Int32} : WP E c 33 8 [a0, a1] (.int y :: .int x :: st) ah Q = if y < x then WP E c 33 26 [a0, a1] st ah Q else WP E c 33 11 [a0, a1] st ah Q := wp_j i33_8 rfl rfl rfl rfl
theorem i33_11 : insAt 33 11 = some (.iload 1, 12) := by decide +kernel
theorem r33_11 {E : aEnv} {c : Nat} {ah : aHp} {st : List Value} {Q : Option Value → aHp → Prop} {a0 : Option Value} {x : Int32} : WP E c 33 11 [a0, some (.int x)] (st) ah Q = WP E c 33 12 [a0, some (.int x)] (.int x :: st) ah Q := wp_s i33_11 rfl rfl rfl rfl
theorem i33_12 : insAt 33 12 = some (.iconst 1, 13) := by decide +kernel
theorem r33_12 {E : aEnv} {c : Nat} {ah : aHp} {st : List Value} {Q : Option Value → aHp → Prop} {a0 a1 : Option Value} : WP E c 33 12 [a0, a1] (st) ah Q = WP E c 33 13 [a0, a1] (.int (1) :: st) ah Q := wp_s i33_12 rfl rfl rfl rfl
theorem i33_13 : insAt 33 13 = some (.if_icmp .lt 26, 16) := by decide +kernel
theorem r33_13 {E : aEnv} {c : Nat} {ah : aHp} {st : List Value} {Q : Option Value → aHp → Prop} {a0 a1 : Option Value} {x y : Int32} : WP E c 33 13 [a0, a1] (.int y :: .int x :: st) ah Q = if x < y then WP E c 33 26 [a0, a1] st ah Q else WP E c 33 16 [a0, a1] st ah Q := wp_j i33_13 rfl rfl rfl rfl
theorem i33_16 : insAt 33 16 = some (.iload 1, 17) := by decide +kernel
theorem r33_16 {E : aEnv} {c : Nat} {ah : aHp} {st : List Value} {Q : Option Value → aHp → Prop} {a0 : Option Value} {x : Int32} : WP E c 33 16 [a0, some (.int x)] (st) ah Q = WP E c 33 17 [a0, some (.int x)] (.int x :: st) ah Q := wp_s i33_16 rfl rfl rfl rfl
theorem i33_17 : insAt 33 17 = some (.iconst 12, 19) := by decide +kernel
theorem r33_17 {E : aEnv} {c : Nat} {ah : aHp} {st : List Value} {Q : Option Value → aHp → Prop} {a0 a1 : Option Value} : WP E c 33 17 [a0, a1] (st) ah Q = WP E c 33 19 [a0, a1] (.int (12) :: st) ah Q := wp_s i33_17 rfl rfl rfl rfl
theorem i33_19 : insAt 33 19 = some (.if_icmp .gt 26, 22) := by decide +kernel
theorem r33_19 {E : aEnv} {c : Nat} {ah : aHp} {st : List Value} {Q : Option Value → aHp → Prop} {a0 a1 : Option Value} {x y : Int32} : WP E c 33 19 [a0, a1] (.int y :: .int x :: st) ah Q = if y < x then WP E c 33 26 [a0, a1] st ah Q else WP E c 33 22 [a0, a1] st ah Q := wp_j i33_19 rfl rfl rfl rfl
theorem i33_22 : insAt 33 22 = some (.iconst 1, 23) := by decide +kernel
theorem r33_22 {E : aEnv} {c : Nat} {ah : aHp} {st : List Value} {Q : Option Value → aHp → Prop} {a0 a1 : Option Value} : WP E c 33 22 [a0, a1] (st) ah Q = WP E c 33 23 [a0, a1] (.int (1) :: st) ah Q := wp_s i33_22 rfl rfl rfl rfl
theorem i33_23 : insAt 33 23 = some (.goto 27, 26) := by decide +kernel
theorem r33_23 {E : aEnv} {c : Nat} {ah : aHp} {st : List Value} {Q : Option Value → aHp → Prop} {a0 a1 : Option Value} : WP E c 33 23 [a0, a1] (st) ah Q = WP E c 33 27 [a0, a1] st ah Q := wp_s i33_23 rfl rfl rfl rfl
theorem i33_26 : insAt 33 26 = some (.iconst 0, 27) := by decide +kernel
theorem r33_26 {E : aEnv} {c : Nat} {ah : aHp} {st : List Value} {Q : Option Value → aHp → Prop} {a0 a1 : Option Value} : WP E c 33 26 [a0, a1] (st) ah Q = WP E c 33 27 [a0, a1] (.int (0) :: st) ah Q := wp_s i33_26 rfl rfl rfl rfl
theorem i33_27 : insAt 33 27 = some (.freturn, 28) := by decide +kernel
theorem r33_27 {E : aEnv} {c : Nat} {ah : aHp} {Q : Option Value → aHp → Prop} {a0 a1 : Option Value} {x : Int32} (hx : x = 0 ∨ x = 1) : WP E c 33 27 [a0, a1] ([.int x]) ah Q = Q (some (.int x)) ah := wp_rt i33_27 (by simp only [rtA, if_pos hx])
theorem e34 {E : aEnv} {c : Nat} {ah ahF : aHp} {r : Option Value} {p0 : Nat} {p1 : Int32} (h : WP E c 34 0 [some (.ref p0), some (.int p1)] [] ah (fun r1 x1 => r1 = r ∧ x1 = ahF)) : EV E c 34 [.ref p0, .int p1] ah r ahF := EV.of (by rw [mr34.2.1]; exact h)
theorem i34_0 : insAt 34 0 = some (.iload 1, 1) := by decide +kernel
theorem r34_0 {E : aEnv} {c : Nat} {ah : aHp} {st : List Value} {Q : Option Value → aHp → Prop} {a0 : Option Value} {x : Int32} : WP E c 34 0 [a0, some (.int x)] (st) ah Q = WP E c 34 1 [a0, some (.int x)] (.int x :: st) ah Q := wp_s i34_0 rfl rfl rfl rfl
theorem i34_1 : insAt 34 1 = some (.ifCond .lt 16, 4) := by decide +kernel
theorem r34_1 {E : aEnv} {c : Nat} {ah : aHp} {st : List Value} {Q : Option Value → aHp → Prop} {a0 a1 : Option Value} {x : Int32} : WP E c 34 1 [a0, a1] (.int x :: st) ah Q = if x < 0 then WP E c 34 16 [a0, a1] st ah Q else WP E c 34 4 [a0, a1] st ah Q := wp_j i34_1 rfl rfl rfl rfl
theorem i34_4 : insAt 34 4 = some (.iload 1, 5) := by decide +kernel
theorem r34_4 {E : aEnv} {c : Nat} {ah : aHp} {st : List Value} {Q : Option Value → aHp → Prop} {a0 : Option Value} {x : Int32} : WP E c 34 4 [a0, some (.int x)] (st) ah Q = WP E c 34 5 [a0, some (.int x)] (.int x :: st) ah Q := wp_s i34_4 rfl rfl rfl rfl
theorem i34_5 : insAt 34 5 = some (.aload 0, 6) := by decide +kernel
theorem r34_5 {E : aEnv} {c : Nat} {ah : aHp} {st : List Value} {Q : Option Value → aHp → Prop} {a1 : Option Value} {x : Nat} : WP E c 34 5 [some (.ref x), a1] (st) ah Q = WP E c 34 6 [some (.ref x), a1] (.ref x :: st) ah Q := wp_s i34_5 rfl rfl rfl rfl
theorem i34_6 : insAt 34 6 = some (.getfield 2000, 9) := by decide +kernel
theorem r34_6 {E : aEnv} {c : Nat} {ah : aHp} {st : List Value} {Q : Option Value → aHp → Prop} {a0 a1 : Option Value} {a : Nat} : WP E c 34 6 [a0, a1] (.ref a :: st) ah Q = WPo (oGF (hg E ah a) 2 0) (fun v => WP E c 34 9 [a0, a1] (v :: st) ah Q) := wp_getf i34_6
theorem i34_9 : insAt 34 9 = some (.if_icmp .ge 16, 12) := by decide +kernel
theorem r34_9 {E : aEnv} {c : Nat} {ah : aHp} {st : List Value} {Q : Option Value → aHp → Prop} {a0 a1 : Option Value} {x y : Int32} : WP E c 34 9 [a0, a1] (.int y :: .int x :: st) ah Q = if y ≤ x then WP E c 34 16 [a0, a1] st ah Q else WP E c 34 12 [a0, a1] st ah Q := wp_j i34_9 rfl rfl rfl rfl
theorem i34_12 : insAt 34 12 = some (.iconst 1, 13) := by decide +kernel
theorem r34_12 {E : aEnv} {c : Nat} {ah : aHp} {st : List Value} {Q : Option Value → aHp → Prop} {a0 a1 : Option Value} : WP E c 34 12 [a0, a1] (st) ah Q = WP E c 34 13 [a0, a1] (.int (1) :: st) ah Q := wp_s i34_12 rfl rfl rfl rfl
theorem i34_13 : insAt 34 13 = some (.goto 17, 16) := by decide +kernel
theorem r34_13 {E : aEnv} {c : Nat} {ah : aHp} {st : List Value} {Q : Option Value → aHp → Prop} {a0 a1 : Option Value} : WP E c 34 13 [a0, a1] (st) ah Q = WP E c 34 17 [a0, a1] st ah Q := wp_s i34_13 rfl rfl rfl rfl
theorem i34_16 : insAt 34 16 = some (.iconst 0, 17) := by decide +kernel
theorem r34_16 {E : aEnv} {c : Nat} {ah : aHp} {st : List Value} {Q : Option Value → aHp → Prop} {a0 a1 : Option Value} : WP E c 34 16 [a0, a1] (st) ah Q = WP E c 34 17 [a0, a1] (.int (0) :: st) ah Q := wp_s i34_16 rfl rfl rfl rfl
theorem i34_17 : insAt 34 17 = some (.freturn, 18) := by decide +kernel
theorem r34_17 {E : aEnv} {c : Nat} {ah : aHp} {Q : Option Value → aHp → Prop} {a0 a1 : Option Value} {x : Int32} (hx : x = 0 ∨ x = 1) : WP E c 34 17 [a0, a1] ([.int x]) ah Q = Q (some (.int x)) ah := wp_rt i34_17 (by simp only [rtA, if_pos hx])
theorem e35 {E : aEnv} {c : Nat} {ah ahF : aHp} {r : Option Value} {p0 : Nat} {p1 : Int32} (h : WP E c 35 0 [some (.ref p0), some (.int p1)] [] ah (fun r1 x1 => r1 = r ∧ x1 = ahF)) : EV E c 35 [.ref p0, .int p1] ah r ahF := EV.of (by rw [mr35.2.1]; exact h)
theorem i35_0 : insAt 35 0 = some (.iload 1, 1) := by decide +kernel
theorem r35_0 {E : aEnv} {c : Nat} {ah : aHp} {st : List Value} {Q : Option Value → aHp → Prop} {a0 : Option Value} {x : Int32} : WP E c 35 0 [a0, some (.int x)] (st) ah Q = WP E c 35 1 [a0, some (.int x)] (.int x :: st) ah Q := wp_s i35_0 rfl rfl rfl rfl
theorem i35_1 : insAt 35 1 = some (.aload 0, 2) := by decide +kernel
theorem r35_1 {E : aEnv} {c : Nat} {ah : aHp} {st : List Value} {Q : Option Value → aHp → Prop} {a1 : Option Value} {x : Nat} : WP E c 35 1 [some (.ref x), a1] (st) ah Q = WP E c 35 2 [some (.ref x), a1] (.ref x :: st) ah Q := wp_s i35_1 rfl rfl rfl rfl
theorem i35_2 : insAt 35 2 = some (.getfield 2000, 5) := by decide +kernel
theorem r35_2 {E : aEnv} {c : Nat} {ah : aHp} {st : List Value} {Q : Option Value → aHp → Prop} {a0 a1 : Option Value} {a : Nat} : WP E c 35 2 [a0, a1] (.ref a :: st) ah Q = WPo (oGF (hg E ah a) 2 0) (fun v => WP E c 35 5 [a0, a1] (v :: st) ah Q) := wp_getf i35_2
theorem i35_5 : insAt 35 5 = some (.iconst 1, 6) := by decide +kernel
theorem r35_5 {E : aEnv} {c : Nat} {ah : aHp} {st : List Value} {Q : Option Value → aHp → Prop} {a0 a1 : Option Value} : WP E c 35 5 [a0, a1] (st) ah Q = WP E c 35 6 [a0, a1] (.int (1) :: st) ah Q := wp_s i35_5 rfl rfl rfl rfl
theorem i35_6 : insAt 35 6 = some (.isub, 7) := by decide +kernel
theorem r35_6 {E : aEnv} {c : Nat} {ah : aHp} {st : List Value} {Q : Option Value → aHp → Prop} {a0 a1 : Option Value} {x y : Int32} : WP E c 35 6 [a0, a1] (.int y :: .int x :: st) ah Q = WP E c 35 7 [a0, a1] (.int (x - y) :: st) ah Q := wp_s i35_6 rfl rfl rfl rfl
theorem i35_7 : insAt 35 7 = some (.if_icmp .ne 14, 10) := by decide +kernel
theorem r35_7 {E : aEnv} {c : Nat} {ah : aHp} {st : List Value} {Q : Option Value → aHp → Prop} {a0 a1 : Option Value} {x y : Int32} : WP E c 35 7 [a0, a1] (.int y :: .int x :: st) ah Q = if ¬ x = y then WP E c 35 14 [a0, a1] st ah Q else WP E c 35 10 [a0, a1] st ah Q := wp_j i35_7 rfl rfl rfl rfl
theorem i35_10 : insAt 35 10 = some (.iconst 1, 11) := by decide +kernel
theorem r35_10 {E : aEnv} {c : Nat} {ah : aHp} {st : List Value} {Q : Option Value → aHp → Prop} {a0 a1 : Option Value} : WP E c 35 10 [a0, a1] (st) ah Q = WP E c 35 11 [a0, a1] (.int (1) :: st) ah Q := wp_s i35_10 rfl rfl rfl rfl
theorem i35_11 : insAt 35 11 = some (.goto 15, 14) := by decide +kernel
theorem r35_11 {E : aEnv} {c : Nat} {ah : aHp} {st : List Value} {Q : Option Value → aHp → Prop} {a0 a1 : Option Value} : WP E c 35 11 [a0, a1] (st) ah Q = WP E c 35 15 [a0, a1] st ah Q := wp_s i35_11 rfl rfl rfl rfl
theorem i35_14 : insAt 35 14 = some (.iconst 0, 15) := by decide +kernel
theorem r35_14 {E : aEnv} {c : Nat} {ah : aHp} {st : List Value} {Q : Option Value → aHp → Prop} {a0 a1 : Option Value} : WP E c 35 14 [a0, a1] (st) ah Q = WP E c 35 15 [a0, a1] (.int (0) :: st) ah Q := wp_s i35_14 rfl rfl rfl rfl
theorem i35_15 : insAt 35 15 = some (.freturn, 16) := by decide +kernel
theorem r35_15 {E : aEnv} {c : Nat} {ah : aHp} {Q : Option Value → aHp → Prop} {a0 a1 : Option Value} {x : Int32} (hx : x = 0 ∨ x = 1) : WP E c 35 15 [a0, a1] ([.int x]) ah Q = Q (some (.int x)) ah := wp_rt i35_15 (by simp only [rtA, if_pos hx])
theorem e36 {E : aEnv} {c : Nat} {ah ahF : aHp} {r : Option Value} {p0 : Nat} {p1 : Int32} (h : WP E c 36 0 [some (.ref p0), some (.int p1)] [] ah (fun r1 x1 => r1 = r ∧ x1 = ahF)) : EV E c 36 [.ref p0, .int p1] ah r ahF := EV.of (by rw [mr36.2.1]; exact h)
theorem i36_0 : insAt 36 0 = some (.iload 1, 1) := by decide +kernel
theorem r36_0 {E : aEnv} {c : Nat} {ah : aHp} {st : List Value} {Q : Option Value → aHp → Prop} {a0 : Option Value} {x : Int32} : WP E c 36 0 [a0, some (.int x)] (st) ah Q = WP E c 36 1 [a0, some (.int x)] (.int x :: st) ah Q := wp_s i36_0 rfl rfl rfl rfl
theorem i36_1 : insAt 36 1 = some (.ifCond .lt 16, 4) := by decide +kernel
theorem r36_1 {E : aEnv} {c : Nat} {ah : aHp} {st : List Value} {Q : Option Value → aHp → Prop} {a0 a1 : Option Value} {x : Int32} : WP E c 36 1 [a0, a1] (.int x :: st) ah Q = if x < 0 then WP E c 36 16 [a0, a1] st ah Q else WP E c 36 4 [a0, a1] st ah Q := wp_j i36_1 rfl rfl rfl rfl
theorem i36_4 : insAt 36 4 = some (.iload 1, 5) := by decide +kernel
theorem r36_4 {E : aEnv} {c : Nat} {ah : aHp} {st : List Value} {Q : Option Value → aHp → Prop} {a0 : Option Value} {x : Int32} : WP E c 36 4 [a0, some (.int x)] (st) ah Q = WP E c 36 5 [a0, some (.int x)] (.int x :: st) ah Q := wp_s i36_4 rfl rfl rfl rfl
theorem i36_5 : insAt 36 5 = some (.aload 0, 6) := by decide +kernel
theorem r36_5 {E : aEnv} {c : Nat} {ah : aHp} {st : List Value} {Q : Option Value → aHp → Prop} {a1 : Option Value} {x : Nat} : WP E c 36 5 [some (.ref x), a1] (st) ah Q = WP E c 36 6 [some (.ref x), a1] (.ref x :: st) ah Q := wp_s i36_5 rfl rfl rfl rfl
theorem i36_6 : insAt 36 6 = some (.getfield 2010, 9) := by decide +kernel
theorem r36_6 {E : aEnv} {c : Nat} {ah : aHp} {st : List Value} {Q : Option Value → aHp → Prop} {a0 a1 : Option Value} {a : Nat} : WP E c 36 6 [a0, a1] (.ref a :: st) ah Q = WPo (oGF (hg E ah a) 2 1) (fun v => WP E c 36 9 [a0, a1] (v :: st) ah Q) := wp_getf i36_6
theorem i36_9 : insAt 36 9 = some (.if_icmp .ge 16, 12) := by decide +kernel
theorem r36_9 {E : aEnv} {c : Nat} {ah : aHp} {st : List Value} {Q : Option Value → aHp → Prop} {a0 a1 : Option Value} {x y : Int32} : WP E c 36 9 [a0, a1] (.int y :: .int x :: st) ah Q = if y ≤ x then WP E c 36 16 [a0, a1] st ah Q else WP E c 36 12 [a0, a1] st ah Q := wp_j i36_9 rfl rfl rfl rfl
theorem i36_12 : insAt 36 12 = some (.iconst 1, 13) := by decide +kernel
theorem r36_12 {E : aEnv} {c : Nat} {ah : aHp} {st : List Value} {Q : Option Value → aHp → Prop} {a0 a1 : Option Value} : WP E c 36 12 [a0, a1] (st) ah Q = WP E c 36 13 [a0, a1] (.int (1) :: st) ah Q := wp_s i36_12 rfl rfl rfl rfl
theorem i36_13 : insAt 36 13 = some (.goto 17, 16) := by decide +kernel
theorem r36_13 {E : aEnv} {c : Nat} {ah : aHp} {st : List Value} {Q : Option Value → aHp → Prop} {a0 a1 : Option Value} : WP E c 36 13 [a0, a1] (st) ah Q = WP E c 36 17 [a0, a1] st ah Q := wp_s i36_13 rfl rfl rfl rfl
theorem i36_16 : insAt 36 16 = some (.iconst 0, 17) := by decide +kernel
theorem r36_16 {E : aEnv} {c : Nat} {ah : aHp} {st : List Value} {Q : Option Value → aHp → Prop} {a0 a1 : Option Value} : WP E c 36 16 [a0, a1] (st) ah Q = WP E c 36 17 [a0, a1] (.int (0) :: st) ah Q := wp_s i36_16 rfl rfl rfl rfl
theorem i36_17 : insAt 36 17 = some (.freturn, 18) := by decide +kernel
theorem r36_17 {E : aEnv} {c : Nat} {ah : aHp} {Q : Option Value → aHp → Prop} {a0 a1 : Option Value} {x : Int32} (hx : x = 0 ∨ x = 1) : WP E c 36 17 [a0, a1] ([.int x]) ah Q = Q (some (.int x)) ah := wp_rt i36_17 (by simp only [rtA, if_pos hx])
theorem e37 {E : aEnv} {c : Nat} {ah ahF : aHp} {r : Option Value} {p0 : Nat} {p1 : Int32} {p2 : Int32} (h : WP E c 37 0 [some (.ref p0), some (.int p1), some (.int p2)] [] ah (fun r1 x1 => r1 = r ∧ x1 = ahF)) : EV E c 37 [.ref p0, .int p1, .int p2] ah r ahF := EV.of (by rw [mr37.2.1]; exact h)
theorem i37_0 : insAt 37 0 = some (.aload 0, 1) := by decide +kernel
theorem r37_0 {E : aEnv} {c : Nat} {ah : aHp} {st : List Value} {Q : Option Value → aHp → Prop} {a1 a2 : Option Value} {x : Nat} : WP E c 37 0 [some (.ref x), a1, a2] (st) ah Q = WP E c 37 1 [some (.ref x), a1, a2] (.ref x :: st) ah Q := wp_s i37_0 rfl rfl rfl rfl
theorem i37_1 : insAt 37 1 = some (.iload 1, 2) := by decide +kernel
theorem r37_1 {E : aEnv} {c : Nat} {ah : aHp} {st : List Value} {Q : Option Value → aHp → Prop} {a0 a2 : Option Value} {x : Int32} : WP E c 37 1 [a0, some (.int x), a2] (st) ah Q = WP E c 37 2 [a0, some (.int x), a2] (.int x :: st) ah Q := wp_s i37_1 rfl rfl rfl rfl
theorem i37_2 : insAt 37 2 = some (.invokevirtual 36, 5) := by decide +kernel
theorem r37_2 {E : aEnv} {c : Nat} {ah ah1 : aHp} {r : Option Value} {st : List Value} {Q : Option Value → aHp → Prop} {a0 a1 a2 : Option Value} {p0 : Nat} {p1 : Int32} (h : EV E c 36 [.ref p0, .int p1] ah r ah1) (h2 : oCI (hg E ah p0) = 2) (h3 : wds st ≤ 8) : WP E (c + 1) 37 2 [a0, a1, a2] (.int p1 :: .ref p0 :: st) ah Q = WP E (c + 1) 37 5 [a0, a1, a2] (r.toList ++ st) ah1 Q := wp_call (As := [.ref p0, .int p1]) i37_2 (fun _ => rfl) rfl mr36.1 (rcv_1 h2 mr36.2.2 (by decide)) h3 (by rw [mr36.2.1]; exact Nat.le_of_ble_eq_true rfl) h
theorem i37_5 : insAt 37 5 = some (.ifCond .eq 26, 8) := by decide +kernel
theorem r37_5 {E : aEnv} {c : Nat} {ah : aHp} {st : List Value} {Q : Option Value → aHp → Prop} {a0 a1 a2 : Option Value} {x : Int32} : WP E c 37 5 [a0, a1, a2] (.int x :: st) ah Q = if x = 0 then WP E c 37 26 [a0, a1, a2] st ah Q else WP E c 37 8 [a0, a1, a2] st ah Q := wp_j i37_5 rfl rfl rfl rfl
theorem i37_8 : insAt 37 8 = some (.iload 2, 9) := by decide +kernel
theorem r37_8 {E : aEnv} {c : Nat} {ah : aHp} {st : List Value} {Q : Option Value → aHp → Prop} {a0 a1 : Option Value} {x : Int32} : WP E c 37 8 [a0, a1, some (.int x)] (st) ah Q = WP E c 37 9 [a0, a1, some (.int x)] (.int x :: st) ah Q := wp_s i37_8 rfl rfl rfl rfl
theorem i37_9 : insAt 37 9 = some (.ifCond .lt 26, 12) := by decide +kernel
theorem r37_9 {E : aEnv} {c : Nat} {ah : aHp} {st : List Value} {Q : Option Value → aHp → Prop} {a0 a1 a2 : Option Value} {x : Int32} : WP E c 37 9 [a0, a1, a2] (.int x :: st) ah Q = if x < 0 then WP E c 37 26 [a0, a1, a2] st ah Q else WP E c 37 12 [a0, a1, a2] st ah Q := wp_j i37_9 rfl rfl rfl rfl
theorem i37_12 : insAt 37 12 = some (.iload 2, 13) := by decide +kernel
theorem r37_12 {E : aEnv} {c : Nat} {ah : aHp} {st : List Value} {Q : Option Value → aHp → Prop} {a0 a1 : Option Value} {x : Int32} : WP E c 37 12 [a0, a1, some (.int x)] (st) ah Q = WP E c 37 13 [a0, a1, some (.int x)] (.int x :: st) ah Q := wp_s i37_12 rfl rfl rfl rfl
theorem i37_13 : insAt 37 13 = some (.aload 0, 14) := by decide +kernel
theorem r37_13 {E : aEnv} {c : Nat} {ah : aHp} {st : List Value} {Q : Option Value → aHp → Prop} {a1 a2 : Option Value} {x : Nat} : WP E c 37 13 [some (.ref x), a1, a2] (st) ah Q = WP E c 37 14 [some (.ref x), a1, a2] (.ref x :: st) ah Q := wp_s i37_13 rfl rfl rfl rfl
theorem i37_14 : insAt 37 14 = some (.getfield 2022, 17) := by decide +kernel
theorem r37_14 {E : aEnv} {c : Nat} {ah : aHp} {st : List Value} {Q : Option Value → aHp → Prop} {a0 a1 a2 : Option Value} {a : Nat} : WP E c 37 14 [a0, a1, a2] (.ref a :: st) ah Q = WPo (oGF (hg E ah a) 2 2) (fun v => WP E c 37 17 [a0, a1, a2] (v :: st) ah Q) := wp_getf i37_14
theorem i37_17 : insAt 37 17 = some (.iload 1, 18) := by decide +kernel
theorem r37_17 {E : aEnv} {c : Nat} {ah : aHp} {st : List Value} {Q : Option Value → aHp → Prop} {a0 a2 : Option Value} {x : Int32} : WP E c 37 17 [a0, some (.int x), a2] (st) ah Q = WP E c 37 18 [a0, some (.int x), a2] (.int x :: st) ah Q := wp_s i37_17 rfl rfl rfl rfl
theorem i37_18 : insAt 37 18 = some (.iaload, 19) := by decide +kernel
theorem r37_18 {E : aEnv} {c : Nat} {ah : aHp} {st : List Value} {Q : Option Value → aHp → Prop} {a0 a1 a2 : Option Value} {i : Int32} {a : Nat} : WP E c 37 18 [a0, a1, a2] (.int i :: .ref a :: st) ah Q = WPo (gI E ah (.int i :: .ref a :: st)) (fun s9 => WP E c 37 19 [a0, a1, a2] s9 ah Q) := wp_hr i37_18 rfl rfl rfl rfl rfl rfl rfl rfl
theorem i37_19 : insAt 37 19 = some (.if_icmp .ge 26, 22) := by decide +kernel
theorem r37_19 {E : aEnv} {c : Nat} {ah : aHp} {st : List Value} {Q : Option Value → aHp → Prop} {a0 a1 a2 : Option Value} {x y : Int32} : WP E c 37 19 [a0, a1, a2] (.int y :: .int x :: st) ah Q = if y ≤ x then WP E c 37 26 [a0, a1, a2] st ah Q else WP E c 37 22 [a0, a1, a2] st ah Q := wp_j i37_19 rfl rfl rfl rfl
theorem i37_22 : insAt 37 22 = some (.iconst 1, 23) := by decide +kernel
theorem r37_22 {E : aEnv} {c : Nat} {ah : aHp} {st : List Value} {Q : Option Value → aHp → Prop} {a0 a1 a2 : Option Value} : WP E c 37 22 [a0, a1, a2] (st) ah Q = WP E c 37 23 [a0, a1, a2] (.int (1) :: st) ah Q := wp_s i37_22 rfl rfl rfl rfl
theorem i37_23 : insAt 37 23 = some (.goto 27, 26) := by decide +kernel
theorem r37_23 {E : aEnv} {c : Nat} {ah : aHp} {st : List Value} {Q : Option Value → aHp → Prop} {a0 a1 a2 : Option Value} : WP E c 37 23 [a0, a1, a2] (st) ah Q = WP E c 37 27 [a0, a1, a2] st ah Q := wp_s i37_23 rfl rfl rfl rfl
theorem i37_26 : insAt 37 26 = some (.iconst 0, 27) := by decide +kernel
theorem r37_26 {E : aEnv} {c : Nat} {ah : aHp} {st : List Value} {Q : Option Value → aHp → Prop} {a0 a1 a2 : Option Value} : WP E c 37 26 [a0, a1, a2] (st) ah Q = WP E c 37 27 [a0, a1, a2] (.int (0) :: st) ah Q := wp_s i37_26 rfl rfl rfl rfl
theorem i37_27 : insAt 37 27 = some (.freturn, 28) := by decide +kernel
theorem r37_27 {E : aEnv} {c : Nat} {ah : aHp} {Q : Option Value → aHp → Prop} {a0 a1 a2 : Option Value} {x : Int32} (hx : x = 0 ∨ x = 1) : WP E c 37 27 [a0, a1, a2] ([.int x]) ah Q = Q (some (.int x)) ah := wp_rt i37_27 (by simp only [rtA, if_pos hx])
theorem e38 {E : aEnv} {c : Nat} {ah ahF : aHp} {r : Option Value} {p0 : Nat} {p1 : Int32} {p2 : Int32} (h : WP E c 38 0 [some (.ref p0), some (.int p1), some (.int p2)] [] ah (fun r1 x1 => r1 = r ∧ x1 = ahF)) : EV E c 38 [.ref p0, .int p1, .int p2] ah r ahF := EV.of (by rw [mr38.2.1]; exact h)
theorem i38_0 : insAt 38 0 = some (.aload 0, 1) := by decide +kernel
theorem r38_0 {E : aEnv} {c : Nat} {ah : aHp} {st : List Value} {Q : Option Value → aHp → Prop} {a1 a2 : Option Value} {x : Nat} : WP E c 38 0 [some (.ref x), a1, a2] (st) ah Q = WP E c 38 1 [some (.ref x), a1, a2] (.ref x :: st) ah Q := wp_s i38_0 rfl rfl rfl rfl
theorem i38_1 : insAt 38 1 = some (.iload 1, 2) := by decide +kernel
theorem r38_1 {E : aEnv} {c : Nat} {ah : aHp} {st : List Value} {Q : Option Value → aHp → Prop} {a0 a2 : Option Value} {x : Int32} : WP E c 38 1 [a0, some (.int x), a2] (st) ah Q = WP E c 38 2 [a0, some (.int x), a2] (.int x :: st) ah Q := wp_s i38_1 rfl rfl rfl rfl
theorem i38_2 : insAt 38 2 = some (.invokevirtual 34, 5) := by decide +kernel
theorem r38_2 {E : aEnv} {c : Nat} {ah ah1 : aHp} {r : Option Value} {st : List Value} {Q : Option Value → aHp → Prop} {a0 a1 a2 : Option Value} {p0 : Nat} {p1 : Int32} (h : EV E c 34 [.ref p0, .int p1] ah r ah1) (h2 : oCI (hg E ah p0) = 2) (h3 : wds st ≤ 8) : WP E (c + 1) 38 2 [a0, a1, a2] (.int p1 :: .ref p0 :: st) ah Q = WP E (c + 1) 38 5 [a0, a1, a2] (r.toList ++ st) ah1 Q := wp_call (As := [.ref p0, .int p1]) i38_2 (fun _ => rfl) rfl mr34.1 (rcv_1 h2 mr34.2.2 (by decide)) h3 (by rw [mr34.2.1]; exact Nat.le_of_ble_eq_true rfl) h
theorem i38_5 : insAt 38 5 = some (.ifCond .eq 32, 8) := by decide +kernel
theorem r38_5 {E : aEnv} {c : Nat} {ah : aHp} {st : List Value} {Q : Option Value → aHp → Prop} {a0 a1 a2 : Option Value} {x : Int32} : WP E c 38 5 [a0, a1, a2] (.int x :: st) ah Q = if x = 0 then WP E c 38 32 [a0, a1, a2] st ah Q else WP E c 38 8 [a0, a1, a2] st ah Q := wp_j i38_5 rfl rfl rfl rfl
theorem i38_8 : insAt 38 8 = some (.aload 0, 9) := by decide +kernel
theorem r38_8 {E : aEnv} {c : Nat} {ah : aHp} {st : List Value} {Q : Option Value → aHp → Prop} {a1 a2 : Option Value} {x : Nat} : WP E c 38 8 [some (.ref x), a1, a2] (st) ah Q = WP E c 38 9 [some (.ref x), a1, a2] (.ref x :: st) ah Q := wp_s i38_8 rfl rfl rfl rfl
theorem i38_9 : insAt 38 9 = some (.iload 2, 10) := by decide +kernel
theorem r38_9 {E : aEnv} {c : Nat} {ah : aHp} {st : List Value} {Q : Option Value → aHp → Prop} {a0 a1 : Option Value} {x : Int32} : WP E c 38 9 [a0, a1, some (.int x)] (st) ah Q = WP E c 38 10 [a0, a1, some (.int x)] (.int x :: st) ah Q := wp_s i38_9 rfl rfl rfl rfl
theorem i38_10 : insAt 38 10 = some (.invokevirtual 36, 13) := by decide +kernel
theorem r38_10 {E : aEnv} {c : Nat} {ah ah1 : aHp} {r : Option Value} {st : List Value} {Q : Option Value → aHp → Prop} {a0 a1 a2 : Option Value} {p0 : Nat} {p1 : Int32} (h : EV E c 36 [.ref p0, .int p1] ah r ah1) (h2 : oCI (hg E ah p0) = 2) (h3 : wds st ≤ 8) : WP E (c + 1) 38 10 [a0, a1, a2] (.int p1 :: .ref p0 :: st) ah Q = WP E (c + 1) 38 13 [a0, a1, a2] (r.toList ++ st) ah1 Q := wp_call (As := [.ref p0, .int p1]) i38_10 (fun _ => rfl) rfl mr36.1 (rcv_1 h2 mr36.2.2 (by decide)) h3 (by rw [mr36.2.1]; exact Nat.le_of_ble_eq_true rfl) h
theorem i38_13 : insAt 38 13 = some (.ifCond .eq 32, 16) := by decide +kernel
theorem r38_13 {E : aEnv} {c : Nat} {ah : aHp} {st : List Value} {Q : Option Value → aHp → Prop} {a0 a1 a2 : Option Value} {x : Int32} : WP E c 38 13 [a0, a1, a2] (.int x :: st) ah Q = if x = 0 then WP E c 38 32 [a0, a1, a2] st ah Q else WP E c 38 16 [a0, a1, a2] st ah Q := wp_j i38_13 rfl rfl rfl rfl
theorem i38_16 : insAt 38 16 = some (.aload 0, 17) := by decide +kernel
theorem r38_16 {E : aEnv} {c : Nat} {ah : aHp} {st : List Value} {Q : Option Value → aHp → Prop} {a1 a2 : Option Value} {x : Nat} : WP E c 38 16 [some (.ref x), a1, a2] (st) ah Q = WP E c 38 17 [some (.ref x), a1, a2] (.ref x :: st) ah Q := wp_s i38_16 rfl rfl rfl rfl
theorem i38_17 : insAt 38 17 = some (.getfield 2052, 20) := by decide +kernel
theorem r38_17 {E : aEnv} {c : Nat} {ah : aHp} {st : List Value} {Q : Option Value → aHp → Prop} {a0 a1 a2 : Option Value} {a : Nat} : WP E c 38 17 [a0, a1, a2] (.ref a :: st) ah Q = WPo (oGF (hg E ah a) 2 5) (fun v => WP E c 38 20 [a0, a1, a2] (v :: st) ah Q) := wp_getf i38_17
theorem i38_20 : insAt 38 20 = some (.iload 1, 21) := by decide +kernel
theorem r38_20 {E : aEnv} {c : Nat} {ah : aHp} {st : List Value} {Q : Option Value → aHp → Prop} {a0 a2 : Option Value} {x : Int32} : WP E c 38 20 [a0, some (.int x), a2] (st) ah Q = WP E c 38 21 [a0, some (.int x), a2] (.int x :: st) ah Q := wp_s i38_20 rfl rfl rfl rfl
theorem i38_21 : insAt 38 21 = some (.aload 0, 22) := by decide +kernel
theorem r38_21 {E : aEnv} {c : Nat} {ah : aHp} {st : List Value} {Q : Option Value → aHp → Prop} {a1 a2 : Option Value} {x : Nat} : WP E c 38 21 [some (.ref x), a1, a2] (st) ah Q = WP E c 38 22 [some (.ref x), a1, a2] (.ref x :: st) ah Q := wp_s i38_21 rfl rfl rfl rfl
theorem i38_22 : insAt 38 22 = some (.getfield 2010, 25) := by decide +kernel
theorem r38_22 {E : aEnv} {c : Nat} {ah : aHp} {st : List Value} {Q : Option Value → aHp → Prop} {a0 a1 a2 : Option Value} {a : Nat} : WP E c 38 22 [a0, a1, a2] (.ref a :: st) ah Q = WPo (oGF (hg E ah a) 2 1) (fun v => WP E c 38 25 [a0, a1, a2] (v :: st) ah Q) := wp_getf i38_22
theorem i38_25 : insAt 38 25 = some (.imul, 26) := by decide +kernel
theorem r38_25 {E : aEnv} {c : Nat} {ah : aHp} {st : List Value} {Q : Option Value → aHp → Prop} {a0 a1 a2 : Option Value} {x y : Int32} : WP E c 38 25 [a0, a1, a2] (.int y :: .int x :: st) ah Q = WP E c 38 26 [a0, a1, a2] (.int (x * y) :: st) ah Q := wp_s i38_25 rfl rfl rfl rfl
theorem i38_26 : insAt 38 26 = some (.iload 2, 27) := by decide +kernel
theorem r38_26 {E : aEnv} {c : Nat} {ah : aHp} {st : List Value} {Q : Option Value → aHp → Prop} {a0 a1 : Option Value} {x : Int32} : WP E c 38 26 [a0, a1, some (.int x)] (st) ah Q = WP E c 38 27 [a0, a1, some (.int x)] (.int x :: st) ah Q := wp_s i38_26 rfl rfl rfl rfl
theorem i38_27 : insAt 38 27 = some (.iadd, 28) := by decide +kernel
theorem r38_27 {E : aEnv} {c : Nat} {ah : aHp} {st : List Value} {Q : Option Value → aHp → Prop} {a0 a1 a2 : Option Value} {x y : Int32} : WP E c 38 27 [a0, a1, a2] (.int y :: .int x :: st) ah Q = WP E c 38 28 [a0, a1, a2] (.int (x + y) :: st) ah Q := wp_s i38_27 rfl rfl rfl rfl
theorem i38_28 : insAt 38 28 = some (.iaload, 29) := by decide +kernel
theorem r38_28 {E : aEnv} {c : Nat} {ah : aHp} {st : List Value} {Q : Option Value → aHp → Prop} {a0 a1 a2 : Option Value} {i : Int32} {a : Nat} : WP E c 38 28 [a0, a1, a2] (.int i :: .ref a :: st) ah Q = WPo (gI E ah (.int i :: .ref a :: st)) (fun s9 => WP E c 38 29 [a0, a1, a2] s9 ah Q) := wp_hr i38_28 rfl rfl rfl rfl rfl rfl rfl rfl
theorem i38_29 : insAt 38 29 = some (.goto 33, 32) := by decide +kernel
theorem r38_29 {E : aEnv} {c : Nat} {ah : aHp} {st : List Value} {Q : Option Value → aHp → Prop} {a0 a1 a2 : Option Value} : WP E c 38 29 [a0, a1, a2] (st) ah Q = WP E c 38 33 [a0, a1, a2] st ah Q := wp_s i38_29 rfl rfl rfl rfl
theorem i38_32 : insAt 38 32 = some (.iconst (-1), 33) := by decide +kernel
theorem r38_32 {E : aEnv} {c : Nat} {ah : aHp} {st : List Value} {Q : Option Value → aHp → Prop} {a0 a1 a2 : Option Value} : WP E c 38 32 [a0, a1, a2] (st) ah Q = WP E c 38 33 [a0, a1, a2] (.int ((-1)) :: st) ah Q := wp_s i38_32 rfl rfl rfl rfl
theorem i38_33 : insAt 38 33 = some (.ireturn, 34) := by decide +kernel
theorem r38_33 {E : aEnv} {c : Nat} {ah : aHp} {Q : Option Value → aHp → Prop} {a0 a1 a2 : Option Value} {x : Int32} : WP E c 38 33 [a0, a1, a2] ([.int x]) ah Q = Q (some (.int x)) ah := wp_rt i38_33 rfl
theorem e39 {E : aEnv} {c : Nat} {ah ahF : aHp} {r : Option Value} {p0 : Nat} {p1 : Int32} {p2 : Int32} {p3 : Int32} (h : WP E c 39 0 [some (.ref p0), some (.int p1), some (.int p2), some (.int p3)] [] ah (fun r1 x1 => r1 = r ∧ x1 = ahF)) : EV E c 39 [.ref p0, .int p1, .int p2, .int p3] ah r ahF := EV.of (by rw [mr39.2.1]; exact h)
theorem i39_0 : insAt 39 0 = some (.aload 0, 1) := by decide +kernel
theorem r39_0 {E : aEnv} {c : Nat} {ah : aHp} {st : List Value} {Q : Option Value → aHp → Prop} {a1 a2 a3 : Option Value} {x : Nat} : WP E c 39 0 [some (.ref x), a1, a2, a3] (st) ah Q = WP E c 39 1 [some (.ref x), a1, a2, a3] (.ref x :: st) ah Q := wp_s i39_0 rfl rfl rfl rfl
theorem i39_1 : insAt 39 1 = some (.iload 1, 2) := by decide +kernel
theorem r39_1 {E : aEnv} {c : Nat} {ah : aHp} {st : List Value} {Q : Option Value → aHp → Prop} {a0 a2 a3 : Option Value} {x : Int32} : WP E c 39 1 [a0, some (.int x), a2, a3] (st) ah Q = WP E c 39 2 [a0, some (.int x), a2, a3] (.int x :: st) ah Q := wp_s i39_1 rfl rfl rfl rfl
theorem i39_2 : insAt 39 2 = some (.invokevirtual 34, 5) := by decide +kernel
theorem r39_2 {E : aEnv} {c : Nat} {ah ah1 : aHp} {r : Option Value} {st : List Value} {Q : Option Value → aHp → Prop} {a0 a1 a2 a3 : Option Value} {p0 : Nat} {p1 : Int32} (h : EV E c 34 [.ref p0, .int p1] ah r ah1) (h2 : oCI (hg E ah p0) = 2) (h3 : wds st ≤ 8) : WP E (c + 1) 39 2 [a0, a1, a2, a3] (.int p1 :: .ref p0 :: st) ah Q = WP E (c + 1) 39 5 [a0, a1, a2, a3] (r.toList ++ st) ah1 Q := wp_call (As := [.ref p0, .int p1]) i39_2 (fun _ => rfl) rfl mr34.1 (rcv_1 h2 mr34.2.2 (by decide)) h3 (by rw [mr34.2.1]; exact Nat.le_of_ble_eq_true rfl) h
theorem i39_5 : insAt 39 5 = some (.ifCond .eq 31, 8) := by decide +kernel
theorem r39_5 {E : aEnv} {c : Nat} {ah : aHp} {st : List Value} {Q : Option Value → aHp → Prop} {a0 a1 a2 a3 : Option Value} {x : Int32} : WP E c 39 5 [a0, a1, a2, a3] (.int x :: st) ah Q = if x = 0 then WP E c 39 31 [a0, a1, a2, a3] st ah Q else WP E c 39 8 [a0, a1, a2, a3] st ah Q := wp_j i39_5 rfl rfl rfl rfl
theorem i39_8 : insAt 39 8 = some (.aload 0, 9) := by decide +kernel
theorem r39_8 {E : aEnv} {c : Nat} {ah : aHp} {st : List Value} {Q : Option Value → aHp → Prop} {a1 a2 a3 : Option Value} {x : Nat} : WP E c 39 8 [some (.ref x), a1, a2, a3] (st) ah Q = WP E c 39 9 [some (.ref x), a1, a2, a3] (.ref x :: st) ah Q := wp_s i39_8 rfl rfl rfl rfl
theorem i39_9 : insAt 39 9 = some (.iload 2, 10) := by decide +kernel
theorem r39_9 {E : aEnv} {c : Nat} {ah : aHp} {st : List Value} {Q : Option Value → aHp → Prop} {a0 a1 a3 : Option Value} {x : Int32} : WP E c 39 9 [a0, a1, some (.int x), a3] (st) ah Q = WP E c 39 10 [a0, a1, some (.int x), a3] (.int x :: st) ah Q := wp_s i39_9 rfl rfl rfl rfl
theorem i39_10 : insAt 39 10 = some (.iload 3, 11) := by decide +kernel
theorem r39_10 {E : aEnv} {c : Nat} {ah : aHp} {st : List Value} {Q : Option Value → aHp → Prop} {a0 a1 a2 : Option Value} {x : Int32} : WP E c 39 10 [a0, a1, a2, some (.int x)] (st) ah Q = WP E c 39 11 [a0, a1, a2, some (.int x)] (.int x :: st) ah Q := wp_s i39_10 rfl rfl rfl rfl
theorem i39_11 : insAt 39 11 = some (.invokevirtual 37, 14) := by decide +kernel
theorem r39_11 {E : aEnv} {c : Nat} {ah ah1 : aHp} {r : Option Value} {st : List Value} {Q : Option Value → aHp → Prop} {a0 a1 a2 a3 : Option Value} {p0 : Nat} {p1 : Int32} {p2 : Int32} (h : EV E c 37 [.ref p0, .int p1, .int p2] ah r ah1) (h2 : oCI (hg E ah p0) = 2) (h3 : wds st ≤ 8) : WP E (c + 1) 39 11 [a0, a1, a2, a3] (.int p2 :: .int p1 :: .ref p0 :: st) ah Q = WP E (c + 1) 39 14 [a0, a1, a2, a3] (r.toList ++ st) ah1 Q := wp_call (As := [.ref p0, .int p1, .int p2]) i39_11 (fun _ => rfl) rfl mr37.1 (rcv_1 h2 mr37.2.2 (by decide)) h3 (by rw [mr37.2.1]; exact Nat.le_of_ble_eq_true rfl) h
theorem i39_14 : insAt 39 14 = some (.ifCond .eq 31, 17) := by decide +kernel
theorem r39_14 {E : aEnv} {c : Nat} {ah : aHp} {st : List Value} {Q : Option Value → aHp → Prop} {a0 a1 a2 a3 : Option Value} {x : Int32} : WP E c 39 14 [a0, a1, a2, a3] (.int x :: st) ah Q = if x = 0 then WP E c 39 31 [a0, a1, a2, a3] st ah Q else WP E c 39 17 [a0, a1, a2, a3] st ah Q := wp_j i39_14 rfl rfl rfl rfl
theorem i39_17 : insAt 39 17 = some (.aload 0, 18) := by decide +kernel
theorem r39_17 {E : aEnv} {c : Nat} {ah : aHp} {st : List Value} {Q : Option Value → aHp → Prop} {a1 a2 a3 : Option Value} {x : Nat} : WP E c 39 17 [some (.ref x), a1, a2, a3] (st) ah Q = WP E c 39 18 [some (.ref x), a1, a2, a3] (.ref x :: st) ah Q := wp_s i39_17 rfl rfl rfl rfl
theorem i39_18 : insAt 39 18 = some (.getfield 2052, 21) := by decide +kernel
theorem r39_18 {E : aEnv} {c : Nat} {ah : aHp} {st : List Value} {Q : Option Value → aHp → Prop} {a0 a1 a2 a3 : Option Value} {a : Nat} : WP E c 39 18 [a0, a1, a2, a3] (.ref a :: st) ah Q = WPo (oGF (hg E ah a) 2 5) (fun v => WP E c 39 21 [a0, a1, a2, a3] (v :: st) ah Q) := wp_getf i39_18
theorem i39_21 : insAt 39 21 = some (.iload 1, 22) := by decide +kernel
theorem r39_21 {E : aEnv} {c : Nat} {ah : aHp} {st : List Value} {Q : Option Value → aHp → Prop} {a0 a2 a3 : Option Value} {x : Int32} : WP E c 39 21 [a0, some (.int x), a2, a3] (st) ah Q = WP E c 39 22 [a0, some (.int x), a2, a3] (.int x :: st) ah Q := wp_s i39_21 rfl rfl rfl rfl
theorem i39_22 : insAt 39 22 = some (.aload 0, 23) := by decide +kernel
theorem r39_22 {E : aEnv} {c : Nat} {ah : aHp} {st : List Value} {Q : Option Value → aHp → Prop} {a1 a2 a3 : Option Value} {x : Nat} : WP E c 39 22 [some (.ref x), a1, a2, a3] (st) ah Q = WP E c 39 23 [some (.ref x), a1, a2, a3] (.ref x :: st) ah Q := wp_s i39_22 rfl rfl rfl rfl
theorem i39_23 : insAt 39 23 = some (.getfield 2010, 26) := by decide +kernel
theorem r39_23 {E : aEnv} {c : Nat} {ah : aHp} {st : List Value} {Q : Option Value → aHp → Prop} {a0 a1 a2 a3 : Option Value} {a : Nat} : WP E c 39 23 [a0, a1, a2, a3] (.ref a :: st) ah Q = WPo (oGF (hg E ah a) 2 1) (fun v => WP E c 39 26 [a0, a1, a2, a3] (v :: st) ah Q) := wp_getf i39_23
theorem i39_26 : insAt 39 26 = some (.imul, 27) := by decide +kernel
theorem r39_26 {E : aEnv} {c : Nat} {ah : aHp} {st : List Value} {Q : Option Value → aHp → Prop} {a0 a1 a2 a3 : Option Value} {x y : Int32} : WP E c 39 26 [a0, a1, a2, a3] (.int y :: .int x :: st) ah Q = WP E c 39 27 [a0, a1, a2, a3] (.int (x * y) :: st) ah Q := wp_s i39_26 rfl rfl rfl rfl
theorem i39_27 : insAt 39 27 = some (.iload 2, 28) := by decide +kernel
theorem r39_27 {E : aEnv} {c : Nat} {ah : aHp} {st : List Value} {Q : Option Value → aHp → Prop} {a0 a1 a3 : Option Value} {x : Int32} : WP E c 39 27 [a0, a1, some (.int x), a3] (st) ah Q = WP E c 39 28 [a0, a1, some (.int x), a3] (.int x :: st) ah Q := wp_s i39_27 rfl rfl rfl rfl
theorem i39_28 : insAt 39 28 = some (.iadd, 29) := by decide +kernel
theorem r39_28 {E : aEnv} {c : Nat} {ah : aHp} {st : List Value} {Q : Option Value → aHp → Prop} {a0 a1 a2 a3 : Option Value} {x y : Int32} : WP E c 39 28 [a0, a1, a2, a3] (.int y :: .int x :: st) ah Q = WP E c 39 29 [a0, a1, a2, a3] (.int (x + y) :: st) ah Q := wp_s i39_28 rfl rfl rfl rfl
theorem i39_29 : insAt 39 29 = some (.iload 3, 30) := by decide +kernel
theorem r39_29 {E : aEnv} {c : Nat} {ah : aHp} {st : List Value} {Q : Option Value → aHp → Prop} {a0 a1 a2 : Option Value} {x : Int32} : WP E c 39 29 [a0, a1, a2, some (.int x)] (st) ah Q = WP E c 39 30 [a0, a1, a2, some (.int x)] (.int x :: st) ah Q := wp_s i39_29 rfl rfl rfl rfl
theorem i39_30 : insAt 39 30 = some (.iastore, 31) := by decide +kernel
theorem r39_30 {E : aEnv} {c : Nat} {ah : aHp} {st : List Value} {Q : Option Value → aHp → Prop} {a0 a1 a2 a3 : Option Value} {x : Int32} {i : Int32} {a : Nat} : WP E c 39 30 [a0, a1, a2, a3] (.int x :: .int i :: .ref a :: st) ah Q = WPo (pI E ah (.int x :: .int i :: .ref a :: st)) (fun q9 => WP E c 39 31 [a0, a1, a2, a3] q9.1 q9.2 Q) := wp_hw i39_30 rfl rfl rfl rfl rfl rfl rfl rfl
theorem i39_31 : insAt 39 31 = some (.return_, 32) := by decide +kernel
theorem r39_31 {E : aEnv} {c : Nat} {ah : aHp} {Q : Option Value → aHp → Prop} {a0 a1 a2 a3 : Option Value} : WP E c 39 31 [a0, a1, a2, a3] ([]) ah Q = Q none ah := wp_rt i39_31 rfl
theorem e40 {E : aEnv} {c : Nat} {ah ahF : aHp} {r : Option Value} {p0 : Nat} {p1 : Int32} (h : WP E c 40 0 [some (.ref p0), some (.int p1), none, none, none] [] ah (fun r1 x1 => r1 = r ∧ x1 = ahF)) : EV E c 40 [.ref p0, .int p1] ah r ahF := EV.of (by rw [mr40.2.1]; exact h)
theorem i40_0 : insAt 40 0 = some (.aload 0, 1) := by decide +kernel
theorem r40_0 {E : aEnv} {c : Nat} {ah : aHp} {st : List Value} {Q : Option Value → aHp → Prop} {a1 a2 a3 a4 : Option Value} {x : Nat} : WP E c 40 0 [some (.ref x), a1, a2, a3, a4] (st) ah Q = WP E c 40 1 [some (.ref x), a1, a2, a3, a4] (.ref x :: st) ah Q := wp_s i40_0 rfl rfl rfl rfl
theorem i40_1 : insAt 40 1 = some (.iload 1, 2) := by decide +kernel
theorem r40_1 {E : aEnv} {c : Nat} {ah : aHp} {st : List Value} {Q : Option Value → aHp → Prop} {a0 a2 a3 a4 : Option Value} {x : Int32} : WP E c 40 1 [a0, some (.int x), a2, a3, a4] (st) ah Q = WP E c 40 2 [a0, some (.int x), a2, a3, a4] (.int x :: st) ah Q := wp_s i40_1 rfl rfl rfl rfl
theorem i40_2 : insAt 40 2 = some (.invokevirtual 34, 5) := by decide +kernel
theorem r40_2 {E : aEnv} {c : Nat} {ah ah1 : aHp} {r : Option Value} {st : List Value} {Q : Option Value → aHp → Prop} {a0 a1 a2 a3 a4 : Option Value} {p0 : Nat} {p1 : Int32} (h : EV E c 34 [.ref p0, .int p1] ah r ah1) (h2 : oCI (hg E ah p0) = 2) (h3 : wds st ≤ 8) : WP E (c + 1) 40 2 [a0, a1, a2, a3, a4] (.int p1 :: .ref p0 :: st) ah Q = WP E (c + 1) 40 5 [a0, a1, a2, a3, a4] (r.toList ++ st) ah1 Q := wp_call (As := [.ref p0, .int p1]) i40_2 (fun _ => rfl) rfl mr34.1 (rcv_1 h2 mr34.2.2 (by decide)) h3 (by rw [mr34.2.1]; exact Nat.le_of_ble_eq_true rfl) h
theorem i40_5 : insAt 40 5 = some (.ifCond .ne 12, 8) := by decide +kernel
theorem r40_5 {E : aEnv} {c : Nat} {ah : aHp} {st : List Value} {Q : Option Value → aHp → Prop} {a0 a1 a2 a3 a4 : Option Value} {x : Int32} : WP E c 40 5 [a0, a1, a2, a3, a4] (.int x :: st) ah Q = if ¬ x = 0 then WP E c 40 12 [a0, a1, a2, a3, a4] st ah Q else WP E c 40 8 [a0, a1, a2, a3, a4] st ah Q := wp_j i40_5 rfl rfl rfl rfl
theorem i40_8 : insAt 40 8 = some (.jsr_w (-1), 11) := by decide +kernel
theorem r40_8 {E : aEnv} {c : Nat} {ah : aHp} {st : List Value} {Q : Option Value → aHp → Prop} {a0 a1 a2 a3 a4 : Option Value} : WP E c 40 8 [a0, a1, a2, a3, a4] (st) ah Q = WP E c 40 11 [a0, a1, a2, a3, a4] (.long ((-1)) :: st) ah Q := wp_s i40_8 rfl rfl rfl rfl
theorem i40_11 : insAt 40 11 = some (.lreturn, 12) := by decide +kernel
theorem r40_11 {E : aEnv} {c : Nat} {ah : aHp} {Q : Option Value → aHp → Prop} {a0 a1 a2 a3 a4 : Option Value} {x : Int64} : WP E c 40 11 [a0, a1, a2, a3, a4] ([.long x]) ah Q = Q (some (.long x)) ah := wp_rt i40_11 rfl
theorem i40_12 : insAt 40 12 = some (.jsr_w 0, 13) := by decide +kernel
theorem r40_12 {E : aEnv} {c : Nat} {ah : aHp} {st : List Value} {Q : Option Value → aHp → Prop} {a0 a1 a2 a3 a4 : Option Value} : WP E c 40 12 [a0, a1, a2, a3, a4] (st) ah Q = WP E c 40 13 [a0, a1, a2, a3, a4] (.long (0) :: st) ah Q := wp_s i40_12 rfl rfl rfl rfl
theorem i40_13 : insAt 40 13 = some (.lstore 2, 14) := by decide +kernel
theorem r40_13 {E : aEnv} {c : Nat} {ah : aHp} {st : List Value} {Q : Option Value → aHp → Prop} {a0 a1 a2 a3 a4 : Option Value} {x : Int64} : WP E c 40 13 [a0, a1, a2, a3, a4] (.long x :: st) ah Q = WP E c 40 14 [a0, kil a1, some (.long x), none, a4] (st) ah Q := wp_s i40_13 rfl rfl rfl rfl
theorem i40_14 : insAt 40 14 = some (.iconst 0, 15) := by decide +kernel
theorem r40_14 {E : aEnv} {c : Nat} {ah : aHp} {st : List Value} {Q : Option Value → aHp → Prop} {a0 a1 a2 a3 a4 : Option Value} : WP E c 40 14 [a0, a1, a2, a3, a4] (st) ah Q = WP E c 40 15 [a0, a1, a2, a3, a4] (.int (0) :: st) ah Q := wp_s i40_14 rfl rfl rfl rfl
theorem i40_15 : insAt 40 15 = some (.istore 4, 17) := by decide +kernel
theorem r40_15 {E : aEnv} {c : Nat} {ah : aHp} {st : List Value} {Q : Option Value → aHp → Prop} {a0 a1 a2 a3 a4 : Option Value} {x : Int32} : WP E c 40 15 [a0, a1, a2, a3, a4] (.int x :: st) ah Q = WP E c 40 17 [a0, a1, a2, kil a3, some (.int x)] (st) ah Q := wp_s i40_15 rfl rfl rfl rfl
theorem i40_17 : insAt 40 17 = some (.iload 4, 19) := by decide +kernel
theorem r40_17 {E : aEnv} {c : Nat} {ah : aHp} {st : List Value} {Q : Option Value → aHp → Prop} {a0 a1 a2 a3 : Option Value} {x : Int32} : WP E c 40 17 [a0, a1, a2, a3, some (.int x)] (st) ah Q = WP E c 40 19 [a0, a1, a2, a3, some (.int x)] (.int x :: st) ah Q := wp_s i40_17 rfl rfl rfl rfl
theorem i40_19 : insAt 40 19 = some (.aload 0, 20) := by decide +kernel
theorem r40_19 {E : aEnv} {c : Nat} {ah : aHp} {st : List Value} {Q : Option Value → aHp → Prop} {a1 a2 a3 a4 : Option Value} {x : Nat} : WP E c 40 19 [some (.ref x), a1, a2, a3, a4] (st) ah Q = WP E c 40 20 [some (.ref x), a1, a2, a3, a4] (.ref x :: st) ah Q := wp_s i40_19 rfl rfl rfl rfl
theorem i40_20 : insAt 40 20 = some (.getfield 2010, 23) := by decide +kernel
theorem r40_20 {E : aEnv} {c : Nat} {ah : aHp} {st : List Value} {Q : Option Value → aHp → Prop} {a0 a1 a2 a3 a4 : Option Value} {a : Nat} : WP E c 40 20 [a0, a1, a2, a3, a4] (.ref a :: st) ah Q = WPo (oGF (hg E ah a) 2 1) (fun v => WP E c 40 23 [a0, a1, a2, a3, a4] (v :: st) ah Q) := wp_getf i40_20
theorem i40_23 : insAt 40 23 = some (.if_icmp .ge 58, 26) := by decide +kernel
theorem r40_23 {E : aEnv} {c : Nat} {ah : aHp} {st : List Value} {Q : Option Value → aHp → Prop} {a0 a1 a2 a3 a4 : Option Value} {x y : Int32} : WP E c 40 23 [a0, a1, a2, a3, a4] (.int y :: .int x :: st) ah Q = if y ≤ x then WP E c 40 58 [a0, a1, a2, a3, a4] st ah Q else WP E c 40 26 [a0, a1, a2, a3, a4] st ah Q := wp_j i40_23 rfl rfl rfl rfl
theorem i40_26 : insAt 40 26 = some (.lload 2, 27) := by decide +kernel
theorem r40_26 {E : aEnv} {c : Nat} {ah : aHp} {st : List Value} {Q : Option Value → aHp → Prop} {a0 a1 a3 a4 : Option Value} {x : Int64} : WP E c 40 26 [a0, a1, some (.long x), a3, a4] (st) ah Q = WP E c 40 27 [a0, a1, some (.long x), a3, a4] (.long x :: st) ah Q := wp_s i40_26 rfl rfl rfl rfl
theorem i40_27 : insAt 40 27 = some (.aload 0, 28) := by decide +kernel
theorem r40_27 {E : aEnv} {c : Nat} {ah : aHp} {st : List Value} {Q : Option Value → aHp → Prop} {a1 a2 a3 a4 : Option Value} {x : Nat} : WP E c 40 27 [some (.ref x), a1, a2, a3, a4] (st) ah Q = WP E c 40 28 [some (.ref x), a1, a2, a3, a4] (.ref x :: st) ah Q := wp_s i40_27 rfl rfl rfl rfl
theorem i40_28 : insAt 40 28 = some (.getfield 2052, 31) := by decide +kernel
theorem r40_28 {E : aEnv} {c : Nat} {ah : aHp} {st : List Value} {Q : Option Value → aHp → Prop} {a0 a1 a2 a3 a4 : Option Value} {a : Nat} : WP E c 40 28 [a0, a1, a2, a3, a4] (.ref a :: st) ah Q = WPo (oGF (hg E ah a) 2 5) (fun v => WP E c 40 31 [a0, a1, a2, a3, a4] (v :: st) ah Q) := wp_getf i40_28
theorem i40_31 : insAt 40 31 = some (.iload 1, 32) := by decide +kernel
theorem r40_31 {E : aEnv} {c : Nat} {ah : aHp} {st : List Value} {Q : Option Value → aHp → Prop} {a0 a2 a3 a4 : Option Value} {x : Int32} : WP E c 40 31 [a0, some (.int x), a2, a3, a4] (st) ah Q = WP E c 40 32 [a0, some (.int x), a2, a3, a4] (.int x :: st) ah Q := wp_s i40_31 rfl rfl rfl rfl
theorem i40_32 : insAt 40 32 = some (.aload 0, 33) := by decide +kernel
theorem r40_32 {E : aEnv} {c : Nat} {ah : aHp} {st : List Value} {Q : Option Value → aHp → Prop} {a1 a2 a3 a4 : Option Value} {x : Nat} : WP E c 40 32 [some (.ref x), a1, a2, a3, a4] (st) ah Q = WP E c 40 33 [some (.ref x), a1, a2, a3, a4] (.ref x :: st) ah Q := wp_s i40_32 rfl rfl rfl rfl
theorem i40_33 : insAt 40 33 = some (.getfield 2010, 36) := by decide +kernel
theorem r40_33 {E : aEnv} {c : Nat} {ah : aHp} {st : List Value} {Q : Option Value → aHp → Prop} {a0 a1 a2 a3 a4 : Option Value} {a : Nat} : WP E c 40 33 [a0, a1, a2, a3, a4] (.ref a :: st) ah Q = WPo (oGF (hg E ah a) 2 1) (fun v => WP E c 40 36 [a0, a1, a2, a3, a4] (v :: st) ah Q) := wp_getf i40_33
theorem i40_36 : insAt 40 36 = some (.imul, 37) := by decide +kernel
theorem r40_36 {E : aEnv} {c : Nat} {ah : aHp} {st : List Value} {Q : Option Value → aHp → Prop} {a0 a1 a2 a3 a4 : Option Value} {x y : Int32} : WP E c 40 36 [a0, a1, a2, a3, a4] (.int y :: .int x :: st) ah Q = WP E c 40 37 [a0, a1, a2, a3, a4] (.int (x * y) :: st) ah Q := wp_s i40_36 rfl rfl rfl rfl
theorem i40_37 : insAt 40 37 = some (.iload 4, 39) := by decide +kernel
theorem r40_37 {E : aEnv} {c : Nat} {ah : aHp} {st : List Value} {Q : Option Value → aHp → Prop} {a0 a1 a2 a3 : Option Value} {x : Int32} : WP E c 40 37 [a0, a1, a2, a3, some (.int x)] (st) ah Q = WP E c 40 39 [a0, a1, a2, a3, some (.int x)] (.int x :: st) ah Q := wp_s i40_37 rfl rfl rfl rfl
theorem i40_39 : insAt 40 39 = some (.iadd, 40) := by decide +kernel
theorem r40_39 {E : aEnv} {c : Nat} {ah : aHp} {st : List Value} {Q : Option Value → aHp → Prop} {a0 a1 a2 a3 a4 : Option Value} {x y : Int32} : WP E c 40 39 [a0, a1, a2, a3, a4] (.int y :: .int x :: st) ah Q = WP E c 40 40 [a0, a1, a2, a3, a4] (.int (x + y) :: st) ah Q := wp_s i40_39 rfl rfl rfl rfl
theorem i40_40 : insAt 40 40 = some (.iaload, 41) := by decide +kernel
theorem r40_40 {E : aEnv} {c : Nat} {ah : aHp} {st : List Value} {Q : Option Value → aHp → Prop} {a0 a1 a2 a3 a4 : Option Value} {i : Int32} {a : Nat} : WP E c 40 40 [a0, a1, a2, a3, a4] (.int i :: .ref a :: st) ah Q = WPo (gI E ah (.int i :: .ref a :: st)) (fun s9 => WP E c 40 41 [a0, a1, a2, a3, a4] s9 ah Q) := wp_hr i40_40 rfl rfl rfl rfl rfl rfl rfl rfl
theorem i40_41 : insAt 40 41 = some (.i2l, 42) := by decide +kernel
theorem r40_41 {E : aEnv} {c : Nat} {ah : aHp} {st : List Value} {Q : Option Value → aHp → Prop} {a0 a1 a2 a3 a4 : Option Value} {x : Int32} : WP E c 40 41 [a0, a1, a2, a3, a4] (.int x :: st) ah Q = WP E c 40 42 [a0, a1, a2, a3, a4] (.long x.toInt64 :: st) ah Q := wp_s i40_41 rfl rfl rfl rfl
theorem i40_42 : insAt 40 42 = some (.aload 0, 43) := by decide +kernel
theorem r40_42 {E : aEnv} {c : Nat} {ah : aHp} {st : List Value} {Q : Option Value → aHp → Prop} {a1 a2 a3 a4 : Option Value} {x : Nat} : WP E c 40 42 [some (.ref x), a1, a2, a3, a4] (st) ah Q = WP E c 40 43 [some (.ref x), a1, a2, a3, a4] (.ref x :: st) ah Q := wp_s i40_42 rfl rfl rfl rfl
theorem i40_43 : insAt 40 43 = some (.getfield 2032, 46) := by decide +kernel
theorem r40_43 {E : aEnv} {c : Nat} {ah : aHp} {st : List Value} {Q : Option Value → aHp → Prop} {a0 a1 a2 a3 a4 : Option Value} {a : Nat} : WP E c 40 43 [a0, a1, a2, a3, a4] (.ref a :: st) ah Q = WPo (oGF (hg E ah a) 2 3) (fun v => WP E c 40 46 [a0, a1, a2, a3, a4] (v :: st) ah Q) := wp_getf i40_43
theorem i40_46 : insAt 40 46 = some (.iload 4, 48) := by decide +kernel
theorem r40_46 {E : aEnv} {c : Nat} {ah : aHp} {st : List Value} {Q : Option Value → aHp → Prop} {a0 a1 a2 a3 : Option Value} {x : Int32} : WP E c 40 46 [a0, a1, a2, a3, some (.int x)] (st) ah Q = WP E c 40 48 [a0, a1, a2, a3, some (.int x)] (.int x :: st) ah Q := wp_s i40_46 rfl rfl rfl rfl
theorem i40_48 : insAt 40 48 = some (.laload, 49) := by decide +kernel
theorem r40_48 {E : aEnv} {c : Nat} {ah : aHp} {st : List Value} {Q : Option Value → aHp → Prop} {a0 a1 a2 a3 a4 : Option Value} {i : Int32} {a : Nat} : WP E c 40 48 [a0, a1, a2, a3, a4] (.int i :: .ref a :: st) ah Q = WPo (gL E ah (.int i :: .ref a :: st)) (fun s9 => WP E c 40 49 [a0, a1, a2, a3, a4] s9 ah Q) := wp_hr i40_48 rfl rfl rfl rfl rfl rfl rfl rfl
theorem i40_49 : insAt 40 49 = some (.lmul, 50) := by decide +kernel
theorem r40_49 {E : aEnv} {c : Nat} {ah : aHp} {st : List Value} {Q : Option Value → aHp → Prop} {a0 a1 a2 a3 a4 : Option Value} {x y : Int64} : WP E c 40 49 [a0, a1, a2, a3, a4] (.long y :: .long x :: st) ah Q = WP E c 40 50 [a0, a1, a2, a3, a4] (.long (x * y) :: st) ah Q := wp_s i40_49 rfl rfl rfl rfl
theorem i40_50 : insAt 40 50 = some (.ladd, 51) := by decide +kernel
theorem r40_50 {E : aEnv} {c : Nat} {ah : aHp} {st : List Value} {Q : Option Value → aHp → Prop} {a0 a1 a2 a3 a4 : Option Value} {x y : Int64} : WP E c 40 50 [a0, a1, a2, a3, a4] (.long y :: .long x :: st) ah Q = WP E c 40 51 [a0, a1, a2, a3, a4] (.long (x + y) :: st) ah Q := wp_s i40_50 rfl rfl rfl rfl
theorem i40_51 : insAt 40 51 = some (.lstore 2, 52) := by decide +kernel
theorem r40_51 {E : aEnv} {c : Nat} {ah : aHp} {st : List Value} {Q : Option Value → aHp → Prop} {a0 a1 a2 a3 a4 : Option Value} {x : Int64} : WP E c 40 51 [a0, a1, a2, a3, a4] (.long x :: st) ah Q = WP E c 40 52 [a0, kil a1, some (.long x), none, a4] (st) ah Q := wp_s i40_51 rfl rfl rfl rfl
theorem i40_52 : insAt 40 52 = some (.iinc 4 1, 55) := by decide +kernel
theorem r40_52 {E : aEnv} {c : Nat} {ah : aHp} {st : List Value} {Q : Option Value → aHp → Prop} {a0 a1 a2 a3 : Option Value} {x : Int32} : WP E c 40 52 [a0, a1, a2, a3, some (.int x)] (st) ah Q = WP E c 40 55 [a0, a1, a2, kil a3, some (.int (x + 1))] (st) ah Q := wp_s i40_52 rfl rfl rfl rfl
theorem i40_55 : insAt 40 55 = some (.goto 17, 58) := by decide +kernel
theorem r40_55 {E : aEnv} {c : Nat} {ah : aHp} {st : List Value} {Q : Option Value → aHp → Prop} {a0 a1 a2 a3 a4 : Option Value} : WP E c 40 55 [a0, a1, a2, a3, a4] (st) ah Q = WP E c 40 17 [a0, a1, a2, a3, a4] st ah Q := wp_s i40_55 rfl rfl rfl rfl
theorem i40_58 : insAt 40 58 = some (.lload 2, 59) := by decide +kernel
theorem r40_58 {E : aEnv} {c : Nat} {ah : aHp} {st : List Value} {Q : Option Value → aHp → Prop} {a0 a1 a3 a4 : Option Value} {x : Int64} : WP E c 40 58 [a0, a1, some (.long x), a3, a4] (st) ah Q = WP E c 40 59 [a0, a1, some (.long x), a3, a4] (.long x :: st) ah Q := wp_s i40_58 rfl rfl rfl rfl
theorem i40_59 : insAt 40 59 = some (.lreturn, 60) := by decide +kernel
theorem r40_59 {E : aEnv} {c : Nat} {ah : aHp} {Q : Option Value → aHp → Prop} {a0 a1 a2 a3 a4 : Option Value} {x : Int64} : WP E c 40 59 [a0, a1, a2, a3, a4] ([.long x]) ah Q = Q (some (.long x)) ah := wp_rt i40_59 rfl
theorem e41 {E : aEnv} {c : Nat} {ah ahF : aHp} {r : Option Value} {p0 : Nat} {p1 : Int64} {p2 : Int32} (h : WP E c 41 0 [some (.ref p0), some (.long p1), none, some (.int p2)] [] ah (fun r1 x1 => r1 = r ∧ x1 = ahF)) : EV E c 41 [.ref p0, .long p1, .int p2] ah r ahF := EV.of (by rw [mr41.2.1]; exact h)
theorem i41_0 : insAt 41 0 = some (.aload 0, 1) := by decide +kernel
theorem r41_0 {E : aEnv} {c : Nat} {ah : aHp} {st : List Value} {Q : Option Value → aHp → Prop} {a1 a2 a3 : Option Value} {x : Nat} : WP E c 41 0 [some (.ref x), a1, a2, a3] (st) ah Q = WP E c 41 1 [some (.ref x), a1, a2, a3] (.ref x :: st) ah Q := wp_s i41_0 rfl rfl rfl rfl
theorem i41_1 : insAt 41 1 = some (.iload 3, 2) := by decide +kernel
theorem r41_1 {E : aEnv} {c : Nat} {ah : aHp} {st : List Value} {Q : Option Value → aHp → Prop} {a0 a1 a2 : Option Value} {x : Int32} : WP E c 41 1 [a0, a1, a2, some (.int x)] (st) ah Q = WP E c 41 2 [a0, a1, a2, some (.int x)] (.int x :: st) ah Q := wp_s i41_1 rfl rfl rfl rfl
theorem i41_2 : insAt 41 2 = some (.invokevirtual 36, 5) := by decide +kernel
theorem r41_2 {E : aEnv} {c : Nat} {ah ah1 : aHp} {r : Option Value} {st : List Value} {Q : Option Value → aHp → Prop} {a0 a1 a2 a3 : Option Value} {p0 : Nat} {p1 : Int32} (h : EV E c 36 [.ref p0, .int p1] ah r ah1) (h2 : oCI (hg E ah p0) = 2) (h3 : wds st ≤ 8) : WP E (c + 1) 41 2 [a0, a1, a2, a3] (.int p1 :: .ref p0 :: st) ah Q = WP E (c + 1) 41 5 [a0, a1, a2, a3] (r.toList ++ st) ah1 Q := wp_call (As := [.ref p0, .int p1]) i41_2 (fun _ => rfl) rfl mr36.1 (rcv_1 h2 mr36.2.2 (by decide)) h3 (by rw [mr36.2.1]; exact Nat.le_of_ble_eq_true rfl) h
theorem i41_5 : insAt 41 5 = some (.ifCond .eq 28, 8) := by decide +kernel
theorem r41_5 {E : aEnv} {c : Nat} {ah : aHp} {st : List Value} {Q : Option Value → aHp → Prop} {a0 a1 a2 a3 : Option Value} {x : Int32} : WP E c 41 5 [a0, a1, a2, a3] (.int x :: st) ah Q = if x = 0 then WP E c 41 28 [a0, a1, a2, a3] st ah Q else WP E c 41 8 [a0, a1, a2, a3] st ah Q := wp_j i41_5 rfl rfl rfl rfl
theorem i41_8 : insAt 41 8 = some (.lload 1, 9) := by decide +kernel
theorem r41_8 {E : aEnv} {c : Nat} {ah : aHp} {st : List Value} {Q : Option Value → aHp → Prop} {a0 a2 a3 : Option Value} {x : Int64} : WP E c 41 8 [a0, some (.long x), a2, a3] (st) ah Q = WP E c 41 9 [a0, some (.long x), a2, a3] (.long x :: st) ah Q := wp_s i41_8 rfl rfl rfl rfl
theorem i41_9 : insAt 41 9 = some (.aload 0, 10) := by decide +kernel
theorem r41_9 {E : aEnv} {c : Nat} {ah : aHp} {st : List Value} {Q : Option Value → aHp → Prop} {a1 a2 a3 : Option Value} {x : Nat} : WP E c 41 9 [some (.ref x), a1, a2, a3] (st) ah Q = WP E c 41 10 [some (.ref x), a1, a2, a3] (.ref x :: st) ah Q := wp_s i41_9 rfl rfl rfl rfl
theorem i41_10 : insAt 41 10 = some (.getfield 2032, 13) := by decide +kernel
theorem r41_10 {E : aEnv} {c : Nat} {ah : aHp} {st : List Value} {Q : Option Value → aHp → Prop} {a0 a1 a2 a3 : Option Value} {a : Nat} : WP E c 41 10 [a0, a1, a2, a3] (.ref a :: st) ah Q = WPo (oGF (hg E ah a) 2 3) (fun v => WP E c 41 13 [a0, a1, a2, a3] (v :: st) ah Q) := wp_getf i41_10
theorem i41_13 : insAt 41 13 = some (.iload 3, 14) := by decide +kernel
theorem r41_13 {E : aEnv} {c : Nat} {ah : aHp} {st : List Value} {Q : Option Value → aHp → Prop} {a0 a1 a2 : Option Value} {x : Int32} : WP E c 41 13 [a0, a1, a2, some (.int x)] (st) ah Q = WP E c 41 14 [a0, a1, a2, some (.int x)] (.int x :: st) ah Q := wp_s i41_13 rfl rfl rfl rfl
theorem i41_14 : insAt 41 14 = some (.laload, 15) := by decide +kernel
theorem r41_14 {E : aEnv} {c : Nat} {ah : aHp} {st : List Value} {Q : Option Value → aHp → Prop} {a0 a1 a2 a3 : Option Value} {i : Int32} {a : Nat} : WP E c 41 14 [a0, a1, a2, a3] (.int i :: .ref a :: st) ah Q = WPo (gL E ah (.int i :: .ref a :: st)) (fun s9 => WP E c 41 15 [a0, a1, a2, a3] s9 ah Q) := wp_hr i41_14 rfl rfl rfl rfl rfl rfl rfl rfl
theorem i41_15 : insAt 41 15 = some (.ldiv, 16) := by decide +kernel
theorem r41_15 {E : aEnv} {c : Nat} {ah : aHp} {st : List Value} {Q : Option Value → aHp → Prop} {a0 a1 a2 a3 : Option Value} {x y : Int64} (hy : ¬ y = 0) : WP E c 41 15 [a0, a1, a2, a3] (.long y :: .long x :: st) ah Q = WP E c 41 16 [a0, a1, a2, a3] (.long (x / y) :: st) ah Q := wp_st (z := (16, [a0, a1, a2, a3], .long (x / y) :: st, ah)) i41_15 rfl rfl rfl (by simp [st1, skA, tD, hy])
theorem i41_16 : insAt 41 16 = some (.aload 0, 17) := by decide +kernel
theorem r41_16 {E : aEnv} {c : Nat} {ah : aHp} {st : List Value} {Q : Option Value → aHp → Prop} {a1 a2 a3 : Option Value} {x : Nat} : WP E c 41 16 [some (.ref x), a1, a2, a3] (st) ah Q = WP E c 41 17 [some (.ref x), a1, a2, a3] (.ref x :: st) ah Q := wp_s i41_16 rfl rfl rfl rfl
theorem i41_17 : insAt 41 17 = some (.getfield 2022, 20) := by decide +kernel
theorem r41_17 {E : aEnv} {c : Nat} {ah : aHp} {st : List Value} {Q : Option Value → aHp → Prop} {a0 a1 a2 a3 : Option Value} {a : Nat} : WP E c 41 17 [a0, a1, a2, a3] (.ref a :: st) ah Q = WPo (oGF (hg E ah a) 2 2) (fun v => WP E c 41 20 [a0, a1, a2, a3] (v :: st) ah Q) := wp_getf i41_17
theorem i41_20 : insAt 41 20 = some (.iload 3, 21) := by decide +kernel
theorem r41_20 {E : aEnv} {c : Nat} {ah : aHp} {st : List Value} {Q : Option Value → aHp → Prop} {a0 a1 a2 : Option Value} {x : Int32} : WP E c 41 20 [a0, a1, a2, some (.int x)] (st) ah Q = WP E c 41 21 [a0, a1, a2, some (.int x)] (.int x :: st) ah Q := wp_s i41_20 rfl rfl rfl rfl
theorem i41_21 : insAt 41 21 = some (.iaload, 22) := by decide +kernel
theorem r41_21 {E : aEnv} {c : Nat} {ah : aHp} {st : List Value} {Q : Option Value → aHp → Prop} {a0 a1 a2 a3 : Option Value} {i : Int32} {a : Nat} : WP E c 41 21 [a0, a1, a2, a3] (.int i :: .ref a :: st) ah Q = WPo (gI E ah (.int i :: .ref a :: st)) (fun s9 => WP E c 41 22 [a0, a1, a2, a3] s9 ah Q) := wp_hr i41_21 rfl rfl rfl rfl rfl rfl rfl rfl
theorem i41_22 : insAt 41 22 = some (.i2l, 23) := by decide +kernel
theorem r41_22 {E : aEnv} {c : Nat} {ah : aHp} {st : List Value} {Q : Option Value → aHp → Prop} {a0 a1 a2 a3 : Option Value} {x : Int32} : WP E c 41 22 [a0, a1, a2, a3] (.int x :: st) ah Q = WP E c 41 23 [a0, a1, a2, a3] (.long x.toInt64 :: st) ah Q := wp_s i41_22 rfl rfl rfl rfl
theorem i41_23 : insAt 41 23 = some (.lrem, 24) := by decide +kernel
theorem r41_23 {E : aEnv} {c : Nat} {ah : aHp} {st : List Value} {Q : Option Value → aHp → Prop} {a0 a1 a2 a3 : Option Value} {x y : Int64} (hy : ¬ y = 0) : WP E c 41 23 [a0, a1, a2, a3] (.long y :: .long x :: st) ah Q = WP E c 41 24 [a0, a1, a2, a3] (.long (x - x / y * y) :: st) ah Q := wp_st (z := (24, [a0, a1, a2, a3], .long (x - x / y * y) :: st, ah)) i41_23 rfl rfl rfl (by simp [st1, skA, tD, hy])
theorem i41_24 : insAt 41 24 = some (.l2i, 25) := by decide +kernel
theorem r41_24 {E : aEnv} {c : Nat} {ah : aHp} {st : List Value} {Q : Option Value → aHp → Prop} {a0 a1 a2 a3 : Option Value} {x : Int64} : WP E c 41 24 [a0, a1, a2, a3] (.long x :: st) ah Q = WP E c 41 25 [a0, a1, a2, a3] (.int x.toInt32 :: st) ah Q := wp_s i41_24 rfl rfl rfl rfl
theorem i41_25 : insAt 41 25 = some (.goto 29, 28) := by decide +kernel
theorem r41_25 {E : aEnv} {c : Nat} {ah : aHp} {st : List Value} {Q : Option Value → aHp → Prop} {a0 a1 a2 a3 : Option Value} : WP E c 41 25 [a0, a1, a2, a3] (st) ah Q = WP E c 41 29 [a0, a1, a2, a3] st ah Q := wp_s i41_25 rfl rfl rfl rfl
theorem i41_28 : insAt 41 28 = some (.iconst 0, 29) := by decide +kernel
theorem r41_28 {E : aEnv} {c : Nat} {ah : aHp} {st : List Value} {Q : Option Value → aHp → Prop} {a0 a1 a2 a3 : Option Value} : WP E c 41 28 [a0, a1, a2, a3] (st) ah Q = WP E c 41 29 [a0, a1, a2, a3] (.int (0) :: st) ah Q := wp_s i41_28 rfl rfl rfl rfl
theorem i41_29 : insAt 41 29 = some (.ireturn, 30) := by decide +kernel
theorem r41_29 {E : aEnv} {c : Nat} {ah : aHp} {Q : Option Value → aHp → Prop} {a0 a1 a2 a3 : Option Value} {x : Int32} : WP E c 41 29 [a0, a1, a2, a3] ([.int x]) ah Q = Q (some (.int x)) ah := wp_rt i41_29 rfl
theorem e42 {E : aEnv} {c : Nat} {ah ahF : aHp} {r : Option Value} {p0 : Nat} {p1 : Nat} (h : WP E c 42 0 [some (.ref p0), some (.ref p1), none] [] ah (fun r1 x1 => r1 = r ∧ x1 = ahF)) : EV E c 42 [.ref p0, .ref p1] ah r ahF := EV.of (by rw [mr42.2.1]; exact h)
theorem i42_0 : insAt 42 0 = some (.iconst 0, 1) := by decide +kernel
theorem r42_0 {E : aEnv} {c : Nat} {ah : aHp} {st : List Value} {Q : Option Value → aHp → Prop} {a0 a1 a2 : Option Value} : WP E c 42 0 [a0, a1, a2] (st) ah Q = WP E c 42 1 [a0, a1, a2] (.int (0) :: st) ah Q := wp_s i42_0 rfl rfl rfl rfl
theorem i42_1 : insAt 42 1 = some (.istore 2, 2) := by decide +kernel
theorem r42_1 {E : aEnv} {c : Nat} {ah : aHp} {st : List Value} {Q : Option Value → aHp → Prop} {a0 a1 a2 : Option Value} {x : Int32} : WP E c 42 1 [a0, a1, a2] (.int x :: st) ah Q = WP E c 42 2 [a0, kil a1, some (.int x)] (st) ah Q := wp_s i42_1 rfl rfl rfl rfl
theorem i42_2 : insAt 42 2 = some (.iload 2, 3) := by decide +kernel
theorem r42_2 {E : aEnv} {c : Nat} {ah : aHp} {st : List Value} {Q : Option Value → aHp → Prop} {a0 a1 : Option Value} {x : Int32} : WP E c 42 2 [a0, a1, some (.int x)] (st) ah Q = WP E c 42 3 [a0, a1, some (.int x)] (.int x :: st) ah Q := wp_s i42_2 rfl rfl rfl rfl
theorem i42_3 : insAt 42 3 = some (.aload 0, 4) := by decide +kernel
theorem r42_3 {E : aEnv} {c : Nat} {ah : aHp} {st : List Value} {Q : Option Value → aHp → Prop} {a1 a2 : Option Value} {x : Nat} : WP E c 42 3 [some (.ref x), a1, a2] (st) ah Q = WP E c 42 4 [some (.ref x), a1, a2] (.ref x :: st) ah Q := wp_s i42_3 rfl rfl rfl rfl
theorem i42_4 : insAt 42 4 = some (.getfield 2000, 7) := by decide +kernel
theorem r42_4 {E : aEnv} {c : Nat} {ah : aHp} {st : List Value} {Q : Option Value → aHp → Prop} {a0 a1 a2 : Option Value} {a : Nat} : WP E c 42 4 [a0, a1, a2] (.ref a :: st) ah Q = WPo (oGF (hg E ah a) 2 0) (fun v => WP E c 42 7 [a0, a1, a2] (v :: st) ah Q) := wp_getf i42_4
theorem i42_7 : insAt 42 7 = some (.if_icmp .ge 30, 10) := by decide +kernel
theorem r42_7 {E : aEnv} {c : Nat} {ah : aHp} {st : List Value} {Q : Option Value → aHp → Prop} {a0 a1 a2 : Option Value} {x y : Int32} : WP E c 42 7 [a0, a1, a2] (.int y :: .int x :: st) ah Q = if y ≤ x then WP E c 42 30 [a0, a1, a2] st ah Q else WP E c 42 10 [a0, a1, a2] st ah Q := wp_j i42_7 rfl rfl rfl rfl
theorem i42_10 : insAt 42 10 = some (.iload 2, 11) := by decide +kernel
theorem r42_10 {E : aEnv} {c : Nat} {ah : aHp} {st : List Value} {Q : Option Value → aHp → Prop} {a0 a1 : Option Value} {x : Int32} : WP E c 42 10 [a0, a1, some (.int x)] (st) ah Q = WP E c 42 11 [a0, a1, some (.int x)] (.int x :: st) ah Q := wp_s i42_10 rfl rfl rfl rfl
theorem i42_11 : insAt 42 11 = some (.aload 1, 12) := by decide +kernel
theorem r42_11 {E : aEnv} {c : Nat} {ah : aHp} {st : List Value} {Q : Option Value → aHp → Prop} {a0 a2 : Option Value} {x : Nat} : WP E c 42 11 [a0, some (.ref x), a2] (st) ah Q = WP E c 42 12 [a0, some (.ref x), a2] (.ref x :: st) ah Q := wp_s i42_11 rfl rfl rfl rfl
theorem r42_11n {E : aEnv} {c : Nat} {ah : aHp} {st : List Value} {Q : Option Value → aHp → Prop} {a0 a2 : Option Value} : WP E c 42 11 [a0, some .null, a2] (st) ah Q = WP E c 42 12 [a0, some .null, a2] (.null :: st) ah Q := wp_s i42_11 rfl rfl rfl rfl
theorem i42_12 : insAt 42 12 = some (.arraylength, 13) := by decide +kernel
theorem r42_12 {E : aEnv} {c : Nat} {ah : aHp} {st : List Value} {Q : Option Value → aHp → Prop} {a0 a1 a2 : Option Value} {a : Nat} : WP E c 42 12 [a0, a1, a2] (.ref a :: st) ah Q = WPo (gN E ah (.ref a :: st)) (fun s9 => WP E c 42 13 [a0, a1, a2] s9 ah Q) := wp_hr i42_12 rfl rfl rfl rfl rfl rfl rfl rfl
theorem i42_13 : insAt 42 13 = some (.if_icmp .ge 30, 16) := by decide +kernel
theorem r42_13 {E : aEnv} {c : Nat} {ah : aHp} {st : List Value} {Q : Option Value → aHp → Prop} {a0 a1 a2 : Option Value} {x y : Int32} : WP E c 42 13 [a0, a1, a2] (.int y :: .int x :: st) ah Q = if y ≤ x then WP E c 42 30 [a0, a1, a2] st ah Q else WP E c 42 16 [a0, a1, a2] st ah Q := wp_j i42_13 rfl rfl rfl rfl
theorem i42_16 : insAt 42 16 = some (.aload 1, 17) := by decide +kernel
theorem r42_16 {E : aEnv} {c : Nat} {ah : aHp} {st : List Value} {Q : Option Value → aHp → Prop} {a0 a2 : Option Value} {x : Nat} : WP E c 42 16 [a0, some (.ref x), a2] (st) ah Q = WP E c 42 17 [a0, some (.ref x), a2] (.ref x :: st) ah Q := wp_s i42_16 rfl rfl rfl rfl
theorem r42_16n {E : aEnv} {c : Nat} {ah : aHp} {st : List Value} {Q : Option Value → aHp → Prop} {a0 a2 : Option Value} : WP E c 42 16 [a0, some .null, a2] (st) ah Q = WP E c 42 17 [a0, some .null, a2] (.null :: st) ah Q := wp_s i42_16 rfl rfl rfl rfl
theorem i42_17 : insAt 42 17 = some (.iload 2, 18) := by decide +kernel
theorem r42_17 {E : aEnv} {c : Nat} {ah : aHp} {st : List Value} {Q : Option Value → aHp → Prop} {a0 a1 : Option Value} {x : Int32} : WP E c 42 17 [a0, a1, some (.int x)] (st) ah Q = WP E c 42 18 [a0, a1, some (.int x)] (.int x :: st) ah Q := wp_s i42_17 rfl rfl rfl rfl
theorem i42_18 : insAt 42 18 = some (.aload 0, 19) := by decide +kernel
theorem r42_18 {E : aEnv} {c : Nat} {ah : aHp} {st : List Value} {Q : Option Value → aHp → Prop} {a1 a2 : Option Value} {x : Nat} : WP E c 42 18 [some (.ref x), a1, a2] (st) ah Q = WP E c 42 19 [some (.ref x), a1, a2] (.ref x :: st) ah Q := wp_s i42_18 rfl rfl rfl rfl
theorem i42_19 : insAt 42 19 = some (.iload 2, 20) := by decide +kernel
theorem r42_19 {E : aEnv} {c : Nat} {ah : aHp} {st : List Value} {Q : Option Value → aHp → Prop} {a0 a1 : Option Value} {x : Int32} : WP E c 42 19 [a0, a1, some (.int x)] (st) ah Q = WP E c 42 20 [a0, a1, some (.int x)] (.int x :: st) ah Q := wp_s i42_19 rfl rfl rfl rfl
theorem i42_20 : insAt 42 20 = some (.invokevirtual 40, 23) := by decide +kernel
theorem r42_20 {E : aEnv} {c : Nat} {ah ah1 : aHp} {r : Option Value} {st : List Value} {Q : Option Value → aHp → Prop} {a0 a1 a2 : Option Value} {p0 : Nat} {p1 : Int32} (h : EV E c 40 [.ref p0, .int p1] ah r ah1) (h2 : oCI (hg E ah p0) = 2) (h3 : wds st ≤ 8) : WP E (c + 1) 42 20 [a0, a1, a2] (.int p1 :: .ref p0 :: st) ah Q = WP E (c + 1) 42 23 [a0, a1, a2] (r.toList ++ st) ah1 Q := wp_call (As := [.ref p0, .int p1]) i42_20 (fun _ => rfl) rfl mr40.1 (rcv_1 h2 mr40.2.2 (by decide)) h3 (by rw [mr40.2.1]; exact Nat.le_of_ble_eq_true rfl) h
theorem i42_23 : insAt 42 23 = some (.lastore, 24) := by decide +kernel
theorem r42_23 {E : aEnv} {c : Nat} {ah : aHp} {st : List Value} {Q : Option Value → aHp → Prop} {a0 a1 a2 : Option Value} {x : Int64} {i : Int32} {a : Nat} : WP E c 42 23 [a0, a1, a2] (.long x :: .int i :: .ref a :: st) ah Q = WPo (pL E ah (.long x :: .int i :: .ref a :: st)) (fun q9 => WP E c 42 24 [a0, a1, a2] q9.1 q9.2 Q) := wp_hw i42_23 rfl rfl rfl rfl rfl rfl rfl rfl
theorem i42_24 : insAt 42 24 = some (.iinc 2 1, 27) := by decide +kernel
theorem r42_24 {E : aEnv} {c : Nat} {ah : aHp} {st : List Value} {Q : Option Value → aHp → Prop} {a0 a1 : Option Value} {x : Int32} : WP E c 42 24 [a0, a1, some (.int x)] (st) ah Q = WP E c 42 27 [a0, kil a1, some (.int (x + 1))] (st) ah Q := wp_s i42_24 rfl rfl rfl rfl
theorem i42_27 : insAt 42 27 = some (.goto 2, 30) := by decide +kernel
theorem r42_27 {E : aEnv} {c : Nat} {ah : aHp} {st : List Value} {Q : Option Value → aHp → Prop} {a0 a1 a2 : Option Value} : WP E c 42 27 [a0, a1, a2] (st) ah Q = WP E c 42 2 [a0, a1, a2] st ah Q := wp_s i42_27 rfl rfl rfl rfl
theorem i42_30 : insAt 42 30 = some (.return_, 31) := by decide +kernel
theorem r42_30 {E : aEnv} {c : Nat} {ah : aHp} {Q : Option Value → aHp → Prop} {a0 a1 a2 : Option Value} : WP E c 42 30 [a0, a1, a2] ([]) ah Q = Q none ah := wp_rt i42_30 rfl
theorem e43 {E : aEnv} {c : Nat} {ah ahF : aHp} {r : Option Value} {p0 : Nat} {p1 : Nat} {p2 : Int32} (h : WP E c 43 0 [some (.ref p0), some (.ref p1), some (.int p2), none, none, none, none] [] ah (fun r1 x1 => r1 = r ∧ x1 = ahF)) : EV E c 43 [.ref p0, .ref p1, .int p2] ah r ahF := EV.of (by rw [mr43.2.1]; exact h)
theorem e43n1 {E : aEnv} {c : Nat} {ah ahF : aHp} {r : Option Value} {p0 : Nat} {p2 : Int32} (h : WP E c 43 0 [some (.ref p0), some .null, some (.int p2), none, none, none, none] [] ah (fun r1 x1 => r1 = r ∧ x1 = ahF)) : EV E c 43 [.ref p0, .null, .int p2] ah r ahF := EV.of (by rw [mr43.2.1]; exact h)
theorem i43_0 : insAt 43 0 = some (.aload 0, 1) := by decide +kernel
theorem r43_0 {E : aEnv} {c : Nat} {ah : aHp} {st : List Value} {Q : Option Value → aHp → Prop} {a1 a2 a3 a4 a5 a6 : Option Value} {x : Nat} : WP E c 43 0 [some (.ref x), a1, a2, a3, a4, a5, a6] (st) ah Q = WP E c 43 1 [some (.ref x), a1, a2, a3, a4, a5, a6] (.ref x :: st) ah Q := wp_s i43_0 rfl rfl rfl rfl
theorem i43_1 : insAt 43 1 = some (.getfield 2082, 4) := by decide +kernel
theorem r43_1 {E : aEnv} {c : Nat} {ah : aHp} {st : List Value} {Q : Option Value → aHp → Prop} {a0 a1 a2 a3 a4 a5 a6 : Option Value} {a : Nat} : WP E c 43 1 [a0, a1, a2, a3, a4, a5, a6] (.ref a :: st) ah Q = WPo (oGF (hg E ah a) 2 8) (fun v => WP E c 43 4 [a0, a1, a2, a3, a4, a5, a6] (v :: st) ah Q) := wp_getf i43_1
theorem i43_4 : insAt 43 4 = some (.jsr_w 0, 5) := by decide +kernel
theorem r43_4 {E : aEnv} {c : Nat} {ah : aHp} {st : List Value} {Q : Option Value → aHp → Prop} {a0 a1 a2 a3 a4 a5 a6 : Option Value} : WP E c 43 4 [a0, a1, a2, a3, a4, a5, a6] (st) ah Q = WP E c 43 5 [a0, a1, a2, a3, a4, a5, a6] (.long (0) :: st) ah Q := wp_s i43_4 rfl rfl rfl rfl
theorem i43_5 : insAt 43 5 = some (.invokestatic 296, 8) := by decide +kernel
theorem r43_5 {E : aEnv} {c : Nat} {ah ah1 : aHp} {r : Option Value} {st : List Value} {Q : Option Value → aHp → Prop} {a0 a1 a2 a3 a4 a5 a6 : Option Value} {p0 : Nat} {p1 : Int64} (h : EV E c 296 [.ref p0, .long p1] ah r ah1) (h3 : wds st ≤ 8) : WP E (c + 1) 43 5 [a0, a1, a2, a3, a4, a5, a6] (.long p1 :: .ref p0 :: st) ah Q = WP E (c + 1) 43 8 [a0, a1, a2, a3, a4, a5, a6] (r.toList ++ st) ah1 Q := wp_call (As := [.ref p0, .long p1]) i43_5 (fun _ => rfl) rfl mr296.1 rfl h3 (by rw [mr296.2.1]; exact Nat.le_of_ble_eq_true rfl) h
theorem i43_8 : insAt 43 8 = some (.iconst 0, 9) := by decide +kernel
theorem r43_8 {E : aEnv} {c : Nat} {ah : aHp} {st : List Value} {Q : Option Value → aHp → Prop} {a0 a1 a2 a3 a4 a5 a6 : Option Value} : WP E c 43 8 [a0, a1, a2, a3, a4, a5, a6] (st) ah Q = WP E c 43 9 [a0, a1, a2, a3, a4, a5, a6] (.int (0) :: st) ah Q := wp_s i43_8 rfl rfl rfl rfl
theorem i43_9 : insAt 43 9 = some (.istore 3, 10) := by decide +kernel
theorem r43_9 {E : aEnv} {c : Nat} {ah : aHp} {st : List Value} {Q : Option Value → aHp → Prop} {a0 a1 a2 a3 a4 a5 a6 : Option Value} {x : Int32} : WP E c 43 9 [a0, a1, a2, a3, a4, a5, a6] (.int x :: st) ah Q = WP E c 43 10 [a0, a1, kil a2, some (.int x), a4, a5, a6] (st) ah Q := wp_s i43_9 rfl rfl rfl rfl
theorem i43_10 : insAt 43 10 = some (.iload 3, 11) := by decide +kernel
theorem r43_10 {E : aEnv} {c : Nat} {ah : aHp} {st : List Value} {Q : Option Value → aHp → Prop} {a0 a1 a2 a4 a5 a6 : Option Value} {x : Int32} : WP E c 43 10 [a0, a1, a2, some (.int x), a4, a5, a6] (st) ah Q = WP E c 43 11 [a0, a1, a2, some (.int x), a4, a5, a6] (.int x :: st) ah Q := wp_s i43_10 rfl rfl rfl rfl
theorem i43_11 : insAt 43 11 = some (.iload 2, 12) := by decide +kernel
theorem r43_11 {E : aEnv} {c : Nat} {ah : aHp} {st : List Value} {Q : Option Value → aHp → Prop} {a0 a1 a3 a4 a5 a6 : Option Value} {x : Int32} : WP E c 43 11 [a0, a1, some (.int x), a3, a4, a5, a6] (st) ah Q = WP E c 43 12 [a0, a1, some (.int x), a3, a4, a5, a6] (.int x :: st) ah Q := wp_s i43_11 rfl rfl rfl rfl
theorem i43_12 : insAt 43 12 = some (.if_icmp .ge 38, 15) := by decide +kernel
theorem r43_12 {E : aEnv} {c : Nat} {ah : aHp} {st : List Value} {Q : Option Value → aHp → Prop} {a0 a1 a2 a3 a4 a5 a6 : Option Value} {x y : Int32} : WP E c 43 12 [a0, a1, a2, a3, a4, a5, a6] (.int y :: .int x :: st) ah Q = if y ≤ x then WP E c 43 38 [a0, a1, a2, a3, a4, a5, a6] st ah Q else WP E c 43 15 [a0, a1, a2, a3, a4, a5, a6] st ah Q := wp_j i43_12 rfl rfl rfl rfl
theorem i43_15 : insAt 43 15 = some (.iload 3, 16) := by decide +kernel
theorem r43_15 {E : aEnv} {c : Nat} {ah : aHp} {st : List Value} {Q : Option Value → aHp → Prop} {a0 a1 a2 a4 a5 a6 : Option Value} {x : Int32} : WP E c 43 15 [a0, a1, a2, some (.int x), a4, a5, a6] (st) ah Q = WP E c 43 16 [a0, a1, a2, some (.int x), a4, a5, a6] (.int x :: st) ah Q := wp_s i43_15 rfl rfl rfl rfl
theorem i43_16 : insAt 43 16 = some (.iconst 7, 18) := by decide +kernel
theorem r43_16 {E : aEnv} {c : Nat} {ah : aHp} {st : List Value} {Q : Option Value → aHp → Prop} {a0 a1 a2 a3 a4 a5 a6 : Option Value} : WP E c 43 16 [a0, a1, a2, a3, a4, a5, a6] (st) ah Q = WP E c 43 18 [a0, a1, a2, a3, a4, a5, a6] (.int (7) :: st) ah Q := wp_s i43_16 rfl rfl rfl rfl
theorem i43_18 : insAt 43 18 = some (.if_icmp .ge 38, 21) := by decide +kernel
theorem r43_18 {E : aEnv} {c : Nat} {ah : aHp} {st : List Value} {Q : Option Value → aHp → Prop} {a0 a1 a2 a3 a4 a5 a6 : Option Value} {x y : Int32} : WP E c 43 18 [a0, a1, a2, a3, a4, a5, a6] (.int y :: .int x :: st) ah Q = if y ≤ x then WP E c 43 38 [a0, a1, a2, a3, a4, a5, a6] st ah Q else WP E c 43 21 [a0, a1, a2, a3, a4, a5, a6] st ah Q := wp_j i43_18 rfl rfl rfl rfl
theorem i43_21 : insAt 43 21 = some (.aload 0, 22) := by decide +kernel
theorem r43_21 {E : aEnv} {c : Nat} {ah : aHp} {st : List Value} {Q : Option Value → aHp → Prop} {a1 a2 a3 a4 a5 a6 : Option Value} {x : Nat} : WP E c 43 21 [some (.ref x), a1, a2, a3, a4, a5, a6] (st) ah Q = WP E c 43 22 [some (.ref x), a1, a2, a3, a4, a5, a6] (.ref x :: st) ah Q := wp_s i43_21 rfl rfl rfl rfl
theorem i43_22 : insAt 43 22 = some (.getfield 2082, 25) := by decide +kernel
theorem r43_22 {E : aEnv} {c : Nat} {ah : aHp} {st : List Value} {Q : Option Value → aHp → Prop} {a0 a1 a2 a3 a4 a5 a6 : Option Value} {a : Nat} : WP E c 43 22 [a0, a1, a2, a3, a4, a5, a6] (.ref a :: st) ah Q = WPo (oGF (hg E ah a) 2 8) (fun v => WP E c 43 25 [a0, a1, a2, a3, a4, a5, a6] (v :: st) ah Q) := wp_getf i43_22
theorem i43_25 : insAt 43 25 = some (.iload 3, 26) := by decide +kernel
theorem r43_25 {E : aEnv} {c : Nat} {ah : aHp} {st : List Value} {Q : Option Value → aHp → Prop} {a0 a1 a2 a4 a5 a6 : Option Value} {x : Int32} : WP E c 43 25 [a0, a1, a2, some (.int x), a4, a5, a6] (st) ah Q = WP E c 43 26 [a0, a1, a2, some (.int x), a4, a5, a6] (.int x :: st) ah Q := wp_s i43_25 rfl rfl rfl rfl
theorem i43_26 : insAt 43 26 = some (.aload 1, 27) := by decide +kernel
theorem r43_26 {E : aEnv} {c : Nat} {ah : aHp} {st : List Value} {Q : Option Value → aHp → Prop} {a0 a2 a3 a4 a5 a6 : Option Value} {x : Nat} : WP E c 43 26 [a0, some (.ref x), a2, a3, a4, a5, a6] (st) ah Q = WP E c 43 27 [a0, some (.ref x), a2, a3, a4, a5, a6] (.ref x :: st) ah Q := wp_s i43_26 rfl rfl rfl rfl
theorem r43_26n {E : aEnv} {c : Nat} {ah : aHp} {st : List Value} {Q : Option Value → aHp → Prop} {a0 a2 a3 a4 a5 a6 : Option Value} : WP E c 43 26 [a0, some .null, a2, a3, a4, a5, a6] (st) ah Q = WP E c 43 27 [a0, some .null, a2, a3, a4, a5, a6] (.null :: st) ah Q := wp_s i43_26 rfl rfl rfl rfl
theorem i43_27 : insAt 43 27 = some (.iload 3, 28) := by decide +kernel
theorem r43_27 {E : aEnv} {c : Nat} {ah : aHp} {st : List Value} {Q : Option Value → aHp → Prop} {a0 a1 a2 a4 a5 a6 : Option Value} {x : Int32} : WP E c 43 27 [a0, a1, a2, some (.int x), a4, a5, a6] (st) ah Q = WP E c 43 28 [a0, a1, a2, some (.int x), a4, a5, a6] (.int x :: st) ah Q := wp_s i43_27 rfl rfl rfl rfl
theorem i43_28 : insAt 43 28 = some (.invokevirtual 139, 31) := by decide +kernel
theorem r43_28 {E : aEnv} {c : Nat} {ah ah1 : aHp} {r : Option Value} {st : List Value} {Q : Option Value → aHp → Prop} {a0 a1 a2 a3 a4 a5 a6 : Option Value} {p0 : Nat} {p1 : Int32} (h : EV E c 139 [.ref p0, .int p1] ah r ah1) (h2 : oCI (hg E ah p0) = 9) (h3 : wds st ≤ 8) : WP E (c + 1) 43 28 [a0, a1, a2, a3, a4, a5, a6] (.int p1 :: .ref p0 :: st) ah Q = WP E (c + 1) 43 31 [a0, a1, a2, a3, a4, a5, a6] (r.toList ++ st) ah1 Q := wp_call (As := [.ref p0, .int p1]) i43_28 (fun _ => rfl) rfl mr139.1 (rcv_1 h2 mr139.2.2 (by decide)) h3 (by rw [mr139.2.1]; exact Nat.le_of_ble_eq_true rfl) h
theorem i43_31 : insAt 43 31 = some (.lastore, 32) := by decide +kernel
theorem r43_31 {E : aEnv} {c : Nat} {ah : aHp} {st : List Value} {Q : Option Value → aHp → Prop} {a0 a1 a2 a3 a4 a5 a6 : Option Value} {x : Int64} {i : Int32} {a : Nat} : WP E c 43 31 [a0, a1, a2, a3, a4, a5, a6] (.long x :: .int i :: .ref a :: st) ah Q = WPo (pL E ah (.long x :: .int i :: .ref a :: st)) (fun q9 => WP E c 43 32 [a0, a1, a2, a3, a4, a5, a6] q9.1 q9.2 Q) := wp_hw i43_31 rfl rfl rfl rfl rfl rfl rfl rfl
theorem i43_32 : insAt 43 32 = some (.iinc 3 1, 35) := by decide +kernel
theorem r43_32 {E : aEnv} {c : Nat} {ah : aHp} {st : List Value} {Q : Option Value → aHp → Prop} {a0 a1 a2 a4 a5 a6 : Option Value} {x : Int32} : WP E c 43 32 [a0, a1, a2, some (.int x), a4, a5, a6] (st) ah Q = WP E c 43 35 [a0, a1, kil a2, some (.int (x + 1)), a4, a5, a6] (st) ah Q := wp_s i43_32 rfl rfl rfl rfl
theorem i43_35 : insAt 43 35 = some (.goto 10, 38) := by decide +kernel
theorem r43_35 {E : aEnv} {c : Nat} {ah : aHp} {st : List Value} {Q : Option Value → aHp → Prop} {a0 a1 a2 a3 a4 a5 a6 : Option Value} : WP E c 43 35 [a0, a1, a2, a3, a4, a5, a6] (st) ah Q = WP E c 43 10 [a0, a1, a2, a3, a4, a5, a6] st ah Q := wp_s i43_35 rfl rfl rfl rfl
theorem i43_38 : insAt 43 38 = some (.aload 0, 39) := by decide +kernel
theorem r43_38 {E : aEnv} {c : Nat} {ah : aHp} {st : List Value} {Q : Option Value → aHp → Prop} {a1 a2 a3 a4 a5 a6 : Option Value} {x : Nat} : WP E c 43 38 [some (.ref x), a1, a2, a3, a4, a5, a6] (st) ah Q = WP E c 43 39 [some (.ref x), a1, a2, a3, a4, a5, a6] (.ref x :: st) ah Q := wp_s i43_38 rfl rfl rfl rfl
theorem i43_39 : insAt 43 39 = some (.getfield 2082, 42) := by decide +kernel
theorem r43_39 {E : aEnv} {c : Nat} {ah : aHp} {st : List Value} {Q : Option Value → aHp → Prop} {a0 a1 a2 a3 a4 a5 a6 : Option Value} {a : Nat} : WP E c 43 39 [a0, a1, a2, a3, a4, a5, a6] (.ref a :: st) ah Q = WPo (oGF (hg E ah a) 2 8) (fun v => WP E c 43 42 [a0, a1, a2, a3, a4, a5, a6] (v :: st) ah Q) := wp_getf i43_39
theorem i43_42 : insAt 43 42 = some (.iload 2, 43) := by decide +kernel
theorem r43_42 {E : aEnv} {c : Nat} {ah : aHp} {st : List Value} {Q : Option Value → aHp → Prop} {a0 a1 a3 a4 a5 a6 : Option Value} {x : Int32} : WP E c 43 42 [a0, a1, some (.int x), a3, a4, a5, a6] (st) ah Q = WP E c 43 43 [a0, a1, some (.int x), a3, a4, a5, a6] (.int x :: st) ah Q := wp_s i43_42 rfl rfl rfl rfl
theorem i43_43 : insAt 43 43 = some (.invokestatic 28, 46) := by decide +kernel
theorem r43_43 {E : aEnv} {c : Nat} {ah ah1 : aHp} {r : Option Value} {st : List Value} {Q : Option Value → aHp → Prop} {a0 a1 a2 a3 a4 a5 a6 : Option Value} {p0 : Nat} {p1 : Int32} (h : EV E c 28 [.ref p0, .int p1] ah r ah1) (h3 : wds st ≤ 8) : WP E (c + 1) 43 43 [a0, a1, a2, a3, a4, a5, a6] (.int p1 :: .ref p0 :: st) ah Q = WP E (c + 1) 43 46 [a0, a1, a2, a3, a4, a5, a6] (r.toList ++ st) ah1 Q := wp_call (As := [.ref p0, .int p1]) i43_43 (fun _ => rfl) rfl mr28.1 rfl h3 (by rw [mr28.2.1]; exact Nat.le_of_ble_eq_true rfl) h
theorem i43_46 : insAt 43 46 = some (.iconst 0, 47) := by decide +kernel
theorem r43_46 {E : aEnv} {c : Nat} {ah : aHp} {st : List Value} {Q : Option Value → aHp → Prop} {a0 a1 a2 a3 a4 a5 a6 : Option Value} : WP E c 43 46 [a0, a1, a2, a3, a4, a5, a6] (st) ah Q = WP E c 43 47 [a0, a1, a2, a3, a4, a5, a6] (.int (0) :: st) ah Q := wp_s i43_46 rfl rfl rfl rfl
theorem i43_47 : insAt 43 47 = some (.istore 3, 48) := by decide +kernel
theorem r43_47 {E : aEnv} {c : Nat} {ah : aHp} {st : List Value} {Q : Option Value → aHp → Prop} {a0 a1 a2 a3 a4 a5 a6 : Option Value} {x : Int32} : WP E c 43 47 [a0, a1, a2, a3, a4, a5, a6] (.int x :: st) ah Q = WP E c 43 48 [a0, a1, kil a2, some (.int x), a4, a5, a6] (st) ah Q := wp_s i43_47 rfl rfl rfl rfl
theorem i43_48 : insAt 43 48 = some (.iload 3, 49) := by decide +kernel
theorem r43_48 {E : aEnv} {c : Nat} {ah : aHp} {st : List Value} {Q : Option Value → aHp → Prop} {a0 a1 a2 a4 a5 a6 : Option Value} {x : Int32} : WP E c 43 48 [a0, a1, a2, some (.int x), a4, a5, a6] (st) ah Q = WP E c 43 49 [a0, a1, a2, some (.int x), a4, a5, a6] (.int x :: st) ah Q := wp_s i43_48 rfl rfl rfl rfl
theorem i43_49 : insAt 43 49 = some (.aload 0, 50) := by decide +kernel
theorem r43_49 {E : aEnv} {c : Nat} {ah : aHp} {st : List Value} {Q : Option Value → aHp → Prop} {a1 a2 a3 a4 a5 a6 : Option Value} {x : Nat} : WP E c 43 49 [some (.ref x), a1, a2, a3, a4, a5, a6] (st) ah Q = WP E c 43 50 [some (.ref x), a1, a2, a3, a4, a5, a6] (.ref x :: st) ah Q := wp_s i43_49 rfl rfl rfl rfl
theorem i43_50 : insAt 43 50 = some (.getfield 2000, 53) := by decide +kernel
theorem r43_50 {E : aEnv} {c : Nat} {ah : aHp} {st : List Value} {Q : Option Value → aHp → Prop} {a0 a1 a2 a3 a4 a5 a6 : Option Value} {a : Nat} : WP E c 43 50 [a0, a1, a2, a3, a4, a5, a6] (.ref a :: st) ah Q = WPo (oGF (hg E ah a) 2 0) (fun v => WP E c 43 53 [a0, a1, a2, a3, a4, a5, a6] (v :: st) ah Q) := wp_getf i43_50
theorem i43_53 : insAt 43 53 = some (.if_icmp .ge 117, 56) := by decide +kernel
theorem r43_53 {E : aEnv} {c : Nat} {ah : aHp} {st : List Value} {Q : Option Value → aHp → Prop} {a0 a1 a2 a3 a4 a5 a6 : Option Value} {x y : Int32} : WP E c 43 53 [a0, a1, a2, a3, a4, a5, a6] (.int y :: .int x :: st) ah Q = if y ≤ x then WP E c 43 117 [a0, a1, a2, a3, a4, a5, a6] st ah Q else WP E c 43 56 [a0, a1, a2, a3, a4, a5, a6] st ah Q := wp_j i43_53 rfl rfl rfl rfl
theorem i43_56 : insAt 43 56 = some (.aload 0, 57) := by decide +kernel
theorem r43_56 {E : aEnv} {c : Nat} {ah : aHp} {st : List Value} {Q : Option Value → aHp → Prop} {a1 a2 a3 a4 a5 a6 : Option Value} {x : Nat} : WP E c 43 56 [some (.ref x), a1, a2, a3, a4, a5, a6] (st) ah Q = WP E c 43 57 [some (.ref x), a1, a2, a3, a4, a5, a6] (.ref x :: st) ah Q := wp_s i43_56 rfl rfl rfl rfl
theorem i43_57 : insAt 43 57 = some (.getfield 2082, 60) := by decide +kernel
theorem r43_57 {E : aEnv} {c : Nat} {ah : aHp} {st : List Value} {Q : Option Value → aHp → Prop} {a0 a1 a2 a3 a4 a5 a6 : Option Value} {a : Nat} : WP E c 43 57 [a0, a1, a2, a3, a4, a5, a6] (.ref a :: st) ah Q = WPo (oGF (hg E ah a) 2 8) (fun v => WP E c 43 60 [a0, a1, a2, a3, a4, a5, a6] (v :: st) ah Q) := wp_getf i43_57
theorem i43_60 : insAt 43 60 = some (.iload 3, 61) := by decide +kernel
theorem r43_60 {E : aEnv} {c : Nat} {ah : aHp} {st : List Value} {Q : Option Value → aHp → Prop} {a0 a1 a2 a4 a5 a6 : Option Value} {x : Int32} : WP E c 43 60 [a0, a1, a2, some (.int x), a4, a5, a6] (st) ah Q = WP E c 43 61 [a0, a1, a2, some (.int x), a4, a5, a6] (.int x :: st) ah Q := wp_s i43_60 rfl rfl rfl rfl
theorem i43_61 : insAt 43 61 = some (.laload, 62) := by decide +kernel
theorem r43_61 {E : aEnv} {c : Nat} {ah : aHp} {st : List Value} {Q : Option Value → aHp → Prop} {a0 a1 a2 a3 a4 a5 a6 : Option Value} {i : Int32} {a : Nat} : WP E c 43 61 [a0, a1, a2, a3, a4, a5, a6] (.int i :: .ref a :: st) ah Q = WPo (gL E ah (.int i :: .ref a :: st)) (fun s9 => WP E c 43 62 [a0, a1, a2, a3, a4, a5, a6] s9 ah Q) := wp_hr i43_61 rfl rfl rfl rfl rfl rfl rfl rfl
theorem i43_62 : insAt 43 62 = some (.aload 0, 63) := by decide +kernel
theorem r43_62 {E : aEnv} {c : Nat} {ah : aHp} {st : List Value} {Q : Option Value → aHp → Prop} {a1 a2 a3 a4 a5 a6 : Option Value} {x : Nat} : WP E c 43 62 [some (.ref x), a1, a2, a3, a4, a5, a6] (st) ah Q = WP E c 43 63 [some (.ref x), a1, a2, a3, a4, a5, a6] (.ref x :: st) ah Q := wp_s i43_62 rfl rfl rfl rfl
theorem i43_63 : insAt 43 63 = some (.getfield 2041, 66) := by decide +kernel
theorem r43_63 {E : aEnv} {c : Nat} {ah : aHp} {st : List Value} {Q : Option Value → aHp → Prop} {a0 a1 a2 a3 a4 a5 a6 : Option Value} {a : Nat} : WP E c 43 63 [a0, a1, a2, a3, a4, a5, a6] (.ref a :: st) ah Q = WPo (oGF (hg E ah a) 2 4) (fun v => WP E c 43 66 [a0, a1, a2, a3, a4, a5, a6] (v :: st) ah Q) := wp_getf i43_63
theorem i43_66 : insAt 43 66 = some (.invokestatic 290, 69) := by decide +kernel
theorem r43_66 {E : aEnv} {c : Nat} {ah ah1 : aHp} {r : Option Value} {st : List Value} {Q : Option Value → aHp → Prop} {a0 a1 a2 a3 a4 a5 a6 : Option Value} {p0 : Int64} {p1 : Int64} (h : EV E c 290 [.long p0, .long p1] ah r ah1) (h3 : wds st ≤ 8) : WP E (c + 1) 43 66 [a0, a1, a2, a3, a4, a5, a6] (.long p1 :: .long p0 :: st) ah Q = WP E (c + 1) 43 69 [a0, a1, a2, a3, a4, a5, a6] (r.toList ++ st) ah1 Q := wp_call (As := [.long p0, .long p1]) i43_66 (fun _ => rfl) rfl mr290.1 rfl h3 (by rw [mr290.2.1]; exact Nat.le_of_ble_eq_true rfl) h
theorem i43_69 : insAt 43 69 = some (.lstore 4, 71) := by decide +kernel
theorem r43_69 {E : aEnv} {c : Nat} {ah : aHp} {st : List Value} {Q : Option Value → aHp → Prop} {a0 a1 a2 a3 a4 a5 a6 : Option Value} {x : Int64} : WP E c 43 69 [a0, a1, a2, a3, a4, a5, a6] (.long x :: st) ah Q = WP E c 43 71 [a0, a1, a2, kil a3, some (.long x), none, a6] (st) ah Q := wp_s i43_69 rfl rfl rfl rfl
theorem i43_71 : insAt 43 71 = some (.iconst 0, 72) := by decide +kernel
theorem r43_71 {E : aEnv} {c : Nat} {ah : aHp} {st : List Value} {Q : Option Value → aHp → Prop} {a0 a1 a2 a3 a4 a5 a6 : Option Value} : WP E c 43 71 [a0, a1, a2, a3, a4, a5, a6] (st) ah Q = WP E c 43 72 [a0, a1, a2, a3, a4, a5, a6] (.int (0) :: st) ah Q := wp_s i43_71 rfl rfl rfl rfl
theorem i43_72 : insAt 43 72 = some (.istore 6, 74) := by decide +kernel
theorem r43_72 {E : aEnv} {c : Nat} {ah : aHp} {st : List Value} {Q : Option Value → aHp → Prop} {a0 a1 a2 a3 a4 a5 a6 : Option Value} {x : Int32} : WP E c 43 72 [a0, a1, a2, a3, a4, a5, a6] (.int x :: st) ah Q = WP E c 43 74 [a0, a1, a2, a3, a4, kil a5, some (.int x)] (st) ah Q := wp_s i43_72 rfl rfl rfl rfl
theorem i43_74 : insAt 43 74 = some (.iload 6, 76) := by decide +kernel
theorem r43_74 {E : aEnv} {c : Nat} {ah : aHp} {st : List Value} {Q : Option Value → aHp → Prop} {a0 a1 a2 a3 a4 a5 : Option Value} {x : Int32} : WP E c 43 74 [a0, a1, a2, a3, a4, a5, some (.int x)] (st) ah Q = WP E c 43 76 [a0, a1, a2, a3, a4, a5, some (.int x)] (.int x :: st) ah Q := wp_s i43_74 rfl rfl rfl rfl
theorem i43_76 : insAt 43 76 = some (.aload 0, 77) := by decide +kernel
theorem r43_76 {E : aEnv} {c : Nat} {ah : aHp} {st : List Value} {Q : Option Value → aHp → Prop} {a1 a2 a3 a4 a5 a6 : Option Value} {x : Nat} : WP E c 43 76 [some (.ref x), a1, a2, a3, a4, a5, a6] (st) ah Q = WP E c 43 77 [some (.ref x), a1, a2, a3, a4, a5, a6] (.ref x :: st) ah Q := wp_s i43_76 rfl rfl rfl rfl
theorem i43_77 : insAt 43 77 = some (.getfield 2010, 80) := by decide +kernel
theorem r43_77 {E : aEnv} {c : Nat} {ah : aHp} {st : List Value} {Q : Option Value → aHp → Prop} {a0 a1 a2 a3 a4 a5 a6 : Option Value} {a : Nat} : WP E c 43 77 [a0, a1, a2, a3, a4, a5, a6] (.ref a :: st) ah Q = WPo (oGF (hg E ah a) 2 1) (fun v => WP E c 43 80 [a0, a1, a2, a3, a4, a5, a6] (v :: st) ah Q) := wp_getf i43_77
theorem i43_80 : insAt 43 80 = some (.if_icmp .ge 111, 83) := by decide +kernel
theorem r43_80 {E : aEnv} {c : Nat} {ah : aHp} {st : List Value} {Q : Option Value → aHp → Prop} {a0 a1 a2 a3 a4 a5 a6 : Option Value} {x y : Int32} : WP E c 43 80 [a0, a1, a2, a3, a4, a5, a6] (.int y :: .int x :: st) ah Q = if y ≤ x then WP E c 43 111 [a0, a1, a2, a3, a4, a5, a6] st ah Q else WP E c 43 83 [a0, a1, a2, a3, a4, a5, a6] st ah Q := wp_j i43_80 rfl rfl rfl rfl
theorem i43_83 : insAt 43 83 = some (.aload 0, 84) := by decide +kernel
theorem r43_83 {E : aEnv} {c : Nat} {ah : aHp} {st : List Value} {Q : Option Value → aHp → Prop} {a1 a2 a3 a4 a5 a6 : Option Value} {x : Nat} : WP E c 43 83 [some (.ref x), a1, a2, a3, a4, a5, a6] (st) ah Q = WP E c 43 84 [some (.ref x), a1, a2, a3, a4, a5, a6] (.ref x :: st) ah Q := wp_s i43_83 rfl rfl rfl rfl
theorem i43_84 : insAt 43 84 = some (.getfield 2052, 87) := by decide +kernel
theorem r43_84 {E : aEnv} {c : Nat} {ah : aHp} {st : List Value} {Q : Option Value → aHp → Prop} {a0 a1 a2 a3 a4 a5 a6 : Option Value} {a : Nat} : WP E c 43 84 [a0, a1, a2, a3, a4, a5, a6] (.ref a :: st) ah Q = WPo (oGF (hg E ah a) 2 5) (fun v => WP E c 43 87 [a0, a1, a2, a3, a4, a5, a6] (v :: st) ah Q) := wp_getf i43_84
theorem i43_87 : insAt 43 87 = some (.iload 3, 88) := by decide +kernel
theorem r43_87 {E : aEnv} {c : Nat} {ah : aHp} {st : List Value} {Q : Option Value → aHp → Prop} {a0 a1 a2 a4 a5 a6 : Option Value} {x : Int32} : WP E c 43 87 [a0, a1, a2, some (.int x), a4, a5, a6] (st) ah Q = WP E c 43 88 [a0, a1, a2, some (.int x), a4, a5, a6] (.int x :: st) ah Q := wp_s i43_87 rfl rfl rfl rfl
theorem i43_88 : insAt 43 88 = some (.aload 0, 89) := by decide +kernel
theorem r43_88 {E : aEnv} {c : Nat} {ah : aHp} {st : List Value} {Q : Option Value → aHp → Prop} {a1 a2 a3 a4 a5 a6 : Option Value} {x : Nat} : WP E c 43 88 [some (.ref x), a1, a2, a3, a4, a5, a6] (st) ah Q = WP E c 43 89 [some (.ref x), a1, a2, a3, a4, a5, a6] (.ref x :: st) ah Q := wp_s i43_88 rfl rfl rfl rfl
theorem i43_89 : insAt 43 89 = some (.getfield 2010, 92) := by decide +kernel
theorem r43_89 {E : aEnv} {c : Nat} {ah : aHp} {st : List Value} {Q : Option Value → aHp → Prop} {a0 a1 a2 a3 a4 a5 a6 : Option Value} {a : Nat} : WP E c 43 89 [a0, a1, a2, a3, a4, a5, a6] (.ref a :: st) ah Q = WPo (oGF (hg E ah a) 2 1) (fun v => WP E c 43 92 [a0, a1, a2, a3, a4, a5, a6] (v :: st) ah Q) := wp_getf i43_89
theorem i43_92 : insAt 43 92 = some (.imul, 93) := by decide +kernel
theorem r43_92 {E : aEnv} {c : Nat} {ah : aHp} {st : List Value} {Q : Option Value → aHp → Prop} {a0 a1 a2 a3 a4 a5 a6 : Option Value} {x y : Int32} : WP E c 43 92 [a0, a1, a2, a3, a4, a5, a6] (.int y :: .int x :: st) ah Q = WP E c 43 93 [a0, a1, a2, a3, a4, a5, a6] (.int (x * y) :: st) ah Q := wp_s i43_92 rfl rfl rfl rfl
theorem i43_93 : insAt 43 93 = some (.iload 6, 95) := by decide +kernel
theorem r43_93 {E : aEnv} {c : Nat} {ah : aHp} {st : List Value} {Q : Option Value → aHp → Prop} {a0 a1 a2 a3 a4 a5 : Option Value} {x : Int32} : WP E c 43 93 [a0, a1, a2, a3, a4, a5, some (.int x)] (st) ah Q = WP E c 43 95 [a0, a1, a2, a3, a4, a5, some (.int x)] (.int x :: st) ah Q := wp_s i43_93 rfl rfl rfl rfl
theorem i43_95 : insAt 43 95 = some (.iadd, 96) := by decide +kernel
theorem r43_95 {E : aEnv} {c : Nat} {ah : aHp} {st : List Value} {Q : Option Value → aHp → Prop} {a0 a1 a2 a3 a4 a5 a6 : Option Value} {x y : Int32} : WP E c 43 95 [a0, a1, a2, a3, a4, a5, a6] (.int y :: .int x :: st) ah Q = WP E c 43 96 [a0, a1, a2, a3, a4, a5, a6] (.int (x + y) :: st) ah Q := wp_s i43_95 rfl rfl rfl rfl
theorem i43_96 : insAt 43 96 = some (.aload 0, 97) := by decide +kernel
theorem r43_96 {E : aEnv} {c : Nat} {ah : aHp} {st : List Value} {Q : Option Value → aHp → Prop} {a1 a2 a3 a4 a5 a6 : Option Value} {x : Nat} : WP E c 43 96 [some (.ref x), a1, a2, a3, a4, a5, a6] (st) ah Q = WP E c 43 97 [some (.ref x), a1, a2, a3, a4, a5, a6] (.ref x :: st) ah Q := wp_s i43_96 rfl rfl rfl rfl
theorem i43_97 : insAt 43 97 = some (.lload 4, 99) := by decide +kernel
theorem r43_97 {E : aEnv} {c : Nat} {ah : aHp} {st : List Value} {Q : Option Value → aHp → Prop} {a0 a1 a2 a3 a5 a6 : Option Value} {x : Int64} : WP E c 43 97 [a0, a1, a2, a3, some (.long x), a5, a6] (st) ah Q = WP E c 43 99 [a0, a1, a2, a3, some (.long x), a5, a6] (.long x :: st) ah Q := wp_s i43_97 rfl rfl rfl rfl
theorem i43_99 : insAt 43 99 = some (.iload 6, 101) := by decide +kernel
theorem r43_99 {E : aEnv} {c : Nat} {ah : aHp} {st : List Value} {Q : Option Value → aHp → Prop} {a0 a1 a2 a3 a4 a5 : Option Value} {x : Int32} : WP E c 43 99 [a0, a1, a2, a3, a4, a5, some (.int x)] (st) ah Q = WP E c 43 101 [a0, a1, a2, a3, a4, a5, some (.int x)] (.int x :: st) ah Q := wp_s i43_99 rfl rfl rfl rfl
theorem i43_101 : insAt 43 101 = some (.invokevirtual 41, 104) := by decide +kernel
theorem r43_101 {E : aEnv} {c : Nat} {ah ah1 : aHp} {r : Option Value} {st : List Value} {Q : Option Value → aHp → Prop} {a0 a1 a2 a3 a4 a5 a6 : Option Value} {p0 : Nat} {p1 : Int64} {p2 : Int32} (h : EV E c 41 [.ref p0, .long p1, .int p2] ah r ah1) (h2 : oCI (hg E ah p0) = 2) (h3 : wds st ≤ 8) : WP E (c + 1) 43 101 [a0, a1, a2, a3, a4, a5, a6] (.int p2 :: .long p1 :: .ref p0 :: st) ah Q = WP E (c + 1) 43 104 [a0, a1, a2, a3, a4, a5, a6] (r.toList ++ st) ah1 Q := wp_call (As := [.ref p0, .long p1, .int p2]) i43_101 (fun _ => rfl) rfl mr41.1 (rcv_1 h2 mr41.2.2 (by decide)) h3 (by rw [mr41.2.1]; exact Nat.le_of_ble_eq_true rfl) h
theorem i43_104 : insAt 43 104 = some (.iastore, 105) := by decide +kernel
theorem r43_104 {E : aEnv} {c : Nat} {ah : aHp} {st : List Value} {Q : Option Value → aHp → Prop} {a0 a1 a2 a3 a4 a5 a6 : Option Value} {x : Int32} {i : Int32} {a : Nat} : WP E c 43 104 [a0, a1, a2, a3, a4, a5, a6] (.int x :: .int i :: .ref a :: st) ah Q = WPo (pI E ah (.int x :: .int i :: .ref a :: st)) (fun q9 => WP E c 43 105 [a0, a1, a2, a3, a4, a5, a6] q9.1 q9.2 Q) := wp_hw i43_104 rfl rfl rfl rfl rfl rfl rfl rfl
theorem i43_105 : insAt 43 105 = some (.iinc 6 1, 108) := by decide +kernel
theorem r43_105 {E : aEnv} {c : Nat} {ah : aHp} {st : List Value} {Q : Option Value → aHp → Prop} {a0 a1 a2 a3 a4 a5 : Option Value} {x : Int32} : WP E c 43 105 [a0, a1, a2, a3, a4, a5, some (.int x)] (st) ah Q = WP E c 43 108 [a0, a1, a2, a3, a4, kil a5, some (.int (x + 1))] (st) ah Q := wp_s i43_105 rfl rfl rfl rfl
theorem i43_108 : insAt 43 108 = some (.goto 74, 111) := by decide +kernel
theorem r43_108 {E : aEnv} {c : Nat} {ah : aHp} {st : List Value} {Q : Option Value → aHp → Prop} {a0 a1 a2 a3 a4 a5 a6 : Option Value} : WP E c 43 108 [a0, a1, a2, a3, a4, a5, a6] (st) ah Q = WP E c 43 74 [a0, a1, a2, a3, a4, a5, a6] st ah Q := wp_s i43_108 rfl rfl rfl rfl
theorem i43_111 : insAt 43 111 = some (.iinc 3 1, 114) := by decide +kernel
theorem r43_111 {E : aEnv} {c : Nat} {ah : aHp} {st : List Value} {Q : Option Value → aHp → Prop} {a0 a1 a2 a4 a5 a6 : Option Value} {x : Int32} : WP E c 43 111 [a0, a1, a2, some (.int x), a4, a5, a6] (st) ah Q = WP E c 43 114 [a0, a1, kil a2, some (.int (x + 1)), a4, a5, a6] (st) ah Q := wp_s i43_111 rfl rfl rfl rfl
theorem i43_114 : insAt 43 114 = some (.goto 48, 117) := by decide +kernel
theorem r43_114 {E : aEnv} {c : Nat} {ah : aHp} {st : List Value} {Q : Option Value → aHp → Prop} {a0 a1 a2 a3 a4 a5 a6 : Option Value} : WP E c 43 114 [a0, a1, a2, a3, a4, a5, a6] (st) ah Q = WP E c 43 48 [a0, a1, a2, a3, a4, a5, a6] st ah Q := wp_s i43_114 rfl rfl rfl rfl
theorem i43_117 : insAt 43 117 = some (.aload 0, 118) := by decide +kernel
theorem r43_117 {E : aEnv} {c : Nat} {ah : aHp} {st : List Value} {Q : Option Value → aHp → Prop} {a1 a2 a3 a4 a5 a6 : Option Value} {x : Nat} : WP E c 43 117 [some (.ref x), a1, a2, a3, a4, a5, a6] (st) ah Q = WP E c 43 118 [some (.ref x), a1, a2, a3, a4, a5, a6] (.ref x :: st) ah Q := wp_s i43_117 rfl rfl rfl rfl
theorem i43_118 : insAt 43 118 = some (.iconst 0, 119) := by decide +kernel
theorem r43_118 {E : aEnv} {c : Nat} {ah : aHp} {st : List Value} {Q : Option Value → aHp → Prop} {a0 a1 a2 a3 a4 a5 a6 : Option Value} : WP E c 43 118 [a0, a1, a2, a3, a4, a5, a6] (st) ah Q = WP E c 43 119 [a0, a1, a2, a3, a4, a5, a6] (.int (0) :: st) ah Q := wp_s i43_118 rfl rfl rfl rfl
theorem i43_119 : insAt 43 119 = some (.putfield 2140, 122) := by decide +kernel
theorem r43_119 {E : aEnv} {c : Nat} {ah : aHp} {st : List Value} {Q : Option Value → aHp → Prop} {a0 a1 a2 a3 a4 a5 a6 : Option Value} {a : Nat} {v : Value} : WP E c 43 119 [a0, a1, a2, a3, a4, a5, a6] (v :: .ref a :: st) ah Q = WPo (oPF (hg E ah a) 2140 v) (fun e => WP E c 43 122 [a0, a1, a2, a3, a4, a5, a6] st (hs E ah a e) Q) := wp_putf i43_119
theorem i43_122 : insAt 43 122 = some (.return_, 123) := by decide +kernel
theorem r43_122 {E : aEnv} {c : Nat} {ah : aHp} {Q : Option Value → aHp → Prop} {a0 a1 a2 a3 a4 a5 a6 : Option Value} : WP E c 43 122 [a0, a1, a2, a3, a4, a5, a6] ([]) ah Q = Q none ah := wp_rt i43_122 rfl
theorem e44 {E : aEnv} {c : Nat} {ah ahF : aHp} {r : Option Value} {p0 : Nat} (h : WP E c 44 0 [some (.ref p0)] [] ah (fun r1 x1 => r1 = r ∧ x1 = ahF)) : EV E c 44 [.ref p0] ah r ahF := EV.of (by rw [mr44.2.1]; exact h)
theorem i44_0 : insAt 44 0 = some (.aload 0, 1) := by decide +kernel
theorem r44_0 {E : aEnv} {c : Nat} {ah : aHp} {st : List Value} {Q : Option Value → aHp → Prop} {x : Nat} : WP E c 44 0 [some (.ref x)] (st) ah Q = WP E c 44 1 [some (.ref x)] (.ref x :: st) ah Q := wp_s i44_0 rfl rfl rfl rfl
theorem i44_1 : insAt 44 1 = some (.getfield 2130, 4) := by decide +kernel
theorem r44_1 {E : aEnv} {c : Nat} {ah : aHp} {st : List Value} {Q : Option Value → aHp → Prop} {a0 : Option Value} {a : Nat} : WP E c 44 1 [a0] (.ref a :: st) ah Q = WPo (oGF (hg E ah a) 2 13) (fun v => WP E c 44 4 [a0] (v :: st) ah Q) := wp_getf i44_1
theorem i44_4 : insAt 44 4 = some (.iconst 20, 6) := by decide +kernel
theorem r44_4 {E : aEnv} {c : Nat} {ah : aHp} {st : List Value} {Q : Option Value → aHp → Prop} {a0 : Option Value} : WP E c 44 4 [a0] (st) ah Q = WP E c 44 6 [a0] (.int (20) :: st) ah Q := wp_s i44_4 rfl rfl rfl rfl
theorem i44_6 : insAt 44 6 = some (.if_icmp .lt 13, 9) := by decide +kernel
theorem r44_6 {E : aEnv} {c : Nat} {ah : aHp} {st : List Value} {Q : Option Value → aHp → Prop} {a0 : Option Value} {x y : Int32} : WP E c 44 6 [a0] (.int y :: .int x :: st) ah Q = if x < y then WP E c 44 13 [a0] st ah Q else WP E c 44 9 [a0] st ah Q := wp_j i44_6 rfl rfl rfl rfl
theorem i44_9 : insAt 44 9 = some (.iconst 1, 10) := by decide +kernel
theorem r44_9 {E : aEnv} {c : Nat} {ah : aHp} {st : List Value} {Q : Option Value → aHp → Prop} {a0 : Option Value} : WP E c 44 9 [a0] (st) ah Q = WP E c 44 10 [a0] (.int (1) :: st) ah Q := wp_s i44_9 rfl rfl rfl rfl
theorem i44_10 : insAt 44 10 = some (.goto 14, 13) := by decide +kernel
theorem r44_10 {E : aEnv} {c : Nat} {ah : aHp} {st : List Value} {Q : Option Value → aHp → Prop} {a0 : Option Value} : WP E c 44 10 [a0] (st) ah Q = WP E c 44 14 [a0] st ah Q := wp_s i44_10 rfl rfl rfl rfl
theorem i44_13 : insAt 44 13 = some (.iconst 0, 14) := by decide +kernel
theorem r44_13 {E : aEnv} {c : Nat} {ah : aHp} {st : List Value} {Q : Option Value → aHp → Prop} {a0 : Option Value} : WP E c 44 13 [a0] (st) ah Q = WP E c 44 14 [a0] (.int (0) :: st) ah Q := wp_s i44_13 rfl rfl rfl rfl
theorem i44_14 : insAt 44 14 = some (.freturn, 15) := by decide +kernel
theorem r44_14 {E : aEnv} {c : Nat} {ah : aHp} {Q : Option Value → aHp → Prop} {a0 : Option Value} {x : Int32} (hx : x = 0 ∨ x = 1) : WP E c 44 14 [a0] ([.int x]) ah Q = Q (some (.int x)) ah := wp_rt i44_14 (by simp only [rtA, if_pos hx])
theorem e45 {E : aEnv} {c : Nat} {ah ahF : aHp} {r : Option Value} {p0 : Nat} {p1 : Int32} {p2 : Int32} {p3 : Int32} {p4 : Int32} (h : WP E c 45 0 [some (.ref p0), some (.int p1), some (.int p2), some (.int p3), some (.int p4)] [] ah (fun r1 x1 => r1 = r ∧ x1 = ahF)) : EV E c 45 [.ref p0, .int p1, .int p2, .int p3, .int p4] ah r ahF := EV.of (by rw [mr45.2.1]; exact h)
theorem i45_0 : insAt 45 0 = some (.aload 0, 1) := by decide +kernel
theorem r45_0 {E : aEnv} {c : Nat} {ah : aHp} {st : List Value} {Q : Option Value → aHp → Prop} {a1 a2 a3 a4 : Option Value} {x : Nat} : WP E c 45 0 [some (.ref x), a1, a2, a3, a4] (st) ah Q = WP E c 45 1 [some (.ref x), a1, a2, a3, a4] (.ref x :: st) ah Q := wp_s i45_0 rfl rfl rfl rfl
theorem i45_1 : insAt 45 1 = some (.invokevirtual 44, 4) := by decide +kernel
theorem r45_1 {E : aEnv} {c : Nat} {ah ah1 : aHp} {r : Option Value} {st : List Value} {Q : Option Value → aHp → Prop} {a0 a1 a2 a3 a4 : Option Value} {p0 : Nat} (h : EV E c 44 [.ref p0] ah r ah1) (h2 : oCI (hg E ah p0) = 2) (h3 : wds st ≤ 8) : WP E (c + 1) 45 1 [a0, a1, a2, a3, a4] (.ref p0 :: st) ah Q = WP E (c + 1) 45 4 [a0, a1, a2, a3, a4] (r.toList ++ st) ah1 Q := wp_call (As := [.ref p0]) i45_1 (fun _ => rfl) rfl mr44.1 (rcv_1 h2 mr44.2.2 (by decide)) h3 (by rw [mr44.2.1]; exact Nat.le_of_ble_eq_true rfl) h
theorem i45_4 : insAt 45 4 = some (.ifCond .ne 23, 7) := by decide +kernel
theorem r45_4 {E : aEnv} {c : Nat} {ah : aHp} {st : List Value} {Q : Option Value → aHp → Prop} {a0 a1 a2 a3 a4 : Option Value} {x : Int32} : WP E c 45 4 [a0, a1, a2, a3, a4] (.int x :: st) ah Q = if ¬ x = 0 then WP E c 45 23 [a0, a1, a2, a3, a4] st ah Q else WP E c 45 7 [a0, a1, a2, a3, a4] st ah Q := wp_j i45_4 rfl rfl rfl rfl
theorem i45_7 : insAt 45 7 = some (.aload 0, 8) := by decide +kernel
theorem r45_7 {E : aEnv} {c : Nat} {ah : aHp} {st : List Value} {Q : Option Value → aHp → Prop} {a1 a2 a3 a4 : Option Value} {x : Nat} : WP E c 45 7 [some (.ref x), a1, a2, a3, a4] (st) ah Q = WP E c 45 8 [some (.ref x), a1, a2, a3, a4] (.ref x :: st) ah Q := wp_s i45_7 rfl rfl rfl rfl
theorem i45_8 : insAt 45 8 = some (.iload 2, 9) := by decide +kernel
theorem r45_8 {E : aEnv} {c : Nat} {ah : aHp} {st : List Value} {Q : Option Value → aHp → Prop} {a0 a1 a3 a4 : Option Value} {x : Int32} : WP E c 45 8 [a0, a1, some (.int x), a3, a4] (st) ah Q = WP E c 45 9 [a0, a1, some (.int x), a3, a4] (.int x :: st) ah Q := wp_s i45_8 rfl rfl rfl rfl
theorem i45_9 : insAt 45 9 = some (.invokevirtual 34, 12) := by decide +kernel
theorem r45_9 {E : aEnv} {c : Nat} {ah ah1 : aHp} {r : Option Value} {st : List Value} {Q : Option Value → aHp → Prop} {a0 a1 a2 a3 a4 : Option Value} {p0 : Nat} {p1 : Int32} (h : EV E c 34 [.ref p0, .int p1] ah r ah1) (h2 : oCI (hg E ah p0) = 2) (h3 : wds st ≤ 8) : WP E (c + 1) 45 9 [a0, a1, a2, a3, a4] (.int p1 :: .ref p0 :: st) ah Q = WP E (c + 1) 45 12 [a0, a1, a2, a3, a4] (r.toList ++ st) ah1 Q := wp_call (As := [.ref p0, .int p1]) i45_9 (fun _ => rfl) rfl mr34.1 (rcv_1 h2 mr34.2.2 (by decide)) h3 (by rw [mr34.2.1]; exact Nat.le_of_ble_eq_true rfl) h
theorem i45_12 : insAt 45 12 = some (.ifCond .eq 23, 15) := by decide +kernel
theorem r45_12 {E : aEnv} {c : Nat} {ah : aHp} {st : List Value} {Q : Option Value → aHp → Prop} {a0 a1 a2 a3 a4 : Option Value} {x : Int32} : WP E c 45 12 [a0, a1, a2, a3, a4] (.int x :: st) ah Q = if x = 0 then WP E c 45 23 [a0, a1, a2, a3, a4] st ah Q else WP E c 45 15 [a0, a1, a2, a3, a4] st ah Q := wp_j i45_12 rfl rfl rfl rfl
theorem i45_15 : insAt 45 15 = some (.aload 0, 16) := by decide +kernel
theorem r45_15 {E : aEnv} {c : Nat} {ah : aHp} {st : List Value} {Q : Option Value → aHp → Prop} {a1 a2 a3 a4 : Option Value} {x : Nat} : WP E c 45 15 [some (.ref x), a1, a2, a3, a4] (st) ah Q = WP E c 45 16 [some (.ref x), a1, a2, a3, a4] (.ref x :: st) ah Q := wp_s i45_15 rfl rfl rfl rfl
theorem i45_16 : insAt 45 16 = some (.iload 3, 17) := by decide +kernel
theorem r45_16 {E : aEnv} {c : Nat} {ah : aHp} {st : List Value} {Q : Option Value → aHp → Prop} {a0 a1 a2 a4 : Option Value} {x : Int32} : WP E c 45 16 [a0, a1, a2, some (.int x), a4] (st) ah Q = WP E c 45 17 [a0, a1, a2, some (.int x), a4] (.int x :: st) ah Q := wp_s i45_16 rfl rfl rfl rfl
theorem i45_17 : insAt 45 17 = some (.invokevirtual 36, 20) := by decide +kernel
theorem r45_17 {E : aEnv} {c : Nat} {ah ah1 : aHp} {r : Option Value} {st : List Value} {Q : Option Value → aHp → Prop} {a0 a1 a2 a3 a4 : Option Value} {p0 : Nat} {p1 : Int32} (h : EV E c 36 [.ref p0, .int p1] ah r ah1) (h2 : oCI (hg E ah p0) = 2) (h3 : wds st ≤ 8) : WP E (c + 1) 45 17 [a0, a1, a2, a3, a4] (.int p1 :: .ref p0 :: st) ah Q = WP E (c + 1) 45 20 [a0, a1, a2, a3, a4] (r.toList ++ st) ah1 Q := wp_call (As := [.ref p0, .int p1]) i45_17 (fun _ => rfl) rfl mr36.1 (rcv_1 h2 mr36.2.2 (by decide)) h3 (by rw [mr36.2.1]; exact Nat.le_of_ble_eq_true rfl) h
theorem i45_20 : insAt 45 20 = some (.ifCond .ne 24, 23) := by decide +kernel
theorem r45_20 {E : aEnv} {c : Nat} {ah : aHp} {st : List Value} {Q : Option Value → aHp → Prop} {a0 a1 a2 a3 a4 : Option Value} {x : Int32} : WP E c 45 20 [a0, a1, a2, a3, a4] (.int x :: st) ah Q = if ¬ x = 0 then WP E c 45 24 [a0, a1, a2, a3, a4] st ah Q else WP E c 45 23 [a0, a1, a2, a3, a4] st ah Q := wp_j i45_20 rfl rfl rfl rfl
theorem i45_23 : insAt 45 23 = some (.return_, 24) := by decide +kernel
theorem r45_23 {E : aEnv} {c : Nat} {ah : aHp} {Q : Option Value → aHp → Prop} {a0 a1 a2 a3 a4 : Option Value} : WP E c 45 23 [a0, a1, a2, a3, a4] ([]) ah Q = Q none ah := wp_rt i45_23 rfl
theorem i45_24 : insAt 45 24 = some (.aload 0, 25) := by decide +kernel
theorem r45_24 {E : aEnv} {c : Nat} {ah : aHp} {st : List Value} {Q : Option Value → aHp → Prop} {a1 a2 a3 a4 : Option Value} {x : Nat} : WP E c 45 24 [some (.ref x), a1, a2, a3, a4] (st) ah Q = WP E c 45 25 [some (.ref x), a1, a2, a3, a4] (.ref x :: st) ah Q := wp_s i45_24 rfl rfl rfl rfl
theorem i45_25 : insAt 45 25 = some (.getfield 2092, 28) := by decide +kernel
theorem r45_25 {E : aEnv} {c : Nat} {ah : aHp} {st : List Value} {Q : Option Value → aHp → Prop} {a0 a1 a2 a3 a4 : Option Value} {a : Nat} : WP E c 45 25 [a0, a1, a2, a3, a4] (.ref a :: st) ah Q = WPo (oGF (hg E ah a) 2 9) (fun v => WP E c 45 28 [a0, a1, a2, a3, a4] (v :: st) ah Q) := wp_getf i45_25
theorem i45_28 : insAt 45 28 = some (.aload 0, 29) := by decide +kernel
theorem r45_28 {E : aEnv} {c : Nat} {ah : aHp} {st : List Value} {Q : Option Value → aHp → Prop} {a1 a2 a3 a4 : Option Value} {x : Nat} : WP E c 45 28 [some (.ref x), a1, a2, a3, a4] (st) ah Q = WP E c 45 29 [some (.ref x), a1, a2, a3, a4] (.ref x :: st) ah Q := wp_s i45_28 rfl rfl rfl rfl
theorem i45_29 : insAt 45 29 = some (.getfield 2130, 32) := by decide +kernel
theorem r45_29 {E : aEnv} {c : Nat} {ah : aHp} {st : List Value} {Q : Option Value → aHp → Prop} {a0 a1 a2 a3 a4 : Option Value} {a : Nat} : WP E c 45 29 [a0, a1, a2, a3, a4] (.ref a :: st) ah Q = WPo (oGF (hg E ah a) 2 13) (fun v => WP E c 45 32 [a0, a1, a2, a3, a4] (v :: st) ah Q) := wp_getf i45_29
theorem i45_32 : insAt 45 32 = some (.iload 1, 33) := by decide +kernel
theorem r45_32 {E : aEnv} {c : Nat} {ah : aHp} {st : List Value} {Q : Option Value → aHp → Prop} {a0 a2 a3 a4 : Option Value} {x : Int32} : WP E c 45 32 [a0, some (.int x), a2, a3, a4] (st) ah Q = WP E c 45 33 [a0, some (.int x), a2, a3, a4] (.int x :: st) ah Q := wp_s i45_32 rfl rfl rfl rfl
theorem i45_33 : insAt 45 33 = some (.iastore, 34) := by decide +kernel
theorem r45_33 {E : aEnv} {c : Nat} {ah : aHp} {st : List Value} {Q : Option Value → aHp → Prop} {a0 a1 a2 a3 a4 : Option Value} {x : Int32} {i : Int32} {a : Nat} : WP E c 45 33 [a0, a1, a2, a3, a4] (.int x :: .int i :: .ref a :: st) ah Q = WPo (pI E ah (.int x :: .int i :: .ref a :: st)) (fun q9 => WP E c 45 34 [a0, a1, a2, a3, a4] q9.1 q9.2 Q) := wp_hw i45_33 rfl rfl rfl rfl rfl rfl rfl rfl
theorem i45_34 : insAt 45 34 = some (.aload 0, 35) := by decide +kernel
theorem r45_34 {E : aEnv} {c : Nat} {ah : aHp} {st : List Value} {Q : Option Value → aHp → Prop} {a1 a2 a3 a4 : Option Value} {x : Nat} : WP E c 45 34 [some (.ref x), a1, a2, a3, a4] (st) ah Q = WP E c 45 35 [some (.ref x), a1, a2, a3, a4] (.ref x :: st) ah Q := wp_s i45_34 rfl rfl rfl rfl
theorem i45_35 : insAt 45 35 = some (.getfield 2102, 38) := by decide +kernel
theorem r45_35 {E : aEnv} {c : Nat} {ah : aHp} {st : List Value} {Q : Option Value → aHp → Prop} {a0 a1 a2 a3 a4 : Option Value} {a : Nat} : WP E c 45 35 [a0, a1, a2, a3, a4] (.ref a :: st) ah Q = WPo (oGF (hg E ah a) 2 10) (fun v => WP E c 45 38 [a0, a1, a2, a3, a4] (v :: st) ah Q) := wp_getf i45_35
theorem i45_38 : insAt 45 38 = some (.aload 0, 39) := by decide +kernel
theorem r45_38 {E : aEnv} {c : Nat} {ah : aHp} {st : List Value} {Q : Option Value → aHp → Prop} {a1 a2 a3 a4 : Option Value} {x : Nat} : WP E c 45 38 [some (.ref x), a1, a2, a3, a4] (st) ah Q = WP E c 45 39 [some (.ref x), a1, a2, a3, a4] (.ref x :: st) ah Q := wp_s i45_38 rfl rfl rfl rfl
theorem i45_39 : insAt 45 39 = some (.getfield 2130, 42) := by decide +kernel
theorem r45_39 {E : aEnv} {c : Nat} {ah : aHp} {st : List Value} {Q : Option Value → aHp → Prop} {a0 a1 a2 a3 a4 : Option Value} {a : Nat} : WP E c 45 39 [a0, a1, a2, a3, a4] (.ref a :: st) ah Q = WPo (oGF (hg E ah a) 2 13) (fun v => WP E c 45 42 [a0, a1, a2, a3, a4] (v :: st) ah Q) := wp_getf i45_39
theorem i45_42 : insAt 45 42 = some (.iload 2, 43) := by decide +kernel
theorem r45_42 {E : aEnv} {c : Nat} {ah : aHp} {st : List Value} {Q : Option Value → aHp → Prop} {a0 a1 a3 a4 : Option Value} {x : Int32} : WP E c 45 42 [a0, a1, some (.int x), a3, a4] (st) ah Q = WP E c 45 43 [a0, a1, some (.int x), a3, a4] (.int x :: st) ah Q := wp_s i45_42 rfl rfl rfl rfl
theorem i45_43 : insAt 45 43 = some (.iastore, 44) := by decide +kernel
theorem r45_43 {E : aEnv} {c : Nat} {ah : aHp} {st : List Value} {Q : Option Value → aHp → Prop} {a0 a1 a2 a3 a4 : Option Value} {x : Int32} {i : Int32} {a : Nat} : WP E c 45 43 [a0, a1, a2, a3, a4] (.int x :: .int i :: .ref a :: st) ah Q = WPo (pI E ah (.int x :: .int i :: .ref a :: st)) (fun q9 => WP E c 45 44 [a0, a1, a2, a3, a4] q9.1 q9.2 Q) := wp_hw i45_43 rfl rfl rfl rfl rfl rfl rfl rfl
theorem i45_44 : insAt 45 44 = some (.aload 0, 45) := by decide +kernel
theorem r45_44 {E : aEnv} {c : Nat} {ah : aHp} {st : List Value} {Q : Option Value → aHp → Prop} {a1 a2 a3 a4 : Option Value} {x : Nat} : WP E c 45 44 [some (.ref x), a1, a2, a3, a4] (st) ah Q = WP E c 45 45 [some (.ref x), a1, a2, a3, a4] (.ref x :: st) ah Q := wp_s i45_44 rfl rfl rfl rfl
theorem i45_45 : insAt 45 45 = some (.getfield 2112, 48) := by decide +kernel
theorem r45_45 {E : aEnv} {c : Nat} {ah : aHp} {st : List Value} {Q : Option Value → aHp → Prop} {a0 a1 a2 a3 a4 : Option Value} {a : Nat} : WP E c 45 45 [a0, a1, a2, a3, a4] (.ref a :: st) ah Q = WPo (oGF (hg E ah a) 2 11) (fun v => WP E c 45 48 [a0, a1, a2, a3, a4] (v :: st) ah Q) := wp_getf i45_45
theorem i45_48 : insAt 45 48 = some (.aload 0, 49) := by decide +kernel
theorem r45_48 {E : aEnv} {c : Nat} {ah : aHp} {st : List Value} {Q : Option Value → aHp → Prop} {a1 a2 a3 a4 : Option Value} {x : Nat} : WP E c 45 48 [some (.ref x), a1, a2, a3, a4] (st) ah Q = WP E c 45 49 [some (.ref x), a1, a2, a3, a4] (.ref x :: st) ah Q := wp_s i45_48 rfl rfl rfl rfl
theorem i45_49 : insAt 45 49 = some (.getfield 2130, 52) := by decide +kernel
theorem r45_49 {E : aEnv} {c : Nat} {ah : aHp} {st : List Value} {Q : Option Value → aHp → Prop} {a0 a1 a2 a3 a4 : Option Value} {a : Nat} : WP E c 45 49 [a0, a1, a2, a3, a4] (.ref a :: st) ah Q = WPo (oGF (hg E ah a) 2 13) (fun v => WP E c 45 52 [a0, a1, a2, a3, a4] (v :: st) ah Q) := wp_getf i45_49
theorem i45_52 : insAt 45 52 = some (.iload 3, 53) := by decide +kernel
theorem r45_52 {E : aEnv} {c : Nat} {ah : aHp} {st : List Value} {Q : Option Value → aHp → Prop} {a0 a1 a2 a4 : Option Value} {x : Int32} : WP E c 45 52 [a0, a1, a2, some (.int x), a4] (st) ah Q = WP E c 45 53 [a0, a1, a2, some (.int x), a4] (.int x :: st) ah Q := wp_s i45_52 rfl rfl rfl rfl
theorem i45_53 : insAt 45 53 = some (.iastore, 54) := by decide +kernel
theorem r45_53 {E : aEnv} {c : Nat} {ah : aHp} {st : List Value} {Q : Option Value → aHp → Prop} {a0 a1 a2 a3 a4 : Option Value} {x : Int32} {i : Int32} {a : Nat} : WP E c 45 53 [a0, a1, a2, a3, a4] (.int x :: .int i :: .ref a :: st) ah Q = WPo (pI E ah (.int x :: .int i :: .ref a :: st)) (fun q9 => WP E c 45 54 [a0, a1, a2, a3, a4] q9.1 q9.2 Q) := wp_hw i45_53 rfl rfl rfl rfl rfl rfl rfl rfl
theorem i45_54 : insAt 45 54 = some (.aload 0, 55) := by decide +kernel
theorem r45_54 {E : aEnv} {c : Nat} {ah : aHp} {st : List Value} {Q : Option Value → aHp → Prop} {a1 a2 a3 a4 : Option Value} {x : Nat} : WP E c 45 54 [some (.ref x), a1, a2, a3, a4] (st) ah Q = WP E c 45 55 [some (.ref x), a1, a2, a3, a4] (.ref x :: st) ah Q := wp_s i45_54 rfl rfl rfl rfl
theorem i45_55 : insAt 45 55 = some (.getfield 2122, 58) := by decide +kernel
theorem r45_55 {E : aEnv} {c : Nat} {ah : aHp} {st : List Value} {Q : Option Value → aHp → Prop} {a0 a1 a2 a3 a4 : Option Value} {a : Nat} : WP E c 45 55 [a0, a1, a2, a3, a4] (.ref a :: st) ah Q = WPo (oGF (hg E ah a) 2 12) (fun v => WP E c 45 58 [a0, a1, a2, a3, a4] (v :: st) ah Q) := wp_getf i45_55
theorem i45_58 : insAt 45 58 = some (.aload 0, 59) := by decide +kernel
theorem r45_58 {E : aEnv} {c : Nat} {ah : aHp} {st : List Value} {Q : Option Value → aHp → Prop} {a1 a2 a3 a4 : Option Value} {x : Nat} : WP E c 45 58 [some (.ref x), a1, a2, a3, a4] (st) ah Q = WP E c 45 59 [some (.ref x), a1, a2, a3, a4] (.ref x :: st) ah Q := wp_s i45_58 rfl rfl rfl rfl
theorem i45_59 : insAt 45 59 = some (.getfield 2130, 62) := by decide +kernel
theorem r45_59 {E : aEnv} {c : Nat} {ah : aHp} {st : List Value} {Q : Option Value → aHp → Prop} {a0 a1 a2 a3 a4 : Option Value} {a : Nat} : WP E c 45 59 [a0, a1, a2, a3, a4] (.ref a :: st) ah Q = WPo (oGF (hg E ah a) 2 13) (fun v => WP E c 45 62 [a0, a1, a2, a3, a4] (v :: st) ah Q) := wp_getf i45_59
theorem i45_62 : insAt 45 62 = some (.iload 4, 64) := by decide +kernel
theorem r45_62 {E : aEnv} {c : Nat} {ah : aHp} {st : List Value} {Q : Option Value → aHp → Prop} {a0 a1 a2 a3 : Option Value} {x : Int32} : WP E c 45 62 [a0, a1, a2, a3, some (.int x)] (st) ah Q = WP E c 45 64 [a0, a1, a2, a3, some (.int x)] (.int x :: st) ah Q := wp_s i45_62 rfl rfl rfl rfl
theorem i45_64 : insAt 45 64 = some (.iastore, 65) := by decide +kernel
theorem r45_64 {E : aEnv} {c : Nat} {ah : aHp} {st : List Value} {Q : Option Value → aHp → Prop} {a0 a1 a2 a3 a4 : Option Value} {x : Int32} {i : Int32} {a : Nat} : WP E c 45 64 [a0, a1, a2, a3, a4] (.int x :: .int i :: .ref a :: st) ah Q = WPo (pI E ah (.int x :: .int i :: .ref a :: st)) (fun q9 => WP E c 45 65 [a0, a1, a2, a3, a4] q9.1 q9.2 Q) := wp_hw i45_64 rfl rfl rfl rfl rfl rfl rfl rfl
theorem i45_65 : insAt 45 65 = some (.aload 0, 66) := by decide +kernel
theorem r45_65 {E : aEnv} {c : Nat} {ah : aHp} {st : List Value} {Q : Option Value → aHp → Prop} {a1 a2 a3 a4 : Option Value} {x : Nat} : WP E c 45 65 [some (.ref x), a1, a2, a3, a4] (st) ah Q = WP E c 45 66 [some (.ref x), a1, a2, a3, a4] (.ref x :: st) ah Q := wp_s i45_65 rfl rfl rfl rfl
theorem i45_66 : insAt 45 66 = some (.dup, 67) := by decide +kernel
theorem r45_66 {E : aEnv} {c : Nat} {ah : aHp} {st : List Value} {Q : Option Value → aHp → Prop} {a0 a1 a2 a3 a4 : Option Value} {x : Nat} : WP E c 45 66 [a0, a1, a2, a3, a4] (.ref x :: st) ah Q = WP E c 45 67 [a0, a1, a2, a3, a4] (.ref x :: .ref x :: st) ah Q := wp_s i45_66 rfl rfl rfl rfl
theorem r45_66i {E : aEnv} {c : Nat} {ah : aHp} {st : List Value} {Q : Option Value → aHp → Prop} {a0 a1 a2 a3 a4 : Option Value} {x : Int32} : WP E c 45 66 [a0, a1, a2, a3, a4] (.int x :: st) ah Q = WP E c 45 67 [a0, a1, a2, a3, a4] (.int x :: .int x :: st) ah Q := wp_s i45_66 rfl rfl rfl rfl
theorem i45_67 : insAt 45 67 = some (.getfield 2130, 70) := by decide +kernel
theorem r45_67 {E : aEnv} {c : Nat} {ah : aHp} {st : List Value} {Q : Option Value → aHp → Prop} {a0 a1 a2 a3 a4 : Option Value} {a : Nat} : WP E c 45 67 [a0, a1, a2, a3, a4] (.ref a :: st) ah Q = WPo (oGF (hg E ah a) 2 13) (fun v => WP E c 45 70 [a0, a1, a2, a3, a4] (v :: st) ah Q) := wp_getf i45_67
theorem i45_70 : insAt 45 70 = some (.iconst 1, 71) := by decide +kernel
theorem r45_70 {E : aEnv} {c : Nat} {ah : aHp} {st : List Value} {Q : Option Value → aHp → Prop} {a0 a1 a2 a3 a4 : Option Value} : WP E c 45 70 [a0, a1, a2, a3, a4] (st) ah Q = WP E c 45 71 [a0, a1, a2, a3, a4] (.int (1) :: st) ah Q := wp_s i45_70 rfl rfl rfl rfl
theorem i45_71 : insAt 45 71 = some (.iadd, 72) := by decide +kernel
theorem r45_71 {E : aEnv} {c : Nat} {ah : aHp} {st : List Value} {Q : Option Value → aHp → Prop} {a0 a1 a2 a3 a4 : Option Value} {x y : Int32} : WP E c 45 71 [a0, a1, a2, a3, a4] (.int y :: .int x :: st) ah Q = WP E c 45 72 [a0, a1, a2, a3, a4] (.int (x + y) :: st) ah Q := wp_s i45_71 rfl rfl rfl rfl
theorem i45_72 : insAt 45 72 = some (.putfield 2130, 75) := by decide +kernel
theorem r45_72 {E : aEnv} {c : Nat} {ah : aHp} {st : List Value} {Q : Option Value → aHp → Prop} {a0 a1 a2 a3 a4 : Option Value} {a : Nat} {v : Value} : WP E c 45 72 [a0, a1, a2, a3, a4] (v :: .ref a :: st) ah Q = WPo (oPF (hg E ah a) 2130 v) (fun e => WP E c 45 75 [a0, a1, a2, a3, a4] st (hs E ah a e) Q) := wp_putf i45_72
theorem i45_75 : insAt 45 75 = some (.return_, 76) := by decide +kernel
theorem r45_75 {E : aEnv} {c : Nat} {ah : aHp} {Q : Option Value → aHp → Prop} {a0 a1 a2 a3 a4 : Option Value} : WP E c 45 75 [a0, a1, a2, a3, a4] ([]) ah Q = Q none ah := wp_rt i45_75 rfl
theorem e46 {E : aEnv} {c : Nat} {ah ahF : aHp} {r : Option Value} {p0 : Nat} (h : WP E c 46 0 [some (.ref p0)] [] ah (fun r1 x1 => r1 = r ∧ x1 = ahF)) : EV E c 46 [.ref p0] ah r ahF := EV.of (by rw [mr46.2.1]; exact h)
theorem i46_0 : insAt 46 0 = some (.aload 0, 1) := by decide +kernel
theorem r46_0 {E : aEnv} {c : Nat} {ah : aHp} {st : List Value} {Q : Option Value → aHp → Prop} {x : Nat} : WP E c 46 0 [some (.ref x)] (st) ah Q = WP E c 46 1 [some (.ref x)] (.ref x :: st) ah Q := wp_s i46_0 rfl rfl rfl rfl
theorem i46_1 : insAt 46 1 = some (.iconst 0, 2) := by decide +kernel
theorem r46_1 {E : aEnv} {c : Nat} {ah : aHp} {st : List Value} {Q : Option Value → aHp → Prop} {a0 : Option Value} : WP E c 46 1 [a0] (st) ah Q = WP E c 46 2 [a0] (.int (0) :: st) ah Q := wp_s i46_1 rfl rfl rfl rfl
theorem i46_2 : insAt 46 2 = some (.putfield 2130, 5) := by decide +kernel
theorem r46_2 {E : aEnv} {c : Nat} {ah : aHp} {st : List Value} {Q : Option Value → aHp → Prop} {a0 : Option Value} {a : Nat} {v : Value} : WP E c 46 2 [a0] (v :: .ref a :: st) ah Q = WPo (oPF (hg E ah a) 2130 v) (fun e => WP E c 46 5 [a0] st (hs E ah a e) Q) := wp_putf i46_2
theorem i46_5 : insAt 46 5 = some (.return_, 6) := by decide +kernel
theorem r46_5 {E : aEnv} {c : Nat} {ah : aHp} {Q : Option Value → aHp → Prop} {a0 : Option Value} : WP E c 46 5 [a0] ([]) ah Q = Q none ah := wp_rt i46_5 rfl
theorem e47 {E : aEnv} {c : Nat} {ah ahF : aHp} {r : Option Value} {p0 : Nat} (h : WP E c 47 0 [some (.ref p0)] [] ah (fun r1 x1 => r1 = r ∧ x1 = ahF)) : EV E c 47 [.ref p0] ah r ahF := EV.of (by rw [mr47.2.1]; exact h)
theorem i47_0 : insAt 47 0 = some (.aload 0, 1) := by decide +kernel
theorem r47_0 {E : aEnv} {c : Nat} {ah : aHp} {st : List Value} {Q : Option Value → aHp → Prop} {x : Nat} : WP E c 47 0 [some (.ref x)] (st) ah Q = WP E c 47 1 [some (.ref x)] (.ref x :: st) ah Q := wp_s i47_0 rfl rfl rfl rfl
theorem i47_1 : insAt 47 1 = some (.getfield 2140, 4) := by decide +kernel
theorem r47_1 {E : aEnv} {c : Nat} {ah : aHp} {st : List Value} {Q : Option Value → aHp → Prop} {a0 : Option Value} {a : Nat} : WP E c 47 1 [a0] (.ref a :: st) ah Q = WPo (oGF (hg E ah a) 2 14) (fun v => WP E c 47 4 [a0] (v :: st) ah Q) := wp_getf i47_1
theorem i47_4 : insAt 47 4 = some (.ireturn, 5) := by decide +kernel
theorem r47_4 {E : aEnv} {c : Nat} {ah : aHp} {Q : Option Value → aHp → Prop} {a0 : Option Value} {x : Int32} : WP E c 47 4 [a0] ([.int x]) ah Q = Q (some (.int x)) ah := wp_rt i47_4 rfl
theorem e48 {E : aEnv} {c : Nat} {ah ahF : aHp} {r : Option Value} {p0 : Nat} {p1 : Int32} (h : WP E c 48 0 [some (.ref p0), some (.int p1)] [] ah (fun r1 x1 => r1 = r ∧ x1 = ahF)) : EV E c 48 [.ref p0, .int p1] ah r ahF := EV.of (by rw [mr48.2.1]; exact h)
theorem i48_0 : insAt 48 0 = some (.aload 0, 1) := by decide +kernel
theorem r48_0 {E : aEnv} {c : Nat} {ah : aHp} {st : List Value} {Q : Option Value → aHp → Prop} {a1 : Option Value} {x : Nat} : WP E c 48 0 [some (.ref x), a1] (st) ah Q = WP E c 48 1 [some (.ref x), a1] (.ref x :: st) ah Q := wp_s i48_0 rfl rfl rfl rfl
theorem i48_1 : insAt 48 1 = some (.getfield 2140, 4) := by decide +kernel
theorem r48_1 {E : aEnv} {c : Nat} {ah : aHp} {st : List Value} {Q : Option Value → aHp → Prop} {a0 a1 : Option Value} {a : Nat} : WP E c 48 1 [a0, a1] (.ref a :: st) ah Q = WPo (oGF (hg E ah a) 2 14) (fun v => WP E c 48 4 [a0, a1] (v :: st) ah Q) := wp_getf i48_1
theorem i48_4 : insAt 48 4 = some (.iload 1, 5) := by decide +kernel
theorem r48_4 {E : aEnv} {c : Nat} {ah : aHp} {st : List Value} {Q : Option Value → aHp → Prop} {a0 : Option Value} {x : Int32} : WP E c 48 4 [a0, some (.int x)] (st) ah Q = WP E c 48 5 [a0, some (.int x)] (.int x :: st) ah Q := wp_s i48_4 rfl rfl rfl rfl
theorem i48_5 : insAt 48 5 = some (.iadd, 6) := by decide +kernel
theorem r48_5 {E : aEnv} {c : Nat} {ah : aHp} {st : List Value} {Q : Option Value → aHp → Prop} {a0 a1 : Option Value} {x y : Int32} : WP E c 48 5 [a0, a1] (.int y :: .int x :: st) ah Q = WP E c 48 6 [a0, a1] (.int (x + y) :: st) ah Q := wp_s i48_5 rfl rfl rfl rfl
theorem i48_6 : insAt 48 6 = some (.iconst 1000, 9) := by decide +kernel
theorem r48_6 {E : aEnv} {c : Nat} {ah : aHp} {st : List Value} {Q : Option Value → aHp → Prop} {a0 a1 : Option Value} : WP E c 48 6 [a0, a1] (st) ah Q = WP E c 48 9 [a0, a1] (.int (1000) :: st) ah Q := wp_s i48_6 rfl rfl rfl rfl
theorem i48_9 : insAt 48 9 = some (.if_icmp .gt 16, 12) := by decide +kernel
theorem r48_9 {E : aEnv} {c : Nat} {ah : aHp} {st : List Value} {Q : Option Value → aHp → Prop} {a0 a1 : Option Value} {x y : Int32} : WP E c 48 9 [a0, a1] (.int y :: .int x :: st) ah Q = if y < x then WP E c 48 16 [a0, a1] st ah Q else WP E c 48 12 [a0, a1] st ah Q := wp_j i48_9 rfl rfl rfl rfl
theorem i48_12 : insAt 48 12 = some (.iconst 1, 13) := by decide +kernel
theorem r48_12 {E : aEnv} {c : Nat} {ah : aHp} {st : List Value} {Q : Option Value → aHp → Prop} {a0 a1 : Option Value} : WP E c 48 12 [a0, a1] (st) ah Q = WP E c 48 13 [a0, a1] (.int (1) :: st) ah Q := wp_s i48_12 rfl rfl rfl rfl
theorem i48_13 : insAt 48 13 = some (.goto 17, 16) := by decide +kernel
theorem r48_13 {E : aEnv} {c : Nat} {ah : aHp} {st : List Value} {Q : Option Value → aHp → Prop} {a0 a1 : Option Value} : WP E c 48 13 [a0, a1] (st) ah Q = WP E c 48 17 [a0, a1] st ah Q := wp_s i48_13 rfl rfl rfl rfl
theorem i48_16 : insAt 48 16 = some (.iconst 0, 17) := by decide +kernel
theorem r48_16 {E : aEnv} {c : Nat} {ah : aHp} {st : List Value} {Q : Option Value → aHp → Prop} {a0 a1 : Option Value} : WP E c 48 16 [a0, a1] (st) ah Q = WP E c 48 17 [a0, a1] (.int (0) :: st) ah Q := wp_s i48_16 rfl rfl rfl rfl
theorem i48_17 : insAt 48 17 = some (.freturn, 18) := by decide +kernel
theorem r48_17 {E : aEnv} {c : Nat} {ah : aHp} {Q : Option Value → aHp → Prop} {a0 a1 : Option Value} {x : Int32} (hx : x = 0 ∨ x = 1) : WP E c 48 17 [a0, a1] ([.int x]) ah Q = Q (some (.int x)) ah := wp_rt i48_17 (by simp only [rtA, if_pos hx])
theorem e49 {E : aEnv} {c : Nat} {ah ahF : aHp} {r : Option Value} {p0 : Nat} (h : WP E c 49 0 [some (.ref p0), none] [] ah (fun r1 x1 => r1 = r ∧ x1 = ahF)) : EV E c 49 [.ref p0] ah r ahF := EV.of (by rw [mr49.2.1]; exact h)
theorem i49_0 : insAt 49 0 = some (.aload 0, 1) := by decide +kernel
theorem r49_0 {E : aEnv} {c : Nat} {ah : aHp} {st : List Value} {Q : Option Value → aHp → Prop} {a1 : Option Value} {x : Nat} : WP E c 49 0 [some (.ref x), a1] (st) ah Q = WP E c 49 1 [some (.ref x), a1] (.ref x :: st) ah Q := wp_s i49_0 rfl rfl rfl rfl
theorem i49_1 : insAt 49 1 = some (.dup, 2) := by decide +kernel
theorem r49_1 {E : aEnv} {c : Nat} {ah : aHp} {st : List Value} {Q : Option Value → aHp → Prop} {a0 a1 : Option Value} {x : Nat} : WP E c 49 1 [a0, a1] (.ref x :: st) ah Q = WP E c 49 2 [a0, a1] (.ref x :: .ref x :: st) ah Q := wp_s i49_1 rfl rfl rfl rfl
theorem r49_1i {E : aEnv} {c : Nat} {ah : aHp} {st : List Value} {Q : Option Value → aHp → Prop} {a0 a1 : Option Value} {x : Int32} : WP E c 49 1 [a0, a1] (.int x :: st) ah Q = WP E c 49 2 [a0, a1] (.int x :: .int x :: st) ah Q := wp_s i49_1 rfl rfl rfl rfl
theorem i49_2 : insAt 49 2 = some (.getfield 2140, 5) := by decide +kernel
theorem r49_2 {E : aEnv} {c : Nat} {ah : aHp} {st : List Value} {Q : Option Value → aHp → Prop} {a0 a1 : Option Value} {a : Nat} : WP E c 49 2 [a0, a1] (.ref a :: st) ah Q = WPo (oGF (hg E ah a) 2 14) (fun v => WP E c 49 5 [a0, a1] (v :: st) ah Q) := wp_getf i49_2
theorem i49_5 : insAt 49 5 = some (.iconst 1, 6) := by decide +kernel
theorem r49_5 {E : aEnv} {c : Nat} {ah : aHp} {st : List Value} {Q : Option Value → aHp → Prop} {a0 a1 : Option Value} : WP E c 49 5 [a0, a1] (st) ah Q = WP E c 49 6 [a0, a1] (.int (1) :: st) ah Q := wp_s i49_5 rfl rfl rfl rfl
theorem i49_6 : insAt 49 6 = some (.iadd, 7) := by decide +kernel
theorem r49_6 {E : aEnv} {c : Nat} {ah : aHp} {st : List Value} {Q : Option Value → aHp → Prop} {a0 a1 : Option Value} {x y : Int32} : WP E c 49 6 [a0, a1] (.int y :: .int x :: st) ah Q = WP E c 49 7 [a0, a1] (.int (x + y) :: st) ah Q := wp_s i49_6 rfl rfl rfl rfl
theorem i49_7 : insAt 49 7 = some (.putfield 2140, 10) := by decide +kernel
theorem r49_7 {E : aEnv} {c : Nat} {ah : aHp} {st : List Value} {Q : Option Value → aHp → Prop} {a0 a1 : Option Value} {a : Nat} {v : Value} : WP E c 49 7 [a0, a1] (v :: .ref a :: st) ah Q = WPo (oPF (hg E ah a) 2140 v) (fun e => WP E c 49 10 [a0, a1] st (hs E ah a e) Q) := wp_putf i49_7
theorem i49_10 : insAt 49 10 = some (.aload 0, 11) := by decide +kernel
theorem r49_10 {E : aEnv} {c : Nat} {ah : aHp} {st : List Value} {Q : Option Value → aHp → Prop} {a1 : Option Value} {x : Nat} : WP E c 49 10 [some (.ref x), a1] (st) ah Q = WP E c 49 11 [some (.ref x), a1] (.ref x :: st) ah Q := wp_s i49_10 rfl rfl rfl rfl
theorem i49_11 : insAt 49 11 = some (.invokevirtual 50, 14) := by decide +kernel
theorem r49_11 {E : aEnv} {c : Nat} {ah ah1 : aHp} {r : Option Value} {st : List Value} {Q : Option Value → aHp → Prop} {a0 a1 : Option Value} {p0 : Nat} (h : EV E c 50 [.ref p0] ah r ah1) (h2 : oCI (hg E ah p0) = 2) (h3 : wds st ≤ 8) : WP E (c + 1) 49 11 [a0, a1] (.ref p0 :: st) ah Q = WP E (c + 1) 49 14 [a0, a1] (r.toList ++ st) ah1 Q := wp_call (As := [.ref p0]) i49_11 (fun _ => rfl) rfl mr50.1 (rcv_1 h2 mr50.2.2 (by decide)) h3 (by rw [mr50.2.1]; exact Nat.le_of_ble_eq_true rfl) h
theorem i49_14 : insAt 49 14 = some (.iconst 0, 15) := by decide +kernel
theorem r49_14 {E : aEnv} {c : Nat} {ah : aHp} {st : List Value} {Q : Option Value → aHp → Prop} {a0 a1 : Option Value} : WP E c 49 14 [a0, a1] (st) ah Q = WP E c 49 15 [a0, a1] (.int (0) :: st) ah Q := wp_s i49_14 rfl rfl rfl rfl
theorem i49_15 : insAt 49 15 = some (.istore 1, 16) := by decide +kernel
theorem r49_15 {E : aEnv} {c : Nat} {ah : aHp} {st : List Value} {Q : Option Value → aHp → Prop} {a0 a1 : Option Value} {x : Int32} : WP E c 49 15 [a0, a1] (.int x :: st) ah Q = WP E c 49 16 [kil a0, some (.int x)] (st) ah Q := wp_s i49_15 rfl rfl rfl rfl
theorem i49_16 : insAt 49 16 = some (.iload 1, 17) := by decide +kernel
theorem r49_16 {E : aEnv} {c : Nat} {ah : aHp} {st : List Value} {Q : Option Value → aHp → Prop} {a0 : Option Value} {x : Int32} : WP E c 49 16 [a0, some (.int x)] (st) ah Q = WP E c 49 17 [a0, some (.int x)] (.int x :: st) ah Q := wp_s i49_16 rfl rfl rfl rfl
theorem i49_17 : insAt 49 17 = some (.iconst 1, 18) := by decide +kernel
theorem r49_17 {E : aEnv} {c : Nat} {ah : aHp} {st : List Value} {Q : Option Value → aHp → Prop} {a0 a1 : Option Value} : WP E c 49 17 [a0, a1] (st) ah Q = WP E c 49 18 [a0, a1] (.int (1) :: st) ah Q := wp_s i49_17 rfl rfl rfl rfl
theorem i49_18 : insAt 49 18 = some (.iadd, 19) := by decide +kernel
theorem r49_18 {E : aEnv} {c : Nat} {ah : aHp} {st : List Value} {Q : Option Value → aHp → Prop} {a0 a1 : Option Value} {x y : Int32} : WP E c 49 18 [a0, a1] (.int y :: .int x :: st) ah Q = WP E c 49 19 [a0, a1] (.int (x + y) :: st) ah Q := wp_s i49_18 rfl rfl rfl rfl
theorem i49_19 : insAt 49 19 = some (.aload 0, 20) := by decide +kernel
theorem r49_19 {E : aEnv} {c : Nat} {ah : aHp} {st : List Value} {Q : Option Value → aHp → Prop} {a1 : Option Value} {x : Nat} : WP E c 49 19 [some (.ref x), a1] (st) ah Q = WP E c 49 20 [some (.ref x), a1] (.ref x :: st) ah Q := wp_s i49_19 rfl rfl rfl rfl
theorem i49_20 : insAt 49 20 = some (.getfield 2000, 23) := by decide +kernel
theorem r49_20 {E : aEnv} {c : Nat} {ah : aHp} {st : List Value} {Q : Option Value → aHp → Prop} {a0 a1 : Option Value} {a : Nat} : WP E c 49 20 [a0, a1] (.ref a :: st) ah Q = WPo (oGF (hg E ah a) 2 0) (fun v => WP E c 49 23 [a0, a1] (v :: st) ah Q) := wp_getf i49_20
theorem i49_23 : insAt 49 23 = some (.if_icmp .ge 37, 26) := by decide +kernel
theorem r49_23 {E : aEnv} {c : Nat} {ah : aHp} {st : List Value} {Q : Option Value → aHp → Prop} {a0 a1 : Option Value} {x y : Int32} : WP E c 49 23 [a0, a1] (.int y :: .int x :: st) ah Q = if y ≤ x then WP E c 49 37 [a0, a1] st ah Q else WP E c 49 26 [a0, a1] st ah Q := wp_j i49_23 rfl rfl rfl rfl
theorem i49_26 : insAt 49 26 = some (.aload 0, 27) := by decide +kernel
theorem r49_26 {E : aEnv} {c : Nat} {ah : aHp} {st : List Value} {Q : Option Value → aHp → Prop} {a1 : Option Value} {x : Nat} : WP E c 49 26 [some (.ref x), a1] (st) ah Q = WP E c 49 27 [some (.ref x), a1] (.ref x :: st) ah Q := wp_s i49_26 rfl rfl rfl rfl
theorem i49_27 : insAt 49 27 = some (.iload 1, 28) := by decide +kernel
theorem r49_27 {E : aEnv} {c : Nat} {ah : aHp} {st : List Value} {Q : Option Value → aHp → Prop} {a0 : Option Value} {x : Int32} : WP E c 49 27 [a0, some (.int x)] (st) ah Q = WP E c 49 28 [a0, some (.int x)] (.int x :: st) ah Q := wp_s i49_27 rfl rfl rfl rfl
theorem i49_28 : insAt 49 28 = some (.invokevirtual 51, 31) := by decide +kernel
theorem r49_28 {E : aEnv} {c : Nat} {ah ah1 : aHp} {r : Option Value} {st : List Value} {Q : Option Value → aHp → Prop} {a0 a1 : Option Value} {p0 : Nat} {p1 : Int32} (h : EV E c 51 [.ref p0, .int p1] ah r ah1) (h2 : oCI (hg E ah p0) = 2) (h3 : wds st ≤ 8) : WP E (c + 1) 49 28 [a0, a1] (.int p1 :: .ref p0 :: st) ah Q = WP E (c + 1) 49 31 [a0, a1] (r.toList ++ st) ah1 Q := wp_call (As := [.ref p0, .int p1]) i49_28 (fun _ => rfl) rfl mr51.1 (rcv_1 h2 mr51.2.2 (by decide)) h3 (by rw [mr51.2.1]; exact Nat.le_of_ble_eq_true rfl) h
theorem i49_31 : insAt 49 31 = some (.iinc 1 2, 34) := by decide +kernel
theorem r49_31 {E : aEnv} {c : Nat} {ah : aHp} {st : List Value} {Q : Option Value → aHp → Prop} {a0 : Option Value} {x : Int32} : WP E c 49 31 [a0, some (.int x)] (st) ah Q = WP E c 49 34 [kil a0, some (.int (x + 2))] (st) ah Q := wp_s i49_31 rfl rfl rfl rfl
theorem i49_34 : insAt 49 34 = some (.goto 16, 37) := by decide +kernel
theorem r49_34 {E : aEnv} {c : Nat} {ah : aHp} {st : List Value} {Q : Option Value → aHp → Prop} {a0 a1 : Option Value} : WP E c 49 34 [a0, a1] (st) ah Q = WP E c 49 16 [a0, a1] st ah Q := wp_s i49_34 rfl rfl rfl rfl
theorem i49_37 : insAt 49 37 = some (.iconst 1, 38) := by decide +kernel
theorem r49_37 {E : aEnv} {c : Nat} {ah : aHp} {st : List Value} {Q : Option Value → aHp → Prop} {a0 a1 : Option Value} : WP E c 49 37 [a0, a1] (st) ah Q = WP E c 49 38 [a0, a1] (.int (1) :: st) ah Q := wp_s i49_37 rfl rfl rfl rfl
theorem i49_38 : insAt 49 38 = some (.istore 1, 39) := by decide +kernel
theorem r49_38 {E : aEnv} {c : Nat} {ah : aHp} {st : List Value} {Q : Option Value → aHp → Prop} {a0 a1 : Option Value} {x : Int32} : WP E c 49 38 [a0, a1] (.int x :: st) ah Q = WP E c 49 39 [kil a0, some (.int x)] (st) ah Q := wp_s i49_38 rfl rfl rfl rfl
theorem i49_39 : insAt 49 39 = some (.iload 1, 40) := by decide +kernel
theorem r49_39 {E : aEnv} {c : Nat} {ah : aHp} {st : List Value} {Q : Option Value → aHp → Prop} {a0 : Option Value} {x : Int32} : WP E c 49 39 [a0, some (.int x)] (st) ah Q = WP E c 49 40 [a0, some (.int x)] (.int x :: st) ah Q := wp_s i49_39 rfl rfl rfl rfl
theorem i49_40 : insAt 49 40 = some (.iconst 1, 41) := by decide +kernel
theorem r49_40 {E : aEnv} {c : Nat} {ah : aHp} {st : List Value} {Q : Option Value → aHp → Prop} {a0 a1 : Option Value} : WP E c 49 40 [a0, a1] (st) ah Q = WP E c 49 41 [a0, a1] (.int (1) :: st) ah Q := wp_s i49_40 rfl rfl rfl rfl
theorem i49_41 : insAt 49 41 = some (.iadd, 42) := by decide +kernel
theorem r49_41 {E : aEnv} {c : Nat} {ah : aHp} {st : List Value} {Q : Option Value → aHp → Prop} {a0 a1 : Option Value} {x y : Int32} : WP E c 49 41 [a0, a1] (.int y :: .int x :: st) ah Q = WP E c 49 42 [a0, a1] (.int (x + y) :: st) ah Q := wp_s i49_41 rfl rfl rfl rfl
theorem i49_42 : insAt 49 42 = some (.aload 0, 43) := by decide +kernel
theorem r49_42 {E : aEnv} {c : Nat} {ah : aHp} {st : List Value} {Q : Option Value → aHp → Prop} {a1 : Option Value} {x : Nat} : WP E c 49 42 [some (.ref x), a1] (st) ah Q = WP E c 49 43 [some (.ref x), a1] (.ref x :: st) ah Q := wp_s i49_42 rfl rfl rfl rfl
theorem i49_43 : insAt 49 43 = some (.getfield 2000, 46) := by decide +kernel
theorem r49_43 {E : aEnv} {c : Nat} {ah : aHp} {st : List Value} {Q : Option Value → aHp → Prop} {a0 a1 : Option Value} {a : Nat} : WP E c 49 43 [a0, a1] (.ref a :: st) ah Q = WPo (oGF (hg E ah a) 2 0) (fun v => WP E c 49 46 [a0, a1] (v :: st) ah Q) := wp_getf i49_43
theorem i49_46 : insAt 49 46 = some (.if_icmp .ge 60, 49) := by decide +kernel
theorem r49_46 {E : aEnv} {c : Nat} {ah : aHp} {st : List Value} {Q : Option Value → aHp → Prop} {a0 a1 : Option Value} {x y : Int32} : WP E c 49 46 [a0, a1] (.int y :: .int x :: st) ah Q = if y ≤ x then WP E c 49 60 [a0, a1] st ah Q else WP E c 49 49 [a0, a1] st ah Q := wp_j i49_46 rfl rfl rfl rfl
theorem i49_49 : insAt 49 49 = some (.aload 0, 50) := by decide +kernel
theorem r49_49 {E : aEnv} {c : Nat} {ah : aHp} {st : List Value} {Q : Option Value → aHp → Prop} {a1 : Option Value} {x : Nat} : WP E c 49 49 [some (.ref x), a1] (st) ah Q = WP E c 49 50 [some (.ref x), a1] (.ref x :: st) ah Q := wp_s i49_49 rfl rfl rfl rfl
theorem i49_50 : insAt 49 50 = some (.iload 1, 51) := by decide +kernel
theorem r49_50 {E : aEnv} {c : Nat} {ah : aHp} {st : List Value} {Q : Option Value → aHp → Prop} {a0 : Option Value} {x : Int32} : WP E c 49 50 [a0, some (.int x)] (st) ah Q = WP E c 49 51 [a0, some (.int x)] (.int x :: st) ah Q := wp_s i49_50 rfl rfl rfl rfl
theorem i49_51 : insAt 49 51 = some (.invokevirtual 51, 54) := by decide +kernel
theorem r49_51 {E : aEnv} {c : Nat} {ah ah1 : aHp} {r : Option Value} {st : List Value} {Q : Option Value → aHp → Prop} {a0 a1 : Option Value} {p0 : Nat} {p1 : Int32} (h : EV E c 51 [.ref p0, .int p1] ah r ah1) (h2 : oCI (hg E ah p0) = 2) (h3 : wds st ≤ 8) : WP E (c + 1) 49 51 [a0, a1] (.int p1 :: .ref p0 :: st) ah Q = WP E (c + 1) 49 54 [a0, a1] (r.toList ++ st) ah1 Q := wp_call (As := [.ref p0, .int p1]) i49_51 (fun _ => rfl) rfl mr51.1 (rcv_1 h2 mr51.2.2 (by decide)) h3 (by rw [mr51.2.1]; exact Nat.le_of_ble_eq_true rfl) h
theorem i49_54 : insAt 49 54 = some (.iinc 1 2, 57) := by decide +kernel
theorem r49_54 {E : aEnv} {c : Nat} {ah : aHp} {st : List Value} {Q : Option Value → aHp → Prop} {a0 : Option Value} {x : Int32} : WP E c 49 54 [a0, some (.int x)] (st) ah Q = WP E c 49 57 [kil a0, some (.int (x + 2))] (st) ah Q := wp_s i49_54 rfl rfl rfl rfl
theorem i49_57 : insAt 49 57 = some (.goto 39, 60) := by decide +kernel
theorem r49_57 {E : aEnv} {c : Nat} {ah : aHp} {st : List Value} {Q : Option Value → aHp → Prop} {a0 a1 : Option Value} : WP E c 49 57 [a0, a1] (st) ah Q = WP E c 49 39 [a0, a1] st ah Q := wp_s i49_57 rfl rfl rfl rfl
theorem i49_60 : insAt 49 60 = some (.aload 0, 61) := by decide +kernel
theorem r49_60 {E : aEnv} {c : Nat} {ah : aHp} {st : List Value} {Q : Option Value → aHp → Prop} {a1 : Option Value} {x : Nat} : WP E c 49 60 [some (.ref x), a1] (st) ah Q = WP E c 49 61 [some (.ref x), a1] (.ref x :: st) ah Q := wp_s i49_60 rfl rfl rfl rfl
theorem i49_61 : insAt 49 61 = some (.invokevirtual 53, 64) := by decide +kernel
theorem r49_61 {E : aEnv} {c : Nat} {ah ah1 : aHp} {r : Option Value} {st : List Value} {Q : Option Value → aHp → Prop} {a0 a1 : Option Value} {p0 : Nat} (h : EV E c 53 [.ref p0] ah r ah1) (h2 : oCI (hg E ah p0) = 2) (h3 : wds st ≤ 8) : WP E (c + 1) 49 61 [a0, a1] (.ref p0 :: st) ah Q = WP E (c + 1) 49 64 [a0, a1] (r.toList ++ st) ah1 Q := wp_call (As := [.ref p0]) i49_61 (fun _ => rfl) rfl mr53.1 (rcv_1 h2 mr53.2.2 (by decide)) h3 (by rw [mr53.2.1]; exact Nat.le_of_ble_eq_true rfl) h
theorem i49_64 : insAt 49 64 = some (.return_, 65) := by decide +kernel
theorem r49_64 {E : aEnv} {c : Nat} {ah : aHp} {Q : Option Value → aHp → Prop} {a0 a1 : Option Value} : WP E c 49 64 [a0, a1] ([]) ah Q = Q none ah := wp_rt i49_64 rfl
theorem e50 {E : aEnv} {c : Nat} {ah ahF : aHp} {r : Option Value} {p0 : Nat} (h : WP E c 50 0 [some (.ref p0), none] [] ah (fun r1 x1 => r1 = r ∧ x1 = ahF)) : EV E c 50 [.ref p0] ah r ahF := EV.of (by rw [mr50.2.1]; exact h)
theorem i50_0 : insAt 50 0 = some (.iconst 0, 1) := by decide +kernel
theorem r50_0 {E : aEnv} {c : Nat} {ah : aHp} {st : List Value} {Q : Option Value → aHp → Prop} {a0 a1 : Option Value} : WP E c 50 0 [a0, a1] (st) ah Q = WP E c 50 1 [a0, a1] (.int (0) :: st) ah Q := wp_s i50_0 rfl rfl rfl rfl
theorem i50_1 : insAt 50 1 = some (.istore 1, 2) := by decide +kernel
theorem r50_1 {E : aEnv} {c : Nat} {ah : aHp} {st : List Value} {Q : Option Value → aHp → Prop} {a0 a1 : Option Value} {x : Int32} : WP E c 50 1 [a0, a1] (.int x :: st) ah Q = WP E c 50 2 [kil a0, some (.int x)] (st) ah Q := wp_s i50_1 rfl rfl rfl rfl
theorem i50_2 : insAt 50 2 = some (.iload 1, 3) := by decide +kernel
theorem r50_2 {E : aEnv} {c : Nat} {ah : aHp} {st : List Value} {Q : Option Value → aHp → Prop} {a0 : Option Value} {x : Int32} : WP E c 50 2 [a0, some (.int x)] (st) ah Q = WP E c 50 3 [a0, some (.int x)] (.int x :: st) ah Q := wp_s i50_2 rfl rfl rfl rfl
theorem i50_3 : insAt 50 3 = some (.aload 0, 4) := by decide +kernel
theorem r50_3 {E : aEnv} {c : Nat} {ah : aHp} {st : List Value} {Q : Option Value → aHp → Prop} {a1 : Option Value} {x : Nat} : WP E c 50 3 [some (.ref x), a1] (st) ah Q = WP E c 50 4 [some (.ref x), a1] (.ref x :: st) ah Q := wp_s i50_3 rfl rfl rfl rfl
theorem i50_4 : insAt 50 4 = some (.getfield 2130, 7) := by decide +kernel
theorem r50_4 {E : aEnv} {c : Nat} {ah : aHp} {st : List Value} {Q : Option Value → aHp → Prop} {a0 a1 : Option Value} {a : Nat} : WP E c 50 4 [a0, a1] (.ref a :: st) ah Q = WPo (oGF (hg E ah a) 2 13) (fun v => WP E c 50 7 [a0, a1] (v :: st) ah Q) := wp_getf i50_4
theorem i50_7 : insAt 50 7 = some (.if_icmp .ge 79, 10) := by decide +kernel
theorem r50_7 {E : aEnv} {c : Nat} {ah : aHp} {st : List Value} {Q : Option Value → aHp → Prop} {a0 a1 : Option Value} {x y : Int32} : WP E c 50 7 [a0, a1] (.int y :: .int x :: st) ah Q = if y ≤ x then WP E c 50 79 [a0, a1] st ah Q else WP E c 50 10 [a0, a1] st ah Q := wp_j i50_7 rfl rfl rfl rfl
theorem i50_10 : insAt 50 10 = some (.aload 0, 11) := by decide +kernel
theorem r50_10 {E : aEnv} {c : Nat} {ah : aHp} {st : List Value} {Q : Option Value → aHp → Prop} {a1 : Option Value} {x : Nat} : WP E c 50 10 [some (.ref x), a1] (st) ah Q = WP E c 50 11 [some (.ref x), a1] (.ref x :: st) ah Q := wp_s i50_10 rfl rfl rfl rfl
theorem i50_11 : insAt 50 11 = some (.getfield 2092, 14) := by decide +kernel
theorem r50_11 {E : aEnv} {c : Nat} {ah : aHp} {st : List Value} {Q : Option Value → aHp → Prop} {a0 a1 : Option Value} {a : Nat} : WP E c 50 11 [a0, a1] (.ref a :: st) ah Q = WPo (oGF (hg E ah a) 2 9) (fun v => WP E c 50 14 [a0, a1] (v :: st) ah Q) := wp_getf i50_11
theorem i50_14 : insAt 50 14 = some (.iload 1, 15) := by decide +kernel
theorem r50_14 {E : aEnv} {c : Nat} {ah : aHp} {st : List Value} {Q : Option Value → aHp → Prop} {a0 : Option Value} {x : Int32} : WP E c 50 14 [a0, some (.int x)] (st) ah Q = WP E c 50 15 [a0, some (.int x)] (.int x :: st) ah Q := wp_s i50_14 rfl rfl rfl rfl
theorem i50_15 : insAt 50 15 = some (.iaload, 16) := by decide +kernel
theorem r50_15 {E : aEnv} {c : Nat} {ah : aHp} {st : List Value} {Q : Option Value → aHp → Prop} {a0 a1 : Option Value} {i : Int32} {a : Nat} : WP E c 50 15 [a0, a1] (.int i :: .ref a :: st) ah Q = WPo (gI E ah (.int i :: .ref a :: st)) (fun s9 => WP E c 50 16 [a0, a1] s9 ah Q) := wp_hr i50_15 rfl rfl rfl rfl rfl rfl rfl rfl
theorem i50_16 : insAt 50 16 = some (.aload 0, 17) := by decide +kernel
theorem r50_16 {E : aEnv} {c : Nat} {ah : aHp} {st : List Value} {Q : Option Value → aHp → Prop} {a1 : Option Value} {x : Nat} : WP E c 50 16 [some (.ref x), a1] (st) ah Q = WP E c 50 17 [some (.ref x), a1] (.ref x :: st) ah Q := wp_s i50_16 rfl rfl rfl rfl
theorem i50_17 : insAt 50 17 = some (.getfield 2140, 20) := by decide +kernel
theorem r50_17 {E : aEnv} {c : Nat} {ah : aHp} {st : List Value} {Q : Option Value → aHp → Prop} {a0 a1 : Option Value} {a : Nat} : WP E c 50 17 [a0, a1] (.ref a :: st) ah Q = WPo (oGF (hg E ah a) 2 14) (fun v => WP E c 50 20 [a0, a1] (v :: st) ah Q) := wp_getf i50_17
theorem i50_20 : insAt 50 20 = some (.if_icmp .ne 73, 23) := by decide +kernel
theorem r50_20 {E : aEnv} {c : Nat} {ah : aHp} {st : List Value} {Q : Option Value → aHp → Prop} {a0 a1 : Option Value} {x y : Int32} : WP E c 50 20 [a0, a1] (.int y :: .int x :: st) ah Q = if ¬ x = y then WP E c 50 73 [a0, a1] st ah Q else WP E c 50 23 [a0, a1] st ah Q := wp_j i50_20 rfl rfl rfl rfl
theorem i50_23 : insAt 50 23 = some (.aload 0, 24) := by decide +kernel
theorem r50_23 {E : aEnv} {c : Nat} {ah : aHp} {st : List Value} {Q : Option Value → aHp → Prop} {a1 : Option Value} {x : Nat} : WP E c 50 23 [some (.ref x), a1] (st) ah Q = WP E c 50 24 [some (.ref x), a1] (.ref x :: st) ah Q := wp_s i50_23 rfl rfl rfl rfl
theorem i50_24 : insAt 50 24 = some (.getfield 2122, 27) := by decide +kernel
theorem r50_24 {E : aEnv} {c : Nat} {ah : aHp} {st : List Value} {Q : Option Value → aHp → Prop} {a0 a1 : Option Value} {a : Nat} : WP E c 50 24 [a0, a1] (.ref a :: st) ah Q = WPo (oGF (hg E ah a) 2 12) (fun v => WP E c 50 27 [a0, a1] (v :: st) ah Q) := wp_getf i50_24
theorem i50_27 : insAt 50 27 = some (.iload 1, 28) := by decide +kernel
theorem r50_27 {E : aEnv} {c : Nat} {ah : aHp} {st : List Value} {Q : Option Value → aHp → Prop} {a0 : Option Value} {x : Int32} : WP E c 50 27 [a0, some (.int x)] (st) ah Q = WP E c 50 28 [a0, some (.int x)] (.int x :: st) ah Q := wp_s i50_27 rfl rfl rfl rfl
theorem i50_28 : insAt 50 28 = some (.iaload, 29) := by decide +kernel
theorem r50_28 {E : aEnv} {c : Nat} {ah : aHp} {st : List Value} {Q : Option Value → aHp → Prop} {a0 a1 : Option Value} {i : Int32} {a : Nat} : WP E c 50 28 [a0, a1] (.int i :: .ref a :: st) ah Q = WPo (gI E ah (.int i :: .ref a :: st)) (fun s9 => WP E c 50 29 [a0, a1] s9 ah Q) := wp_hr i50_28 rfl rfl rfl rfl rfl rfl rfl rfl
theorem i50_29 : insAt 50 29 = some (.ifCond .eq 73, 32) := by decide +kernel
theorem r50_29 {E : aEnv} {c : Nat} {ah : aHp} {st : List Value} {Q : Option Value → aHp → Prop} {a0 a1 : Option Value} {x : Int32} : WP E c 50 29 [a0, a1] (.int x :: st) ah Q = if x = 0 then WP E c 50 73 [a0, a1] st ah Q else WP E c 50 32 [a0, a1] st ah Q := wp_j i50_29 rfl rfl rfl rfl
theorem i50_32 : insAt 50 32 = some (.aload 0, 33) := by decide +kernel
theorem r50_32 {E : aEnv} {c : Nat} {ah : aHp} {st : List Value} {Q : Option Value → aHp → Prop} {a1 : Option Value} {x : Nat} : WP E c 50 32 [some (.ref x), a1] (st) ah Q = WP E c 50 33 [some (.ref x), a1] (.ref x :: st) ah Q := wp_s i50_32 rfl rfl rfl rfl
theorem i50_33 : insAt 50 33 = some (.getfield 2062, 36) := by decide +kernel
theorem r50_33 {E : aEnv} {c : Nat} {ah : aHp} {st : List Value} {Q : Option Value → aHp → Prop} {a0 a1 : Option Value} {a : Nat} : WP E c 50 33 [a0, a1] (.ref a :: st) ah Q = WPo (oGF (hg E ah a) 2 6) (fun v => WP E c 50 36 [a0, a1] (v :: st) ah Q) := wp_getf i50_33
theorem i50_36 : insAt 50 36 = some (.aload 0, 37) := by decide +kernel
theorem r50_36 {E : aEnv} {c : Nat} {ah : aHp} {st : List Value} {Q : Option Value → aHp → Prop} {a1 : Option Value} {x : Nat} : WP E c 50 36 [some (.ref x), a1] (st) ah Q = WP E c 50 37 [some (.ref x), a1] (.ref x :: st) ah Q := wp_s i50_36 rfl rfl rfl rfl
theorem i50_37 : insAt 50 37 = some (.getfield 2102, 40) := by decide +kernel
theorem r50_37 {E : aEnv} {c : Nat} {ah : aHp} {st : List Value} {Q : Option Value → aHp → Prop} {a0 a1 : Option Value} {a : Nat} : WP E c 50 37 [a0, a1] (.ref a :: st) ah Q = WPo (oGF (hg E ah a) 2 10) (fun v => WP E c 50 40 [a0, a1] (v :: st) ah Q) := wp_getf i50_37
theorem i50_40 : insAt 50 40 = some (.iload 1, 41) := by decide +kernel
theorem r50_40 {E : aEnv} {c : Nat} {ah : aHp} {st : List Value} {Q : Option Value → aHp → Prop} {a0 : Option Value} {x : Int32} : WP E c 50 40 [a0, some (.int x)] (st) ah Q = WP E c 50 41 [a0, some (.int x)] (.int x :: st) ah Q := wp_s i50_40 rfl rfl rfl rfl
theorem i50_41 : insAt 50 41 = some (.iaload, 42) := by decide +kernel
theorem r50_41 {E : aEnv} {c : Nat} {ah : aHp} {st : List Value} {Q : Option Value → aHp → Prop} {a0 a1 : Option Value} {i : Int32} {a : Nat} : WP E c 50 41 [a0, a1] (.int i :: .ref a :: st) ah Q = WPo (gI E ah (.int i :: .ref a :: st)) (fun s9 => WP E c 50 42 [a0, a1] s9 ah Q) := wp_hr i50_41 rfl rfl rfl rfl rfl rfl rfl rfl
theorem i50_42 : insAt 50 42 = some (.aload 0, 43) := by decide +kernel
theorem r50_42 {E : aEnv} {c : Nat} {ah : aHp} {st : List Value} {Q : Option Value → aHp → Prop} {a1 : Option Value} {x : Nat} : WP E c 50 42 [some (.ref x), a1] (st) ah Q = WP E c 50 43 [some (.ref x), a1] (.ref x :: st) ah Q := wp_s i50_42 rfl rfl rfl rfl
theorem i50_43 : insAt 50 43 = some (.getfield 2010, 46) := by decide +kernel
theorem r50_43 {E : aEnv} {c : Nat} {ah : aHp} {st : List Value} {Q : Option Value → aHp → Prop} {a0 a1 : Option Value} {a : Nat} : WP E c 50 43 [a0, a1] (.ref a :: st) ah Q = WPo (oGF (hg E ah a) 2 1) (fun v => WP E c 50 46 [a0, a1] (v :: st) ah Q) := wp_getf i50_43
theorem i50_46 : insAt 50 46 = some (.imul, 47) := by decide +kernel
theorem r50_46 {E : aEnv} {c : Nat} {ah : aHp} {st : List Value} {Q : Option Value → aHp → Prop} {a0 a1 : Option Value} {x y : Int32} : WP E c 50 46 [a0, a1] (.int y :: .int x :: st) ah Q = WP E c 50 47 [a0, a1] (.int (x * y) :: st) ah Q := wp_s i50_46 rfl rfl rfl rfl
theorem i50_47 : insAt 50 47 = some (.aload 0, 48) := by decide +kernel
theorem r50_47 {E : aEnv} {c : Nat} {ah : aHp} {st : List Value} {Q : Option Value → aHp → Prop} {a1 : Option Value} {x : Nat} : WP E c 50 47 [some (.ref x), a1] (st) ah Q = WP E c 50 48 [some (.ref x), a1] (.ref x :: st) ah Q := wp_s i50_47 rfl rfl rfl rfl
theorem i50_48 : insAt 50 48 = some (.getfield 2112, 51) := by decide +kernel
theorem r50_48 {E : aEnv} {c : Nat} {ah : aHp} {st : List Value} {Q : Option Value → aHp → Prop} {a0 a1 : Option Value} {a : Nat} : WP E c 50 48 [a0, a1] (.ref a :: st) ah Q = WPo (oGF (hg E ah a) 2 11) (fun v => WP E c 50 51 [a0, a1] (v :: st) ah Q) := wp_getf i50_48
theorem i50_51 : insAt 50 51 = some (.iload 1, 52) := by decide +kernel
theorem r50_51 {E : aEnv} {c : Nat} {ah : aHp} {st : List Value} {Q : Option Value → aHp → Prop} {a0 : Option Value} {x : Int32} : WP E c 50 51 [a0, some (.int x)] (st) ah Q = WP E c 50 52 [a0, some (.int x)] (.int x :: st) ah Q := wp_s i50_51 rfl rfl rfl rfl
theorem i50_52 : insAt 50 52 = some (.iaload, 53) := by decide +kernel
theorem r50_52 {E : aEnv} {c : Nat} {ah : aHp} {st : List Value} {Q : Option Value → aHp → Prop} {a0 a1 : Option Value} {i : Int32} {a : Nat} : WP E c 50 52 [a0, a1] (.int i :: .ref a :: st) ah Q = WPo (gI E ah (.int i :: .ref a :: st)) (fun s9 => WP E c 50 53 [a0, a1] s9 ah Q) := wp_hr i50_52 rfl rfl rfl rfl rfl rfl rfl rfl
theorem i50_53 : insAt 50 53 = some (.iadd, 54) := by decide +kernel
theorem r50_53 {E : aEnv} {c : Nat} {ah : aHp} {st : List Value} {Q : Option Value → aHp → Prop} {a0 a1 : Option Value} {x y : Int32} : WP E c 50 53 [a0, a1] (.int y :: .int x :: st) ah Q = WP E c 50 54 [a0, a1] (.int (x + y) :: st) ah Q := wp_s i50_53 rfl rfl rfl rfl
theorem i50_54 : insAt 50 54 = some (.dup2, 55) := by decide +kernel
theorem r50_54 {E : aEnv} {c : Nat} {ah : aHp} {st : List Value} {Q : Option Value → aHp → Prop} {a0 a1 : Option Value} {x : Int32} {a : Nat} : WP E c 50 54 [a0, a1] (.int x :: .ref a :: st) ah Q = WP E c 50 55 [a0, a1] (.int x :: .ref a :: .int x :: .ref a :: st) ah Q := wp_s i50_54 rfl rfl rfl rfl
theorem r50_54l {E : aEnv} {c : Nat} {ah : aHp} {st : List Value} {Q : Option Value → aHp → Prop} {a0 a1 : Option Value} {x : Int64} : WP E c 50 54 [a0, a1] (.long x :: st) ah Q = WP E c 50 55 [a0, a1] (.long x :: .long x :: st) ah Q := wp_s i50_54 rfl rfl rfl rfl
theorem i50_55 : insAt 50 55 = some (.iaload, 56) := by decide +kernel
theorem r50_55 {E : aEnv} {c : Nat} {ah : aHp} {st : List Value} {Q : Option Value → aHp → Prop} {a0 a1 : Option Value} {i : Int32} {a : Nat} : WP E c 50 55 [a0, a1] (.int i :: .ref a :: st) ah Q = WPo (gI E ah (.int i :: .ref a :: st)) (fun s9 => WP E c 50 56 [a0, a1] s9 ah Q) := wp_hr i50_55 rfl rfl rfl rfl rfl rfl rfl rfl
theorem i50_56 : insAt 50 56 = some (.aload 0, 57) := by decide +kernel
theorem r50_56 {E : aEnv} {c : Nat} {ah : aHp} {st : List Value} {Q : Option Value → aHp → Prop} {a1 : Option Value} {x : Nat} : WP E c 50 56 [some (.ref x), a1] (st) ah Q = WP E c 50 57 [some (.ref x), a1] (.ref x :: st) ah Q := wp_s i50_56 rfl rfl rfl rfl
theorem i50_57 : insAt 50 57 = some (.getfield 2122, 60) := by decide +kernel
theorem r50_57 {E : aEnv} {c : Nat} {ah : aHp} {st : List Value} {Q : Option Value → aHp → Prop} {a0 a1 : Option Value} {a : Nat} : WP E c 50 57 [a0, a1] (.ref a :: st) ah Q = WPo (oGF (hg E ah a) 2 12) (fun v => WP E c 50 60 [a0, a1] (v :: st) ah Q) := wp_getf i50_57
theorem i50_60 : insAt 50 60 = some (.iload 1, 61) := by decide +kernel
theorem r50_60 {E : aEnv} {c : Nat} {ah : aHp} {st : List Value} {Q : Option Value → aHp → Prop} {a0 : Option Value} {x : Int32} : WP E c 50 60 [a0, some (.int x)] (st) ah Q = WP E c 50 61 [a0, some (.int x)] (.int x :: st) ah Q := wp_s i50_60 rfl rfl rfl rfl
theorem i50_61 : insAt 50 61 = some (.iaload, 62) := by decide +kernel
theorem r50_61 {E : aEnv} {c : Nat} {ah : aHp} {st : List Value} {Q : Option Value → aHp → Prop} {a0 a1 : Option Value} {i : Int32} {a : Nat} : WP E c 50 61 [a0, a1] (.int i :: .ref a :: st) ah Q = WPo (gI E ah (.int i :: .ref a :: st)) (fun s9 => WP E c 50 62 [a0, a1] s9 ah Q) := wp_hr i50_61 rfl rfl rfl rfl rfl rfl rfl rfl
theorem i50_62 : insAt 50 62 = some (.iconst 1, 63) := by decide +kernel
theorem r50_62 {E : aEnv} {c : Nat} {ah : aHp} {st : List Value} {Q : Option Value → aHp → Prop} {a0 a1 : Option Value} : WP E c 50 62 [a0, a1] (st) ah Q = WP E c 50 63 [a0, a1] (.int (1) :: st) ah Q := wp_s i50_62 rfl rfl rfl rfl
theorem i50_63 : insAt 50 63 = some (.if_icmp .ne 70, 66) := by decide +kernel
theorem r50_63 {E : aEnv} {c : Nat} {ah : aHp} {st : List Value} {Q : Option Value → aHp → Prop} {a0 a1 : Option Value} {x y : Int32} : WP E c 50 63 [a0, a1] (.int y :: .int x :: st) ah Q = if ¬ x = y then WP E c 50 70 [a0, a1] st ah Q else WP E c 50 66 [a0, a1] st ah Q := wp_j i50_63 rfl rfl rfl rfl
theorem i50_66 : insAt 50 66 = some (.iconst 1, 67) := by decide +kernel
theorem r50_66 {E : aEnv} {c : Nat} {ah : aHp} {st : List Value} {Q : Option Value → aHp → Prop} {a0 a1 : Option Value} : WP E c 50 66 [a0, a1] (st) ah Q = WP E c 50 67 [a0, a1] (.int (1) :: st) ah Q := wp_s i50_66 rfl rfl rfl rfl
theorem i50_67 : insAt 50 67 = some (.goto 71, 70) := by decide +kernel
theorem r50_67 {E : aEnv} {c : Nat} {ah : aHp} {st : List Value} {Q : Option Value → aHp → Prop} {a0 a1 : Option Value} : WP E c 50 67 [a0, a1] (st) ah Q = WP E c 50 71 [a0, a1] st ah Q := wp_s i50_67 rfl rfl rfl rfl
theorem i50_70 : insAt 50 70 = some (.iconst 2, 71) := by decide +kernel
theorem r50_70 {E : aEnv} {c : Nat} {ah : aHp} {st : List Value} {Q : Option Value → aHp → Prop} {a0 a1 : Option Value} : WP E c 50 70 [a0, a1] (st) ah Q = WP E c 50 71 [a0, a1] (.int (2) :: st) ah Q := wp_s i50_70 rfl rfl rfl rfl
theorem i50_71 : insAt 50 71 = some (.ior, 72) := by decide +kernel
theorem r50_71 {E : aEnv} {c : Nat} {ah : aHp} {st : List Value} {Q : Option Value → aHp → Prop} {a0 a1 : Option Value} {x y : Int32} : WP E c 50 71 [a0, a1] (.int y :: .int x :: st) ah Q = WP E c 50 72 [a0, a1] (.int (x ||| y) :: st) ah Q := wp_s i50_71 rfl rfl rfl rfl
theorem i50_72 : insAt 50 72 = some (.iastore, 73) := by decide +kernel
theorem r50_72 {E : aEnv} {c : Nat} {ah : aHp} {st : List Value} {Q : Option Value → aHp → Prop} {a0 a1 : Option Value} {x : Int32} {i : Int32} {a : Nat} : WP E c 50 72 [a0, a1] (.int x :: .int i :: .ref a :: st) ah Q = WPo (pI E ah (.int x :: .int i :: .ref a :: st)) (fun q9 => WP E c 50 73 [a0, a1] q9.1 q9.2 Q) := wp_hw i50_72 rfl rfl rfl rfl rfl rfl rfl rfl
theorem i50_73 : insAt 50 73 = some (.iinc 1 1, 76) := by decide +kernel
theorem r50_73 {E : aEnv} {c : Nat} {ah : aHp} {st : List Value} {Q : Option Value → aHp → Prop} {a0 : Option Value} {x : Int32} : WP E c 50 73 [a0, some (.int x)] (st) ah Q = WP E c 50 76 [kil a0, some (.int (x + 1))] (st) ah Q := wp_s i50_73 rfl rfl rfl rfl
theorem i50_76 : insAt 50 76 = some (.goto 2, 79) := by decide +kernel
theorem r50_76 {E : aEnv} {c : Nat} {ah : aHp} {st : List Value} {Q : Option Value → aHp → Prop} {a0 a1 : Option Value} : WP E c 50 76 [a0, a1] (st) ah Q = WP E c 50 2 [a0, a1] st ah Q := wp_s i50_76 rfl rfl rfl rfl
theorem i50_79 : insAt 50 79 = some (.return_, 80) := by decide +kernel
theorem r50_79 {E : aEnv} {c : Nat} {ah : aHp} {Q : Option Value → aHp → Prop} {a0 a1 : Option Value} : WP E c 50 79 [a0, a1] ([]) ah Q = Q none ah := wp_rt i50_79 rfl
theorem e51 {E : aEnv} {c : Nat} {ah ahF : aHp} {r : Option Value} {p0 : Nat} {p1 : Int32} (h : WP E c 51 0 [some (.ref p0), some (.int p1), none, none, none, none, none] [] ah (fun r1 x1 => r1 = r ∧ x1 = ahF)) : EV E c 51 [.ref p0, .int p1] ah r ahF := EV.of (by rw [mr51.2.1]; exact h)
theorem i51_0 : insAt 51 0 = some (.iload 1, 1) := by decide +kernel
theorem r51_0 {E : aEnv} {c : Nat} {ah : aHp} {st : List Value} {Q : Option Value → aHp → Prop} {a0 a2 a3 a4 a5 a6 : Option Value} {x : Int32} : WP E c 51 0 [a0, some (.int x), a2, a3, a4, a5, a6] (st) ah Q = WP E c 51 1 [a0, some (.int x), a2, a3, a4, a5, a6] (.int x :: st) ah Q := wp_s i51_0 rfl rfl rfl rfl
theorem i51_1 : insAt 51 1 = some (.aload 0, 2) := by decide +kernel
theorem r51_1 {E : aEnv} {c : Nat} {ah : aHp} {st : List Value} {Q : Option Value → aHp → Prop} {a1 a2 a3 a4 a5 a6 : Option Value} {x : Nat} : WP E c 51 1 [some (.ref x), a1, a2, a3, a4, a5, a6] (st) ah Q = WP E c 51 2 [some (.ref x), a1, a2, a3, a4, a5, a6] (.ref x :: st) ah Q := wp_s i51_1 rfl rfl rfl rfl
theorem i51_2 : insAt 51 2 = some (.getfield 2010, 5) := by decide +kernel
theorem r51_2 {E : aEnv} {c : Nat} {ah : aHp} {st : List Value} {Q : Option Value → aHp → Prop} {a0 a1 a2 a3 a4 a5 a6 : Option Value} {a : Nat} : WP E c 51 2 [a0, a1, a2, a3, a4, a5, a6] (.ref a :: st) ah Q = WPo (oGF (hg E ah a) 2 1) (fun v => WP E c 51 5 [a0, a1, a2, a3, a4, a5, a6] (v :: st) ah Q) := wp_getf i51_2
theorem i51_5 : insAt 51 5 = some (.imul, 6) := by decide +kernel
theorem r51_5 {E : aEnv} {c : Nat} {ah : aHp} {st : List Value} {Q : Option Value → aHp → Prop} {a0 a1 a2 a3 a4 a5 a6 : Option Value} {x y : Int32} : WP E c 51 5 [a0, a1, a2, a3, a4, a5, a6] (.int y :: .int x :: st) ah Q = WP E c 51 6 [a0, a1, a2, a3, a4, a5, a6] (.int (x * y) :: st) ah Q := wp_s i51_5 rfl rfl rfl rfl
theorem i51_6 : insAt 51 6 = some (.istore 2, 7) := by decide +kernel
theorem r51_6 {E : aEnv} {c : Nat} {ah : aHp} {st : List Value} {Q : Option Value → aHp → Prop} {a0 a1 a2 a3 a4 a5 a6 : Option Value} {x : Int32} : WP E c 51 6 [a0, a1, a2, a3, a4, a5, a6] (.int x :: st) ah Q = WP E c 51 7 [a0, kil a1, some (.int x), a3, a4, a5, a6] (st) ah Q := wp_s i51_6 rfl rfl rfl rfl
theorem i51_7 : insAt 51 7 = some (.iload 2, 8) := by decide +kernel
theorem r51_7 {E : aEnv} {c : Nat} {ah : aHp} {st : List Value} {Q : Option Value → aHp → Prop} {a0 a1 a3 a4 a5 a6 : Option Value} {x : Int32} : WP E c 51 7 [a0, a1, some (.int x), a3, a4, a5, a6] (st) ah Q = WP E c 51 8 [a0, a1, some (.int x), a3, a4, a5, a6] (.int x :: st) ah Q := wp_s i51_7 rfl rfl rfl rfl
theorem i51_8 : insAt 51 8 = some (.aload 0, 9) := by decide +kernel
theorem r51_8 {E : aEnv} {c : Nat} {ah : aHp} {st : List Value} {Q : Option Value → aHp → Prop} {a1 a2 a3 a4 a5 a6 : Option Value} {x : Nat} : WP E c 51 8 [some (.ref x), a1, a2, a3, a4, a5, a6] (st) ah Q = WP E c 51 9 [some (.ref x), a1, a2, a3, a4, a5, a6] (.ref x :: st) ah Q := wp_s i51_8 rfl rfl rfl rfl
theorem i51_9 : insAt 51 9 = some (.getfield 2010, 12) := by decide +kernel
theorem r51_9 {E : aEnv} {c : Nat} {ah : aHp} {st : List Value} {Q : Option Value → aHp → Prop} {a0 a1 a2 a3 a4 a5 a6 : Option Value} {a : Nat} : WP E c 51 9 [a0, a1, a2, a3, a4, a5, a6] (.ref a :: st) ah Q = WPo (oGF (hg E ah a) 2 1) (fun v => WP E c 51 12 [a0, a1, a2, a3, a4, a5, a6] (v :: st) ah Q) := wp_getf i51_9
theorem i51_12 : insAt 51 12 = some (.iadd, 13) := by decide +kernel
theorem r51_12 {E : aEnv} {c : Nat} {ah : aHp} {st : List Value} {Q : Option Value → aHp → Prop} {a0 a1 a2 a3 a4 a5 a6 : Option Value} {x y : Int32} : WP E c 51 12 [a0, a1, a2, a3, a4, a5, a6] (.int y :: .int x :: st) ah Q = WP E c 51 13 [a0, a1, a2, a3, a4, a5, a6] (.int (x + y) :: st) ah Q := wp_s i51_12 rfl rfl rfl rfl
theorem i51_13 : insAt 51 13 = some (.istore 3, 14) := by decide +kernel
theorem r51_13 {E : aEnv} {c : Nat} {ah : aHp} {st : List Value} {Q : Option Value → aHp → Prop} {a0 a1 a2 a3 a4 a5 a6 : Option Value} {x : Int32} : WP E c 51 13 [a0, a1, a2, a3, a4, a5, a6] (.int x :: st) ah Q = WP E c 51 14 [a0, a1, kil a2, some (.int x), a4, a5, a6] (st) ah Q := wp_s i51_13 rfl rfl rfl rfl
theorem i51_14 : insAt 51 14 = some (.iconst 0, 15) := by decide +kernel
theorem r51_14 {E : aEnv} {c : Nat} {ah : aHp} {st : List Value} {Q : Option Value → aHp → Prop} {a0 a1 a2 a3 a4 a5 a6 : Option Value} : WP E c 51 14 [a0, a1, a2, a3, a4, a5, a6] (st) ah Q = WP E c 51 15 [a0, a1, a2, a3, a4, a5, a6] (.int (0) :: st) ah Q := wp_s i51_14 rfl rfl rfl rfl
theorem i51_15 : insAt 51 15 = some (.istore 4, 17) := by decide +kernel
theorem r51_15 {E : aEnv} {c : Nat} {ah : aHp} {st : List Value} {Q : Option Value → aHp → Prop} {a0 a1 a2 a3 a4 a5 a6 : Option Value} {x : Int32} : WP E c 51 15 [a0, a1, a2, a3, a4, a5, a6] (.int x :: st) ah Q = WP E c 51 17 [a0, a1, a2, kil a3, some (.int x), a5, a6] (st) ah Q := wp_s i51_15 rfl rfl rfl rfl
theorem i51_17 : insAt 51 17 = some (.iload 4, 19) := by decide +kernel
theorem r51_17 {E : aEnv} {c : Nat} {ah : aHp} {st : List Value} {Q : Option Value → aHp → Prop} {a0 a1 a2 a3 a5 a6 : Option Value} {x : Int32} : WP E c 51 17 [a0, a1, a2, a3, some (.int x), a5, a6] (st) ah Q = WP E c 51 19 [a0, a1, a2, a3, some (.int x), a5, a6] (.int x :: st) ah Q := wp_s i51_17 rfl rfl rfl rfl
theorem i51_19 : insAt 51 19 = some (.aload 0, 20) := by decide +kernel
theorem r51_19 {E : aEnv} {c : Nat} {ah : aHp} {st : List Value} {Q : Option Value → aHp → Prop} {a1 a2 a3 a4 a5 a6 : Option Value} {x : Nat} : WP E c 51 19 [some (.ref x), a1, a2, a3, a4, a5, a6] (st) ah Q = WP E c 51 20 [some (.ref x), a1, a2, a3, a4, a5, a6] (.ref x :: st) ah Q := wp_s i51_19 rfl rfl rfl rfl
theorem i51_20 : insAt 51 20 = some (.getfield 2010, 23) := by decide +kernel
theorem r51_20 {E : aEnv} {c : Nat} {ah : aHp} {st : List Value} {Q : Option Value → aHp → Prop} {a0 a1 a2 a3 a4 a5 a6 : Option Value} {a : Nat} : WP E c 51 20 [a0, a1, a2, a3, a4, a5, a6] (.ref a :: st) ah Q = WPo (oGF (hg E ah a) 2 1) (fun v => WP E c 51 23 [a0, a1, a2, a3, a4, a5, a6] (v :: st) ah Q) := wp_getf i51_20
theorem i51_23 : insAt 51 23 = some (.if_icmp .ge 141, 26) := by decide +kernel
theorem r51_23 {E : aEnv} {c : Nat} {ah : aHp} {st : List Value} {Q : Option Value → aHp → Prop} {a0 a1 a2 a3 a4 a5 a6 : Option Value} {x y : Int32} : WP E c 51 23 [a0, a1, a2, a3, a4, a5, a6] (.int y :: .int x :: st) ah Q = if y ≤ x then WP E c 51 141 [a0, a1, a2, a3, a4, a5, a6] st ah Q else WP E c 51 26 [a0, a1, a2, a3, a4, a5, a6] st ah Q := wp_j i51_23 rfl rfl rfl rfl
theorem i51_26 : insAt 51 26 = some (.aload 0, 27) := by decide +kernel
theorem r51_26 {E : aEnv} {c : Nat} {ah : aHp} {st : List Value} {Q : Option Value → aHp → Prop} {a1 a2 a3 a4 a5 a6 : Option Value} {x : Nat} : WP E c 51 26 [some (.ref x), a1, a2, a3, a4, a5, a6] (st) ah Q = WP E c 51 27 [some (.ref x), a1, a2, a3, a4, a5, a6] (.ref x :: st) ah Q := wp_s i51_26 rfl rfl rfl rfl
theorem i51_27 : insAt 51 27 = some (.getfield 2062, 30) := by decide +kernel
theorem r51_27 {E : aEnv} {c : Nat} {ah : aHp} {st : List Value} {Q : Option Value → aHp → Prop} {a0 a1 a2 a3 a4 a5 a6 : Option Value} {a : Nat} : WP E c 51 27 [a0, a1, a2, a3, a4, a5, a6] (.ref a :: st) ah Q = WPo (oGF (hg E ah a) 2 6) (fun v => WP E c 51 30 [a0, a1, a2, a3, a4, a5, a6] (v :: st) ah Q) := wp_getf i51_27
theorem i51_30 : insAt 51 30 = some (.iload 2, 31) := by decide +kernel
theorem r51_30 {E : aEnv} {c : Nat} {ah : aHp} {st : List Value} {Q : Option Value → aHp → Prop} {a0 a1 a3 a4 a5 a6 : Option Value} {x : Int32} : WP E c 51 30 [a0, a1, some (.int x), a3, a4, a5, a6] (st) ah Q = WP E c 51 31 [a0, a1, some (.int x), a3, a4, a5, a6] (.int x :: st) ah Q := wp_s i51_30 rfl rfl rfl rfl
theorem i51_31 : insAt 51 31 = some (.iload 4, 33) := by decide +kernel
theorem r51_31 {E : aEnv} {c : Nat} {ah : aHp} {st : List Value} {Q : Option Value → aHp → Prop} {a0 a1 a2 a3 a5 a6 : Option Value} {x : Int32} : WP E c 51 31 [a0, a1, a2, a3, some (.int x), a5, a6] (st) ah Q = WP E c 51 33 [a0, a1, a2, a3, some (.int x), a5, a6] (.int x :: st) ah Q := wp_s i51_31 rfl rfl rfl rfl
theorem i51_33 : insAt 51 33 = some (.iadd, 34) := by decide +kernel
theorem r51_33 {E : aEnv} {c : Nat} {ah : aHp} {st : List Value} {Q : Option Value → aHp → Prop} {a0 a1 a2 a3 a4 a5 a6 : Option Value} {x y : Int32} : WP E c 51 33 [a0, a1, a2, a3, a4, a5, a6] (.int y :: .int x :: st) ah Q = WP E c 51 34 [a0, a1, a2, a3, a4, a5, a6] (.int (x + y) :: st) ah Q := wp_s i51_33 rfl rfl rfl rfl
theorem i51_34 : insAt 51 34 = some (.iaload, 35) := by decide +kernel
theorem r51_34 {E : aEnv} {c : Nat} {ah : aHp} {st : List Value} {Q : Option Value → aHp → Prop} {a0 a1 a2 a3 a4 a5 a6 : Option Value} {i : Int32} {a : Nat} : WP E c 51 34 [a0, a1, a2, a3, a4, a5, a6] (.int i :: .ref a :: st) ah Q = WPo (gI E ah (.int i :: .ref a :: st)) (fun s9 => WP E c 51 35 [a0, a1, a2, a3, a4, a5, a6] s9 ah Q) := wp_hr i51_34 rfl rfl rfl rfl rfl rfl rfl rfl
theorem i51_35 : insAt 51 35 = some (.iconst 2, 36) := by decide +kernel
theorem r51_35 {E : aEnv} {c : Nat} {ah : aHp} {st : List Value} {Q : Option Value → aHp → Prop} {a0 a1 a2 a3 a4 a5 a6 : Option Value} : WP E c 51 35 [a0, a1, a2, a3, a4, a5, a6] (st) ah Q = WP E c 51 36 [a0, a1, a2, a3, a4, a5, a6] (.int (2) :: st) ah Q := wp_s i51_35 rfl rfl rfl rfl
theorem i51_36 : insAt 51 36 = some (.iand, 37) := by decide +kernel
theorem r51_36 {E : aEnv} {c : Nat} {ah : aHp} {st : List Value} {Q : Option Value → aHp → Prop} {a0 a1 a2 a3 a4 a5 a6 : Option Value} {x y : Int32} : WP E c 51 36 [a0, a1, a2, a3, a4, a5, a6] (.int y :: .int x :: st) ah Q = WP E c 51 37 [a0, a1, a2, a3, a4, a5, a6] (.int (x &&& y) :: st) ah Q := wp_s i51_36 rfl rfl rfl rfl
theorem i51_37 : insAt 51 37 = some (.ifCond .eq 44, 40) := by decide +kernel
theorem r51_37 {E : aEnv} {c : Nat} {ah : aHp} {st : List Value} {Q : Option Value → aHp → Prop} {a0 a1 a2 a3 a4 a5 a6 : Option Value} {x : Int32} : WP E c 51 37 [a0, a1, a2, a3, a4, a5, a6] (.int x :: st) ah Q = if x = 0 then WP E c 51 44 [a0, a1, a2, a3, a4, a5, a6] st ah Q else WP E c 51 40 [a0, a1, a2, a3, a4, a5, a6] st ah Q := wp_j i51_37 rfl rfl rfl rfl
theorem i51_40 : insAt 51 40 = some (.iconst 1, 41) := by decide +kernel
theorem r51_40 {E : aEnv} {c : Nat} {ah : aHp} {st : List Value} {Q : Option Value → aHp → Prop} {a0 a1 a2 a3 a4 a5 a6 : Option Value} : WP E c 51 40 [a0, a1, a2, a3, a4, a5, a6] (st) ah Q = WP E c 51 41 [a0, a1, a2, a3, a4, a5, a6] (.int (1) :: st) ah Q := wp_s i51_40 rfl rfl rfl rfl
theorem i51_41 : insAt 51 41 = some (.goto 45, 44) := by decide +kernel
theorem r51_41 {E : aEnv} {c : Nat} {ah : aHp} {st : List Value} {Q : Option Value → aHp → Prop} {a0 a1 a2 a3 a4 a5 a6 : Option Value} : WP E c 51 41 [a0, a1, a2, a3, a4, a5, a6] (st) ah Q = WP E c 51 45 [a0, a1, a2, a3, a4, a5, a6] st ah Q := wp_s i51_41 rfl rfl rfl rfl
theorem i51_44 : insAt 51 44 = some (.iconst 0, 45) := by decide +kernel
theorem r51_44 {E : aEnv} {c : Nat} {ah : aHp} {st : List Value} {Q : Option Value → aHp → Prop} {a0 a1 a2 a3 a4 a5 a6 : Option Value} : WP E c 51 44 [a0, a1, a2, a3, a4, a5, a6] (st) ah Q = WP E c 51 45 [a0, a1, a2, a3, a4, a5, a6] (.int (0) :: st) ah Q := wp_s i51_44 rfl rfl rfl rfl
theorem i51_45 : insAt 51 45 = some (.istore 5, 47) := by decide +kernel
theorem r51_45 {E : aEnv} {c : Nat} {ah : aHp} {st : List Value} {Q : Option Value → aHp → Prop} {a0 a1 a2 a3 a4 a5 a6 : Option Value} {x : Int32} : WP E c 51 45 [a0, a1, a2, a3, a4, a5, a6] (.int x :: st) ah Q = WP E c 51 47 [a0, a1, a2, a3, kil a4, some (.int x), a6] (st) ah Q := wp_s i51_45 rfl rfl rfl rfl
theorem i51_47 : insAt 51 47 = some (.aload 0, 48) := by decide +kernel
theorem r51_47 {E : aEnv} {c : Nat} {ah : aHp} {st : List Value} {Q : Option Value → aHp → Prop} {a1 a2 a3 a4 a5 a6 : Option Value} {x : Nat} : WP E c 51 47 [some (.ref x), a1, a2, a3, a4, a5, a6] (st) ah Q = WP E c 51 48 [some (.ref x), a1, a2, a3, a4, a5, a6] (.ref x :: st) ah Q := wp_s i51_47 rfl rfl rfl rfl
theorem i51_48 : insAt 51 48 = some (.getfield 2052, 51) := by decide +kernel
theorem r51_48 {E : aEnv} {c : Nat} {ah : aHp} {st : List Value} {Q : Option Value → aHp → Prop} {a0 a1 a2 a3 a4 a5 a6 : Option Value} {a : Nat} : WP E c 51 48 [a0, a1, a2, a3, a4, a5, a6] (.ref a :: st) ah Q = WPo (oGF (hg E ah a) 2 5) (fun v => WP E c 51 51 [a0, a1, a2, a3, a4, a5, a6] (v :: st) ah Q) := wp_getf i51_48
theorem i51_51 : insAt 51 51 = some (.iload 2, 52) := by decide +kernel
theorem r51_51 {E : aEnv} {c : Nat} {ah : aHp} {st : List Value} {Q : Option Value → aHp → Prop} {a0 a1 a3 a4 a5 a6 : Option Value} {x : Int32} : WP E c 51 51 [a0, a1, some (.int x), a3, a4, a5, a6] (st) ah Q = WP E c 51 52 [a0, a1, some (.int x), a3, a4, a5, a6] (.int x :: st) ah Q := wp_s i51_51 rfl rfl rfl rfl
theorem i51_52 : insAt 51 52 = some (.iload 4, 54) := by decide +kernel
theorem r51_52 {E : aEnv} {c : Nat} {ah : aHp} {st : List Value} {Q : Option Value → aHp → Prop} {a0 a1 a2 a3 a5 a6 : Option Value} {x : Int32} : WP E c 51 52 [a0, a1, a2, a3, some (.int x), a5, a6] (st) ah Q = WP E c 51 54 [a0, a1, a2, a3, some (.int x), a5, a6] (.int x :: st) ah Q := wp_s i51_52 rfl rfl rfl rfl
theorem i51_54 : insAt 51 54 = some (.iadd, 55) := by decide +kernel
theorem r51_54 {E : aEnv} {c : Nat} {ah : aHp} {st : List Value} {Q : Option Value → aHp → Prop} {a0 a1 a2 a3 a4 a5 a6 : Option Value} {x y : Int32} : WP E c 51 54 [a0, a1, a2, a3, a4, a5, a6] (.int y :: .int x :: st) ah Q = WP E c 51 55 [a0, a1, a2, a3, a4, a5, a6] (.int (x + y) :: st) ah Q := wp_s i51_54 rfl rfl rfl rfl
theorem i51_55 : insAt 51 55 = some (.iaload, 56) := by decide +kernel
theorem r51_55 {E : aEnv} {c : Nat} {ah : aHp} {st : List Value} {Q : Option Value → aHp → Prop} {a0 a1 a2 a3 a4 a5 a6 : Option Value} {i : Int32} {a : Nat} : WP E c 51 55 [a0, a1, a2, a3, a4, a5, a6] (.int i :: .ref a :: st) ah Q = WPo (gI E ah (.int i :: .ref a :: st)) (fun s9 => WP E c 51 56 [a0, a1, a2, a3, a4, a5, a6] s9 ah Q) := wp_hr i51_55 rfl rfl rfl rfl rfl rfl rfl rfl
theorem i51_56 : insAt 51 56 = some (.iload 5, 58) := by decide +kernel
theorem r51_56 {E : aEnv} {c : Nat} {ah : aHp} {st : List Value} {Q : Option Value → aHp → Prop} {a0 a1 a2 a3 a4 a6 : Option Value} {x : Int32} : WP E c 51 56 [a0, a1, a2, a3, a4, some (.int x), a6] (st) ah Q = WP E c 51 58 [a0, a1, a2, a3, a4, some (.int x), a6] (.int x :: st) ah Q := wp_s i51_56 rfl rfl rfl rfl
theorem i51_58 : insAt 51 58 = some (.ifCond .eq 65, 61) := by decide +kernel
theorem r51_58 {E : aEnv} {c : Nat} {ah : aHp} {st : List Value} {Q : Option Value → aHp → Prop} {a0 a1 a2 a3 a4 a5 a6 : Option Value} {x : Int32} : WP E c 51 58 [a0, a1, a2, a3, a4, a5, a6] (.int x :: st) ah Q = if x = 0 then WP E c 51 65 [a0, a1, a2, a3, a4, a5, a6] st ah Q else WP E c 51 61 [a0, a1, a2, a3, a4, a5, a6] st ah Q := wp_j i51_58 rfl rfl rfl rfl
theorem i51_61 : insAt 51 61 = some (.iconst 0, 62) := by decide +kernel
theorem r51_61 {E : aEnv} {c : Nat} {ah : aHp} {st : List Value} {Q : Option Value → aHp → Prop} {a0 a1 a2 a3 a4 a5 a6 : Option Value} : WP E c 51 61 [a0, a1, a2, a3, a4, a5, a6] (st) ah Q = WP E c 51 62 [a0, a1, a2, a3, a4, a5, a6] (.int (0) :: st) ah Q := wp_s i51_61 rfl rfl rfl rfl
theorem i51_62 : insAt 51 62 = some (.goto 74, 65) := by decide +kernel
theorem r51_62 {E : aEnv} {c : Nat} {ah : aHp} {st : List Value} {Q : Option Value → aHp → Prop} {a0 a1 a2 a3 a4 a5 a6 : Option Value} : WP E c 51 62 [a0, a1, a2, a3, a4, a5, a6] (st) ah Q = WP E c 51 74 [a0, a1, a2, a3, a4, a5, a6] st ah Q := wp_s i51_62 rfl rfl rfl rfl
theorem i51_65 : insAt 51 65 = some (.aload 0, 66) := by decide +kernel
theorem r51_65 {E : aEnv} {c : Nat} {ah : aHp} {st : List Value} {Q : Option Value → aHp → Prop} {a1 a2 a3 a4 a5 a6 : Option Value} {x : Nat} : WP E c 51 65 [some (.ref x), a1, a2, a3, a4, a5, a6] (st) ah Q = WP E c 51 66 [some (.ref x), a1, a2, a3, a4, a5, a6] (.ref x :: st) ah Q := wp_s i51_65 rfl rfl rfl rfl
theorem i51_66 : insAt 51 66 = some (.getfield 2052, 69) := by decide +kernel
theorem r51_66 {E : aEnv} {c : Nat} {ah : aHp} {st : List Value} {Q : Option Value → aHp → Prop} {a0 a1 a2 a3 a4 a5 a6 : Option Value} {a : Nat} : WP E c 51 66 [a0, a1, a2, a3, a4, a5, a6] (.ref a :: st) ah Q = WPo (oGF (hg E ah a) 2 5) (fun v => WP E c 51 69 [a0, a1, a2, a3, a4, a5, a6] (v :: st) ah Q) := wp_getf i51_66
theorem i51_69 : insAt 51 69 = some (.iload 3, 70) := by decide +kernel
theorem r51_69 {E : aEnv} {c : Nat} {ah : aHp} {st : List Value} {Q : Option Value → aHp → Prop} {a0 a1 a2 a4 a5 a6 : Option Value} {x : Int32} : WP E c 51 69 [a0, a1, a2, some (.int x), a4, a5, a6] (st) ah Q = WP E c 51 70 [a0, a1, a2, some (.int x), a4, a5, a6] (.int x :: st) ah Q := wp_s i51_69 rfl rfl rfl rfl
theorem i51_70 : insAt 51 70 = some (.iload 4, 72) := by decide +kernel
theorem r51_70 {E : aEnv} {c : Nat} {ah : aHp} {st : List Value} {Q : Option Value → aHp → Prop} {a0 a1 a2 a3 a5 a6 : Option Value} {x : Int32} : WP E c 51 70 [a0, a1, a2, a3, some (.int x), a5, a6] (st) ah Q = WP E c 51 72 [a0, a1, a2, a3, some (.int x), a5, a6] (.int x :: st) ah Q := wp_s i51_70 rfl rfl rfl rfl
theorem i51_72 : insAt 51 72 = some (.iadd, 73) := by decide +kernel
theorem r51_72 {E : aEnv} {c : Nat} {ah : aHp} {st : List Value} {Q : Option Value → aHp → Prop} {a0 a1 a2 a3 a4 a5 a6 : Option Value} {x y : Int32} : WP E c 51 72 [a0, a1, a2, a3, a4, a5, a6] (.int y :: .int x :: st) ah Q = WP E c 51 73 [a0, a1, a2, a3, a4, a5, a6] (.int (x + y) :: st) ah Q := wp_s i51_72 rfl rfl rfl rfl
theorem i51_73 : insAt 51 73 = some (.iaload, 74) := by decide +kernel
theorem r51_73 {E : aEnv} {c : Nat} {ah : aHp} {st : List Value} {Q : Option Value → aHp → Prop} {a0 a1 a2 a3 a4 a5 a6 : Option Value} {i : Int32} {a : Nat} : WP E c 51 73 [a0, a1, a2, a3, a4, a5, a6] (.int i :: .ref a :: st) ah Q = WPo (gI E ah (.int i :: .ref a :: st)) (fun s9 => WP E c 51 74 [a0, a1, a2, a3, a4, a5, a6] s9 ah Q) := wp_hr i51_73 rfl rfl rfl rfl rfl rfl rfl rfl
theorem i51_74 : insAt 51 74 = some (.iadd, 75) := by decide +kernel
theorem r51_74 {E : aEnv} {c : Nat} {ah : aHp} {st : List Value} {Q : Option Value → aHp → Prop} {a0 a1 a2 a3 a4 a5 a6 : Option Value} {x y : Int32} : WP E c 51 74 [a0, a1, a2, a3, a4, a5, a6] (.int y :: .int x :: st) ah Q = WP E c 51 75 [a0, a1, a2, a3, a4, a5, a6] (.int (x + y) :: st) ah Q := wp_s i51_74 rfl rfl rfl rfl
theorem i51_75 : insAt 51 75 = some (.istore 6, 77) := by decide +kernel
theorem r51_75 {E : aEnv} {c : Nat} {ah : aHp} {st : List Value} {Q : Option Value → aHp → Prop} {a0 a1 a2 a3 a4 a5 a6 : Option Value} {x : Int32} : WP E c 51 75 [a0, a1, a2, a3, a4, a5, a6] (.int x :: st) ah Q = WP E c 51 77 [a0, a1, a2, a3, a4, kil a5, some (.int x)] (st) ah Q := wp_s i51_75 rfl rfl rfl rfl
theorem i51_77 : insAt 51 77 = some (.aload 0, 78) := by decide +kernel
theorem r51_77 {E : aEnv} {c : Nat} {ah : aHp} {st : List Value} {Q : Option Value → aHp → Prop} {a1 a2 a3 a4 a5 a6 : Option Value} {x : Nat} : WP E c 51 77 [some (.ref x), a1, a2, a3, a4, a5, a6] (st) ah Q = WP E c 51 78 [some (.ref x), a1, a2, a3, a4, a5, a6] (.ref x :: st) ah Q := wp_s i51_77 rfl rfl rfl rfl
theorem i51_78 : insAt 51 78 = some (.getfield 2072, 81) := by decide +kernel
theorem r51_78 {E : aEnv} {c : Nat} {ah : aHp} {st : List Value} {Q : Option Value → aHp → Prop} {a0 a1 a2 a3 a4 a5 a6 : Option Value} {a : Nat} : WP E c 51 78 [a0, a1, a2, a3, a4, a5, a6] (.ref a :: st) ah Q = WPo (oGF (hg E ah a) 2 7) (fun v => WP E c 51 81 [a0, a1, a2, a3, a4, a5, a6] (v :: st) ah Q) := wp_getf i51_78
theorem i51_81 : insAt 51 81 = some (.iload 4, 83) := by decide +kernel
theorem r51_81 {E : aEnv} {c : Nat} {ah : aHp} {st : List Value} {Q : Option Value → aHp → Prop} {a0 a1 a2 a3 a5 a6 : Option Value} {x : Int32} : WP E c 51 81 [a0, a1, a2, a3, some (.int x), a5, a6] (st) ah Q = WP E c 51 83 [a0, a1, a2, a3, some (.int x), a5, a6] (.int x :: st) ah Q := wp_s i51_81 rfl rfl rfl rfl
theorem i51_83 : insAt 51 83 = some (.iload 6, 85) := by decide +kernel
theorem r51_83 {E : aEnv} {c : Nat} {ah : aHp} {st : List Value} {Q : Option Value → aHp → Prop} {a0 a1 a2 a3 a4 a5 : Option Value} {x : Int32} : WP E c 51 83 [a0, a1, a2, a3, a4, a5, some (.int x)] (st) ah Q = WP E c 51 85 [a0, a1, a2, a3, a4, a5, some (.int x)] (.int x :: st) ah Q := wp_s i51_83 rfl rfl rfl rfl
theorem i51_85 : insAt 51 85 = some (.aload 0, 86) := by decide +kernel
theorem r51_85 {E : aEnv} {c : Nat} {ah : aHp} {st : List Value} {Q : Option Value → aHp → Prop} {a1 a2 a3 a4 a5 a6 : Option Value} {x : Nat} : WP E c 51 85 [some (.ref x), a1, a2, a3, a4, a5, a6] (st) ah Q = WP E c 51 86 [some (.ref x), a1, a2, a3, a4, a5, a6] (.ref x :: st) ah Q := wp_s i51_85 rfl rfl rfl rfl
theorem i51_86 : insAt 51 86 = some (.getfield 2022, 89) := by decide +kernel
theorem r51_86 {E : aEnv} {c : Nat} {ah : aHp} {st : List Value} {Q : Option Value → aHp → Prop} {a0 a1 a2 a3 a4 a5 a6 : Option Value} {a : Nat} : WP E c 51 86 [a0, a1, a2, a3, a4, a5, a6] (.ref a :: st) ah Q = WPo (oGF (hg E ah a) 2 2) (fun v => WP E c 51 89 [a0, a1, a2, a3, a4, a5, a6] (v :: st) ah Q) := wp_getf i51_86
theorem i51_89 : insAt 51 89 = some (.iload 4, 91) := by decide +kernel
theorem r51_89 {E : aEnv} {c : Nat} {ah : aHp} {st : List Value} {Q : Option Value → aHp → Prop} {a0 a1 a2 a3 a5 a6 : Option Value} {x : Int32} : WP E c 51 89 [a0, a1, a2, a3, some (.int x), a5, a6] (st) ah Q = WP E c 51 91 [a0, a1, a2, a3, some (.int x), a5, a6] (.int x :: st) ah Q := wp_s i51_89 rfl rfl rfl rfl
theorem i51_91 : insAt 51 91 = some (.iaload, 92) := by decide +kernel
theorem r51_91 {E : aEnv} {c : Nat} {ah : aHp} {st : List Value} {Q : Option Value → aHp → Prop} {a0 a1 a2 a3 a4 a5 a6 : Option Value} {i : Int32} {a : Nat} : WP E c 51 91 [a0, a1, a2, a3, a4, a5, a6] (.int i :: .ref a :: st) ah Q = WPo (gI E ah (.int i :: .ref a :: st)) (fun s9 => WP E c 51 92 [a0, a1, a2, a3, a4, a5, a6] s9 ah Q) := wp_hr i51_91 rfl rfl rfl rfl rfl rfl rfl rfl
theorem i51_92 : insAt 51 92 = some (.if_icmp .lt 99, 95) := by decide +kernel
theorem r51_92 {E : aEnv} {c : Nat} {ah : aHp} {st : List Value} {Q : Option Value → aHp → Prop} {a0 a1 a2 a3 a4 a5 a6 : Option Value} {x y : Int32} : WP E c 51 92 [a0, a1, a2, a3, a4, a5, a6] (.int y :: .int x :: st) ah Q = if x < y then WP E c 51 99 [a0, a1, a2, a3, a4, a5, a6] st ah Q else WP E c 51 95 [a0, a1, a2, a3, a4, a5, a6] st ah Q := wp_j i51_92 rfl rfl rfl rfl
theorem i51_95 : insAt 51 95 = some (.iconst 1, 96) := by decide +kernel
theorem r51_95 {E : aEnv} {c : Nat} {ah : aHp} {st : List Value} {Q : Option Value → aHp → Prop} {a0 a1 a2 a3 a4 a5 a6 : Option Value} : WP E c 51 95 [a0, a1, a2, a3, a4, a5, a6] (st) ah Q = WP E c 51 96 [a0, a1, a2, a3, a4, a5, a6] (.int (1) :: st) ah Q := wp_s i51_95 rfl rfl rfl rfl
theorem i51_96 : insAt 51 96 = some (.goto 100, 99) := by decide +kernel
theorem r51_96 {E : aEnv} {c : Nat} {ah : aHp} {st : List Value} {Q : Option Value → aHp → Prop} {a0 a1 a2 a3 a4 a5 a6 : Option Value} : WP E c 51 96 [a0, a1, a2, a3, a4, a5, a6] (st) ah Q = WP E c 51 100 [a0, a1, a2, a3, a4, a5, a6] st ah Q := wp_s i51_96 rfl rfl rfl rfl
theorem i51_99 : insAt 51 99 = some (.iconst 0, 100) := by decide +kernel
theorem r51_99 {E : aEnv} {c : Nat} {ah : aHp} {st : List Value} {Q : Option Value → aHp → Prop} {a0 a1 a2 a3 a4 a5 a6 : Option Value} : WP E c 51 99 [a0, a1, a2, a3, a4, a5, a6] (st) ah Q = WP E c 51 100 [a0, a1, a2, a3, a4, a5, a6] (.int (0) :: st) ah Q := wp_s i51_99 rfl rfl rfl rfl
theorem i51_100 : insAt 51 100 = some (.bastore, 101) := by decide +kernel
theorem r51_100 {E : aEnv} {c : Nat} {ah : aHp} {st : List Value} {Q : Option Value → aHp → Prop} {a0 a1 a2 a3 a4 a5 a6 : Option Value} {x : Int32} {i : Int32} {a : Nat} : WP E c 51 100 [a0, a1, a2, a3, a4, a5, a6] (.int x :: .int i :: .ref a :: st) ah Q = WPo (pB E ah (.int x :: .int i :: .ref a :: st)) (fun q9 => WP E c 51 101 [a0, a1, a2, a3, a4, a5, a6] q9.1 q9.2 Q) := wp_hw i51_100 rfl rfl rfl rfl rfl rfl rfl rfl
theorem i51_101 : insAt 51 101 = some (.aload 0, 102) := by decide +kernel
theorem r51_101 {E : aEnv} {c : Nat} {ah : aHp} {st : List Value} {Q : Option Value → aHp → Prop} {a1 a2 a3 a4 a5 a6 : Option Value} {x : Nat} : WP E c 51 101 [some (.ref x), a1, a2, a3, a4, a5, a6] (st) ah Q = WP E c 51 102 [some (.ref x), a1, a2, a3, a4, a5, a6] (.ref x :: st) ah Q := wp_s i51_101 rfl rfl rfl rfl
theorem i51_102 : insAt 51 102 = some (.getfield 2052, 105) := by decide +kernel
theorem r51_102 {E : aEnv} {c : Nat} {ah : aHp} {st : List Value} {Q : Option Value → aHp → Prop} {a0 a1 a2 a3 a4 a5 a6 : Option Value} {a : Nat} : WP E c 51 102 [a0, a1, a2, a3, a4, a5, a6] (.ref a :: st) ah Q = WPo (oGF (hg E ah a) 2 5) (fun v => WP E c 51 105 [a0, a1, a2, a3, a4, a5, a6] (v :: st) ah Q) := wp_getf i51_102
theorem i51_105 : insAt 51 105 = some (.iload 2, 106) := by decide +kernel
theorem r51_105 {E : aEnv} {c : Nat} {ah : aHp} {st : List Value} {Q : Option Value → aHp → Prop} {a0 a1 a3 a4 a5 a6 : Option Value} {x : Int32} : WP E c 51 105 [a0, a1, some (.int x), a3, a4, a5, a6] (st) ah Q = WP E c 51 106 [a0, a1, some (.int x), a3, a4, a5, a6] (.int x :: st) ah Q := wp_s i51_105 rfl rfl rfl rfl
theorem i51_106 : insAt 51 106 = some (.iload 4, 108) := by decide +kernel
theorem r51_106 {E : aEnv} {c : Nat} {ah : aHp} {st : List Value} {Q : Option Value → aHp → Prop} {a0 a1 a2 a3 a5 a6 : Option Value} {x : Int32} : WP E c 51 106 [a0, a1, a2, a3, some (.int x), a5, a6] (st) ah Q = WP E c 51 108 [a0, a1, a2, a3, some (.int x), a5, a6] (.int x :: st) ah Q := wp_s i51_106 rfl rfl rfl rfl
theorem i51_108 : insAt 51 108 = some (.iadd, 109) := by decide +kernel
theorem r51_108 {E : aEnv} {c : Nat} {ah : aHp} {st : List Value} {Q : Option Value → aHp → Prop} {a0 a1 a2 a3 a4 a5 a6 : Option Value} {x y : Int32} : WP E c 51 108 [a0, a1, a2, a3, a4, a5, a6] (.int y :: .int x :: st) ah Q = WP E c 51 109 [a0, a1, a2, a3, a4, a5, a6] (.int (x + y) :: st) ah Q := wp_s i51_108 rfl rfl rfl rfl
theorem i51_109 : insAt 51 109 = some (.aload 0, 110) := by decide +kernel
theorem r51_109 {E : aEnv} {c : Nat} {ah : aHp} {st : List Value} {Q : Option Value → aHp → Prop} {a1 a2 a3 a4 a5 a6 : Option Value} {x : Nat} : WP E c 51 109 [some (.ref x), a1, a2, a3, a4, a5, a6] (st) ah Q = WP E c 51 110 [some (.ref x), a1, a2, a3, a4, a5, a6] (.ref x :: st) ah Q := wp_s i51_109 rfl rfl rfl rfl
theorem i51_110 : insAt 51 110 = some (.getfield 2072, 113) := by decide +kernel
theorem r51_110 {E : aEnv} {c : Nat} {ah : aHp} {st : List Value} {Q : Option Value → aHp → Prop} {a0 a1 a2 a3 a4 a5 a6 : Option Value} {a : Nat} : WP E c 51 110 [a0, a1, a2, a3, a4, a5, a6] (.ref a :: st) ah Q = WPo (oGF (hg E ah a) 2 7) (fun v => WP E c 51 113 [a0, a1, a2, a3, a4, a5, a6] (v :: st) ah Q) := wp_getf i51_110
theorem i51_113 : insAt 51 113 = some (.iload 4, 115) := by decide +kernel
theorem r51_113 {E : aEnv} {c : Nat} {ah : aHp} {st : List Value} {Q : Option Value → aHp → Prop} {a0 a1 a2 a3 a5 a6 : Option Value} {x : Int32} : WP E c 51 113 [a0, a1, a2, a3, some (.int x), a5, a6] (st) ah Q = WP E c 51 115 [a0, a1, a2, a3, some (.int x), a5, a6] (.int x :: st) ah Q := wp_s i51_113 rfl rfl rfl rfl
theorem i51_115 : insAt 51 115 = some (.baload, 116) := by decide +kernel
theorem r51_115 {E : aEnv} {c : Nat} {ah : aHp} {st : List Value} {Q : Option Value → aHp → Prop} {a0 a1 a2 a3 a4 a5 a6 : Option Value} {i : Int32} {a : Nat} : WP E c 51 115 [a0, a1, a2, a3, a4, a5, a6] (.int i :: .ref a :: st) ah Q = WPo (gB E ah (.int i :: .ref a :: st)) (fun s9 => WP E c 51 116 [a0, a1, a2, a3, a4, a5, a6] s9 ah Q) := wp_hr i51_115 rfl rfl rfl rfl rfl rfl rfl rfl
theorem i51_116 : insAt 51 116 = some (.ifCond .eq 132, 119) := by decide +kernel
theorem r51_116 {E : aEnv} {c : Nat} {ah : aHp} {st : List Value} {Q : Option Value → aHp → Prop} {a0 a1 a2 a3 a4 a5 a6 : Option Value} {x : Int32} : WP E c 51 116 [a0, a1, a2, a3, a4, a5, a6] (.int x :: st) ah Q = if x = 0 then WP E c 51 132 [a0, a1, a2, a3, a4, a5, a6] st ah Q else WP E c 51 119 [a0, a1, a2, a3, a4, a5, a6] st ah Q := wp_j i51_116 rfl rfl rfl rfl
theorem i51_119 : insAt 51 119 = some (.iload 6, 121) := by decide +kernel
theorem r51_119 {E : aEnv} {c : Nat} {ah : aHp} {st : List Value} {Q : Option Value → aHp → Prop} {a0 a1 a2 a3 a4 a5 : Option Value} {x : Int32} : WP E c 51 119 [a0, a1, a2, a3, a4, a5, some (.int x)] (st) ah Q = WP E c 51 121 [a0, a1, a2, a3, a4, a5, some (.int x)] (.int x :: st) ah Q := wp_s i51_119 rfl rfl rfl rfl
theorem i51_121 : insAt 51 121 = some (.aload 0, 122) := by decide +kernel
theorem r51_121 {E : aEnv} {c : Nat} {ah : aHp} {st : List Value} {Q : Option Value → aHp → Prop} {a1 a2 a3 a4 a5 a6 : Option Value} {x : Nat} : WP E c 51 121 [some (.ref x), a1, a2, a3, a4, a5, a6] (st) ah Q = WP E c 51 122 [some (.ref x), a1, a2, a3, a4, a5, a6] (.ref x :: st) ah Q := wp_s i51_121 rfl rfl rfl rfl
theorem i51_122 : insAt 51 122 = some (.getfield 2022, 125) := by decide +kernel
theorem r51_122 {E : aEnv} {c : Nat} {ah : aHp} {st : List Value} {Q : Option Value → aHp → Prop} {a0 a1 a2 a3 a4 a5 a6 : Option Value} {a : Nat} : WP E c 51 122 [a0, a1, a2, a3, a4, a5, a6] (.ref a :: st) ah Q = WPo (oGF (hg E ah a) 2 2) (fun v => WP E c 51 125 [a0, a1, a2, a3, a4, a5, a6] (v :: st) ah Q) := wp_getf i51_122
theorem i51_125 : insAt 51 125 = some (.iload 4, 127) := by decide +kernel
theorem r51_125 {E : aEnv} {c : Nat} {ah : aHp} {st : List Value} {Q : Option Value → aHp → Prop} {a0 a1 a2 a3 a5 a6 : Option Value} {x : Int32} : WP E c 51 125 [a0, a1, a2, a3, some (.int x), a5, a6] (st) ah Q = WP E c 51 127 [a0, a1, a2, a3, some (.int x), a5, a6] (.int x :: st) ah Q := wp_s i51_125 rfl rfl rfl rfl
theorem i51_127 : insAt 51 127 = some (.iaload, 128) := by decide +kernel
theorem r51_127 {E : aEnv} {c : Nat} {ah : aHp} {st : List Value} {Q : Option Value → aHp → Prop} {a0 a1 a2 a3 a4 a5 a6 : Option Value} {i : Int32} {a : Nat} : WP E c 51 127 [a0, a1, a2, a3, a4, a5, a6] (.int i :: .ref a :: st) ah Q = WPo (gI E ah (.int i :: .ref a :: st)) (fun s9 => WP E c 51 128 [a0, a1, a2, a3, a4, a5, a6] s9 ah Q) := wp_hr i51_127 rfl rfl rfl rfl rfl rfl rfl rfl
theorem i51_128 : insAt 51 128 = some (.isub, 129) := by decide +kernel
theorem r51_128 {E : aEnv} {c : Nat} {ah : aHp} {st : List Value} {Q : Option Value → aHp → Prop} {a0 a1 a2 a3 a4 a5 a6 : Option Value} {x y : Int32} : WP E c 51 128 [a0, a1, a2, a3, a4, a5, a6] (.int y :: .int x :: st) ah Q = WP E c 51 129 [a0, a1, a2, a3, a4, a5, a6] (.int (x - y) :: st) ah Q := wp_s i51_128 rfl rfl rfl rfl
theorem i51_129 : insAt 51 129 = some (.goto 134, 132) := by decide +kernel
theorem r51_129 {E : aEnv} {c : Nat} {ah : aHp} {st : List Value} {Q : Option Value → aHp → Prop} {a0 a1 a2 a3 a4 a5 a6 : Option Value} : WP E c 51 129 [a0, a1, a2, a3, a4, a5, a6] (st) ah Q = WP E c 51 134 [a0, a1, a2, a3, a4, a5, a6] st ah Q := wp_s i51_129 rfl rfl rfl rfl
theorem i51_132 : insAt 51 132 = some (.iload 6, 134) := by decide +kernel
theorem r51_132 {E : aEnv} {c : Nat} {ah : aHp} {st : List Value} {Q : Option Value → aHp → Prop} {a0 a1 a2 a3 a4 a5 : Option Value} {x : Int32} : WP E c 51 132 [a0, a1, a2, a3, a4, a5, some (.int x)] (st) ah Q = WP E c 51 134 [a0, a1, a2, a3, a4, a5, some (.int x)] (.int x :: st) ah Q := wp_s i51_132 rfl rfl rfl rfl
theorem i51_134 : insAt 51 134 = some (.iastore, 135) := by decide +kernel
theorem r51_134 {E : aEnv} {c : Nat} {ah : aHp} {st : List Value} {Q : Option Value → aHp → Prop} {a0 a1 a2 a3 a4 a5 a6 : Option Value} {x : Int32} {i : Int32} {a : Nat} : WP E c 51 134 [a0, a1, a2, a3, a4, a5, a6] (.int x :: .int i :: .ref a :: st) ah Q = WPo (pI E ah (.int x :: .int i :: .ref a :: st)) (fun q9 => WP E c 51 135 [a0, a1, a2, a3, a4, a5, a6] q9.1 q9.2 Q) := wp_hw i51_134 rfl rfl rfl rfl rfl rfl rfl rfl
theorem i51_135 : insAt 51 135 = some (.iinc 4 1, 138) := by decide +kernel
theorem r51_135 {E : aEnv} {c : Nat} {ah : aHp} {st : List Value} {Q : Option Value → aHp → Prop} {a0 a1 a2 a3 a5 a6 : Option Value} {x : Int32} : WP E c 51 135 [a0, a1, a2, a3, some (.int x), a5, a6] (st) ah Q = WP E c 51 138 [a0, a1, a2, kil a3, some (.int (x + 1)), a5, a6] (st) ah Q := wp_s i51_135 rfl rfl rfl rfl
theorem i51_138 : insAt 51 138 = some (.goto 17, 141) := by decide +kernel
theorem r51_138 {E : aEnv} {c : Nat} {ah : aHp} {st : List Value} {Q : Option Value → aHp → Prop} {a0 a1 a2 a3 a4 a5 a6 : Option Value} : WP E c 51 138 [a0, a1, a2, a3, a4, a5, a6] (st) ah Q = WP E c 51 17 [a0, a1, a2, a3, a4, a5, a6] st ah Q := wp_s i51_138 rfl rfl rfl rfl
theorem i51_141 : insAt 51 141 = some (.iconst 1, 142) := by decide +kernel
theorem r51_141 {E : aEnv} {c : Nat} {ah : aHp} {st : List Value} {Q : Option Value → aHp → Prop} {a0 a1 a2 a3 a4 a5 a6 : Option Value} : WP E c 51 141 [a0, a1, a2, a3, a4, a5, a6] (st) ah Q = WP E c 51 142 [a0, a1, a2, a3, a4, a5, a6] (.int (1) :: st) ah Q := wp_s i51_141 rfl rfl rfl rfl
theorem i51_142 : insAt 51 142 = some (.istore 4, 144) := by decide +kernel
theorem r51_142 {E : aEnv} {c : Nat} {ah : aHp} {st : List Value} {Q : Option Value → aHp → Prop} {a0 a1 a2 a3 a4 a5 a6 : Option Value} {x : Int32} : WP E c 51 142 [a0, a1, a2, a3, a4, a5, a6] (.int x :: st) ah Q = WP E c 51 144 [a0, a1, a2, kil a3, some (.int x), a5, a6] (st) ah Q := wp_s i51_142 rfl rfl rfl rfl
theorem i51_144 : insAt 51 144 = some (.iload 4, 146) := by decide +kernel
theorem r51_144 {E : aEnv} {c : Nat} {ah : aHp} {st : List Value} {Q : Option Value → aHp → Prop} {a0 a1 a2 a3 a5 a6 : Option Value} {x : Int32} : WP E c 51 144 [a0, a1, a2, a3, some (.int x), a5, a6] (st) ah Q = WP E c 51 146 [a0, a1, a2, a3, some (.int x), a5, a6] (.int x :: st) ah Q := wp_s i51_144 rfl rfl rfl rfl
theorem i51_146 : insAt 51 146 = some (.aload 0, 147) := by decide +kernel
theorem r51_146 {E : aEnv} {c : Nat} {ah : aHp} {st : List Value} {Q : Option Value → aHp → Prop} {a1 a2 a3 a4 a5 a6 : Option Value} {x : Nat} : WP E c 51 146 [some (.ref x), a1, a2, a3, a4, a5, a6] (st) ah Q = WP E c 51 147 [some (.ref x), a1, a2, a3, a4, a5, a6] (.ref x :: st) ah Q := wp_s i51_146 rfl rfl rfl rfl
theorem i51_147 : insAt 51 147 = some (.getfield 2010, 150) := by decide +kernel
theorem r51_147 {E : aEnv} {c : Nat} {ah : aHp} {st : List Value} {Q : Option Value → aHp → Prop} {a0 a1 a2 a3 a4 a5 a6 : Option Value} {a : Nat} : WP E c 51 147 [a0, a1, a2, a3, a4, a5, a6] (.ref a :: st) ah Q = WPo (oGF (hg E ah a) 2 1) (fun v => WP E c 51 150 [a0, a1, a2, a3, a4, a5, a6] (v :: st) ah Q) := wp_getf i51_147
theorem i51_150 : insAt 51 150 = some (.if_icmp .ge 207, 153) := by decide +kernel
theorem r51_150 {E : aEnv} {c : Nat} {ah : aHp} {st : List Value} {Q : Option Value → aHp → Prop} {a0 a1 a2 a3 a4 a5 a6 : Option Value} {x y : Int32} : WP E c 51 150 [a0, a1, a2, a3, a4, a5, a6] (.int y :: .int x :: st) ah Q = if y ≤ x then WP E c 51 207 [a0, a1, a2, a3, a4, a5, a6] st ah Q else WP E c 51 153 [a0, a1, a2, a3, a4, a5, a6] st ah Q := wp_j i51_150 rfl rfl rfl rfl
theorem i51_153 : insAt 51 153 = some (.aload 0, 154) := by decide +kernel
theorem r51_153 {E : aEnv} {c : Nat} {ah : aHp} {st : List Value} {Q : Option Value → aHp → Prop} {a1 a2 a3 a4 a5 a6 : Option Value} {x : Nat} : WP E c 51 153 [some (.ref x), a1, a2, a3, a4, a5, a6] (st) ah Q = WP E c 51 154 [some (.ref x), a1, a2, a3, a4, a5, a6] (.ref x :: st) ah Q := wp_s i51_153 rfl rfl rfl rfl
theorem i51_154 : insAt 51 154 = some (.getfield 2062, 157) := by decide +kernel
theorem r51_154 {E : aEnv} {c : Nat} {ah : aHp} {st : List Value} {Q : Option Value → aHp → Prop} {a0 a1 a2 a3 a4 a5 a6 : Option Value} {a : Nat} : WP E c 51 154 [a0, a1, a2, a3, a4, a5, a6] (.ref a :: st) ah Q = WPo (oGF (hg E ah a) 2 6) (fun v => WP E c 51 157 [a0, a1, a2, a3, a4, a5, a6] (v :: st) ah Q) := wp_getf i51_154
theorem i51_157 : insAt 51 157 = some (.iload 2, 158) := by decide +kernel
theorem r51_157 {E : aEnv} {c : Nat} {ah : aHp} {st : List Value} {Q : Option Value → aHp → Prop} {a0 a1 a3 a4 a5 a6 : Option Value} {x : Int32} : WP E c 51 157 [a0, a1, some (.int x), a3, a4, a5, a6] (st) ah Q = WP E c 51 158 [a0, a1, some (.int x), a3, a4, a5, a6] (.int x :: st) ah Q := wp_s i51_157 rfl rfl rfl rfl
theorem i51_158 : insAt 51 158 = some (.iload 4, 160) := by decide +kernel
theorem r51_158 {E : aEnv} {c : Nat} {ah : aHp} {st : List Value} {Q : Option Value → aHp → Prop} {a0 a1 a2 a3 a5 a6 : Option Value} {x : Int32} : WP E c 51 158 [a0, a1, a2, a3, some (.int x), a5, a6] (st) ah Q = WP E c 51 160 [a0, a1, a2, a3, some (.int x), a5, a6] (.int x :: st) ah Q := wp_s i51_158 rfl rfl rfl rfl
theorem i51_160 : insAt 51 160 = some (.iadd, 161) := by decide +kernel
theorem r51_160 {E : aEnv} {c : Nat} {ah : aHp} {st : List Value} {Q : Option Value → aHp → Prop} {a0 a1 a2 a3 a4 a5 a6 : Option Value} {x y : Int32} : WP E c 51 160 [a0, a1, a2, a3, a4, a5, a6] (.int y :: .int x :: st) ah Q = WP E c 51 161 [a0, a1, a2, a3, a4, a5, a6] (.int (x + y) :: st) ah Q := wp_s i51_160 rfl rfl rfl rfl
theorem i51_161 : insAt 51 161 = some (.iaload, 162) := by decide +kernel
theorem r51_161 {E : aEnv} {c : Nat} {ah : aHp} {st : List Value} {Q : Option Value → aHp → Prop} {a0 a1 a2 a3 a4 a5 a6 : Option Value} {i : Int32} {a : Nat} : WP E c 51 161 [a0, a1, a2, a3, a4, a5, a6] (.int i :: .ref a :: st) ah Q = WPo (gI E ah (.int i :: .ref a :: st)) (fun s9 => WP E c 51 162 [a0, a1, a2, a3, a4, a5, a6] s9 ah Q) := wp_hr i51_161 rfl rfl rfl rfl rfl rfl rfl rfl
theorem i51_162 : insAt 51 162 = some (.iconst 1, 163) := by decide +kernel
theorem r51_162 {E : aEnv} {c : Nat} {ah : aHp} {st : List Value} {Q : Option Value → aHp → Prop} {a0 a1 a2 a3 a4 a5 a6 : Option Value} : WP E c 51 162 [a0, a1, a2, a3, a4, a5, a6] (st) ah Q = WP E c 51 163 [a0, a1, a2, a3, a4, a5, a6] (.int (1) :: st) ah Q := wp_s i51_162 rfl rfl rfl rfl
theorem i51_163 : insAt 51 163 = some (.iand, 164) := by decide +kernel
theorem r51_163 {E : aEnv} {c : Nat} {ah : aHp} {st : List Value} {Q : Option Value → aHp → Prop} {a0 a1 a2 a3 a4 a5 a6 : Option Value} {x y : Int32} : WP E c 51 163 [a0, a1, a2, a3, a4, a5, a6] (.int y :: .int x :: st) ah Q = WP E c 51 164 [a0, a1, a2, a3, a4, a5, a6] (.int (x &&& y) :: st) ah Q := wp_s i51_163 rfl rfl rfl rfl
theorem i51_164 : insAt 51 164 = some (.ifCond .eq 171, 167) := by decide +kernel
theorem r51_164 {E : aEnv} {c : Nat} {ah : aHp} {st : List Value} {Q : Option Value → aHp → Prop} {a0 a1 a2 a3 a4 a5 a6 : Option Value} {x : Int32} : WP E c 51 164 [a0, a1, a2, a3, a4, a5, a6] (.int x :: st) ah Q = if x = 0 then WP E c 51 171 [a0, a1, a2, a3, a4, a5, a6] st ah Q else WP E c 51 167 [a0, a1, a2, a3, a4, a5, a6] st ah Q := wp_j i51_164 rfl rfl rfl rfl
theorem i51_167 : insAt 51 167 = some (.iconst 1, 168) := by decide +kernel
theorem r51_167 {E : aEnv} {c : Nat} {ah : aHp} {st : List Value} {Q : Option Value → aHp → Prop} {a0 a1 a2 a3 a4 a5 a6 : Option Value} : WP E c 51 167 [a0, a1, a2, a3, a4, a5, a6] (st) ah Q = WP E c 51 168 [a0, a1, a2, a3, a4, a5, a6] (.int (1) :: st) ah Q := wp_s i51_167 rfl rfl rfl rfl
theorem i51_168 : insAt 51 168 = some (.goto 172, 171) := by decide +kernel
theorem r51_168 {E : aEnv} {c : Nat} {ah : aHp} {st : List Value} {Q : Option Value → aHp → Prop} {a0 a1 a2 a3 a4 a5 a6 : Option Value} : WP E c 51 168 [a0, a1, a2, a3, a4, a5, a6] (st) ah Q = WP E c 51 172 [a0, a1, a2, a3, a4, a5, a6] st ah Q := wp_s i51_168 rfl rfl rfl rfl
theorem i51_171 : insAt 51 171 = some (.iconst 0, 172) := by decide +kernel
theorem r51_171 {E : aEnv} {c : Nat} {ah : aHp} {st : List Value} {Q : Option Value → aHp → Prop} {a0 a1 a2 a3 a4 a5 a6 : Option Value} : WP E c 51 171 [a0, a1, a2, a3, a4, a5, a6] (st) ah Q = WP E c 51 172 [a0, a1, a2, a3, a4, a5, a6] (.int (0) :: st) ah Q := wp_s i51_171 rfl rfl rfl rfl
theorem i51_172 : insAt 51 172 = some (.istore 5, 174) := by decide +kernel
theorem r51_172 {E : aEnv} {c : Nat} {ah : aHp} {st : List Value} {Q : Option Value → aHp → Prop} {a0 a1 a2 a3 a4 a5 a6 : Option Value} {x : Int32} : WP E c 51 172 [a0, a1, a2, a3, a4, a5, a6] (.int x :: st) ah Q = WP E c 51 174 [a0, a1, a2, a3, kil a4, some (.int x), a6] (st) ah Q := wp_s i51_172 rfl rfl rfl rfl
theorem i51_174 : insAt 51 174 = some (.aload 0, 175) := by decide +kernel
theorem r51_174 {E : aEnv} {c : Nat} {ah : aHp} {st : List Value} {Q : Option Value → aHp → Prop} {a1 a2 a3 a4 a5 a6 : Option Value} {x : Nat} : WP E c 51 174 [some (.ref x), a1, a2, a3, a4, a5, a6] (st) ah Q = WP E c 51 175 [some (.ref x), a1, a2, a3, a4, a5, a6] (.ref x :: st) ah Q := wp_s i51_174 rfl rfl rfl rfl
theorem i51_175 : insAt 51 175 = some (.getfield 2072, 178) := by decide +kernel
theorem r51_175 {E : aEnv} {c : Nat} {ah : aHp} {st : List Value} {Q : Option Value → aHp → Prop} {a0 a1 a2 a3 a4 a5 a6 : Option Value} {a : Nat} : WP E c 51 175 [a0, a1, a2, a3, a4, a5, a6] (.ref a :: st) ah Q = WPo (oGF (hg E ah a) 2 7) (fun v => WP E c 51 178 [a0, a1, a2, a3, a4, a5, a6] (v :: st) ah Q) := wp_getf i51_175
theorem i51_178 : insAt 51 178 = some (.iload 4, 180) := by decide +kernel
theorem r51_178 {E : aEnv} {c : Nat} {ah : aHp} {st : List Value} {Q : Option Value → aHp → Prop} {a0 a1 a2 a3 a5 a6 : Option Value} {x : Int32} : WP E c 51 178 [a0, a1, a2, a3, some (.int x), a5, a6] (st) ah Q = WP E c 51 180 [a0, a1, a2, a3, some (.int x), a5, a6] (.int x :: st) ah Q := wp_s i51_178 rfl rfl rfl rfl
theorem i51_180 : insAt 51 180 = some (.iconst 1, 181) := by decide +kernel
theorem r51_180 {E : aEnv} {c : Nat} {ah : aHp} {st : List Value} {Q : Option Value → aHp → Prop} {a0 a1 a2 a3 a4 a5 a6 : Option Value} : WP E c 51 180 [a0, a1, a2, a3, a4, a5, a6] (st) ah Q = WP E c 51 181 [a0, a1, a2, a3, a4, a5, a6] (.int (1) :: st) ah Q := wp_s i51_180 rfl rfl rfl rfl
theorem i51_181 : insAt 51 181 = some (.isub, 182) := by decide +kernel
theorem r51_181 {E : aEnv} {c : Nat} {ah : aHp} {st : List Value} {Q : Option Value → aHp → Prop} {a0 a1 a2 a3 a4 a5 a6 : Option Value} {x y : Int32} : WP E c 51 181 [a0, a1, a2, a3, a4, a5, a6] (.int y :: .int x :: st) ah Q = WP E c 51 182 [a0, a1, a2, a3, a4, a5, a6] (.int (x - y) :: st) ah Q := wp_s i51_181 rfl rfl rfl rfl
theorem i51_182 : insAt 51 182 = some (.baload, 183) := by decide +kernel
theorem r51_182 {E : aEnv} {c : Nat} {ah : aHp} {st : List Value} {Q : Option Value → aHp → Prop} {a0 a1 a2 a3 a4 a5 a6 : Option Value} {i : Int32} {a : Nat} : WP E c 51 182 [a0, a1, a2, a3, a4, a5, a6] (.int i :: .ref a :: st) ah Q = WPo (gB E ah (.int i :: .ref a :: st)) (fun s9 => WP E c 51 183 [a0, a1, a2, a3, a4, a5, a6] s9 ah Q) := wp_hr i51_182 rfl rfl rfl rfl rfl rfl rfl rfl
theorem i51_183 : insAt 51 183 = some (.ifCond .eq 201, 186) := by decide +kernel
theorem r51_183 {E : aEnv} {c : Nat} {ah : aHp} {st : List Value} {Q : Option Value → aHp → Prop} {a0 a1 a2 a3 a4 a5 a6 : Option Value} {x : Int32} : WP E c 51 183 [a0, a1, a2, a3, a4, a5, a6] (.int x :: st) ah Q = if x = 0 then WP E c 51 201 [a0, a1, a2, a3, a4, a5, a6] st ah Q else WP E c 51 186 [a0, a1, a2, a3, a4, a5, a6] st ah Q := wp_j i51_183 rfl rfl rfl rfl
theorem i51_186 : insAt 51 186 = some (.iload 5, 188) := by decide +kernel
theorem r51_186 {E : aEnv} {c : Nat} {ah : aHp} {st : List Value} {Q : Option Value → aHp → Prop} {a0 a1 a2 a3 a4 a6 : Option Value} {x : Int32} : WP E c 51 186 [a0, a1, a2, a3, a4, some (.int x), a6] (st) ah Q = WP E c 51 188 [a0, a1, a2, a3, a4, some (.int x), a6] (.int x :: st) ah Q := wp_s i51_186 rfl rfl rfl rfl
theorem i51_188 : insAt 51 188 = some (.ifCond .ne 201, 191) := by decide +kernel
theorem r51_188 {E : aEnv} {c : Nat} {ah : aHp} {st : List Value} {Q : Option Value → aHp → Prop} {a0 a1 a2 a3 a4 a5 a6 : Option Value} {x : Int32} : WP E c 51 188 [a0, a1, a2, a3, a4, a5, a6] (.int x :: st) ah Q = if ¬ x = 0 then WP E c 51 201 [a0, a1, a2, a3, a4, a5, a6] st ah Q else WP E c 51 191 [a0, a1, a2, a3, a4, a5, a6] st ah Q := wp_j i51_188 rfl rfl rfl rfl
theorem i51_191 : insAt 51 191 = some (.aload 0, 192) := by decide +kernel
theorem r51_191 {E : aEnv} {c : Nat} {ah : aHp} {st : List Value} {Q : Option Value → aHp → Prop} {a1 a2 a3 a4 a5 a6 : Option Value} {x : Nat} : WP E c 51 191 [some (.ref x), a1, a2, a3, a4, a5, a6] (st) ah Q = WP E c 51 192 [some (.ref x), a1, a2, a3, a4, a5, a6] (.ref x :: st) ah Q := wp_s i51_191 rfl rfl rfl rfl
theorem i51_192 : insAt 51 192 = some (.iload 2, 193) := by decide +kernel
theorem r51_192 {E : aEnv} {c : Nat} {ah : aHp} {st : List Value} {Q : Option Value → aHp → Prop} {a0 a1 a3 a4 a5 a6 : Option Value} {x : Int32} : WP E c 51 192 [a0, a1, some (.int x), a3, a4, a5, a6] (st) ah Q = WP E c 51 193 [a0, a1, some (.int x), a3, a4, a5, a6] (.int x :: st) ah Q := wp_s i51_192 rfl rfl rfl rfl
theorem i51_193 : insAt 51 193 = some (.iload 4, 195) := by decide +kernel
theorem r51_193 {E : aEnv} {c : Nat} {ah : aHp} {st : List Value} {Q : Option Value → aHp → Prop} {a0 a1 a2 a3 a5 a6 : Option Value} {x : Int32} : WP E c 51 193 [a0, a1, a2, a3, some (.int x), a5, a6] (st) ah Q = WP E c 51 195 [a0, a1, a2, a3, some (.int x), a5, a6] (.int x :: st) ah Q := wp_s i51_193 rfl rfl rfl rfl
theorem i51_195 : insAt 51 195 = some (.iadd, 196) := by decide +kernel
theorem r51_195 {E : aEnv} {c : Nat} {ah : aHp} {st : List Value} {Q : Option Value → aHp → Prop} {a0 a1 a2 a3 a4 a5 a6 : Option Value} {x y : Int32} : WP E c 51 195 [a0, a1, a2, a3, a4, a5, a6] (.int y :: .int x :: st) ah Q = WP E c 51 196 [a0, a1, a2, a3, a4, a5, a6] (.int (x + y) :: st) ah Q := wp_s i51_195 rfl rfl rfl rfl
theorem i51_196 : insAt 51 196 = some (.iload 4, 198) := by decide +kernel
theorem r51_196 {E : aEnv} {c : Nat} {ah : aHp} {st : List Value} {Q : Option Value → aHp → Prop} {a0 a1 a2 a3 a5 a6 : Option Value} {x : Int32} : WP E c 51 196 [a0, a1, a2, a3, some (.int x), a5, a6] (st) ah Q = WP E c 51 198 [a0, a1, a2, a3, some (.int x), a5, a6] (.int x :: st) ah Q := wp_s i51_196 rfl rfl rfl rfl
theorem i51_198 : insAt 51 198 = some (.invokevirtual 52, 201) := by decide +kernel
theorem r51_198 {E : aEnv} {c : Nat} {ah ah1 : aHp} {r : Option Value} {st : List Value} {Q : Option Value → aHp → Prop} {a0 a1 a2 a3 a4 a5 a6 : Option Value} {p0 : Nat} {p1 : Int32} {p2 : Int32} (h : EV E c 52 [.ref p0, .int p1, .int p2] ah r ah1) (h2 : oCI (hg E ah p0) = 2) (h3 : wds st ≤ 8) : WP E (c + 1) 51 198 [a0, a1, a2, a3, a4, a5, a6] (.int p2 :: .int p1 :: .ref p0 :: st) ah Q = WP E (c + 1) 51 201 [a0, a1, a2, a3, a4, a5, a6] (r.toList ++ st) ah1 Q := wp_call (As := [.ref p0, .int p1, .int p2]) i51_198 (fun _ => rfl) rfl mr52.1 (rcv_1 h2 mr52.2.2 (by decide)) h3 (by rw [mr52.2.1]; exact Nat.le_of_ble_eq_true rfl) h
theorem i51_201 : insAt 51 201 = some (.iinc 4 1, 204) := by decide +kernel
theorem r51_201 {E : aEnv} {c : Nat} {ah : aHp} {st : List Value} {Q : Option Value → aHp → Prop} {a0 a1 a2 a3 a5 a6 : Option Value} {x : Int32} : WP E c 51 201 [a0, a1, a2, a3, some (.int x), a5, a6] (st) ah Q = WP E c 51 204 [a0, a1, a2, kil a3, some (.int (x + 1)), a5, a6] (st) ah Q := wp_s i51_201 rfl rfl rfl rfl
theorem i51_204 : insAt 51 204 = some (.goto 144, 207) := by decide +kernel
theorem r51_204 {E : aEnv} {c : Nat} {ah : aHp} {st : List Value} {Q : Option Value → aHp → Prop} {a0 a1 a2 a3 a4 a5 a6 : Option Value} : WP E c 51 204 [a0, a1, a2, a3, a4, a5, a6] (st) ah Q = WP E c 51 144 [a0, a1, a2, a3, a4, a5, a6] st ah Q := wp_s i51_204 rfl rfl rfl rfl
theorem i51_207 : insAt 51 207 = some (.return_, 208) := by decide +kernel
theorem r51_207 {E : aEnv} {c : Nat} {ah : aHp} {Q : Option Value → aHp → Prop} {a0 a1 a2 a3 a4 a5 a6 : Option Value} : WP E c 51 207 [a0, a1, a2, a3, a4, a5, a6] ([]) ah Q = Q none ah := wp_rt i51_207 rfl
theorem e52 {E : aEnv} {c : Nat} {ah ahF : aHp} {r : Option Value} {p0 : Nat} {p1 : Int32} {p2 : Int32} (h : WP E c 52 0 [some (.ref p0), some (.int p1), some (.int p2)] [] ah (fun r1 x1 => r1 = r ∧ x1 = ahF)) : EV E c 52 [.ref p0, .int p1, .int p2] ah r ahF := EV.of (by rw [mr52.2.1]; exact h)
theorem i52_0 : insAt 52 0 = some (.aload 0, 1) := by decide +kernel
theorem r52_0 {E : aEnv} {c : Nat} {ah : aHp} {st : List Value} {Q : Option Value → aHp → Prop} {a1 a2 : Option Value} {x : Nat} : WP E c 52 0 [some (.ref x), a1, a2] (st) ah Q = WP E c 52 1 [some (.ref x), a1, a2] (.ref x :: st) ah Q := wp_s i52_0 rfl rfl rfl rfl
theorem i52_1 : insAt 52 1 = some (.getfield 2052, 4) := by decide +kernel
theorem r52_1 {E : aEnv} {c : Nat} {ah : aHp} {st : List Value} {Q : Option Value → aHp → Prop} {a0 a1 a2 : Option Value} {a : Nat} : WP E c 52 1 [a0, a1, a2] (.ref a :: st) ah Q = WPo (oGF (hg E ah a) 2 5) (fun v => WP E c 52 4 [a0, a1, a2] (v :: st) ah Q) := wp_getf i52_1
theorem i52_4 : insAt 52 4 = some (.iload 1, 5) := by decide +kernel
theorem r52_4 {E : aEnv} {c : Nat} {ah : aHp} {st : List Value} {Q : Option Value → aHp → Prop} {a0 a2 : Option Value} {x : Int32} : WP E c 52 4 [a0, some (.int x), a2] (st) ah Q = WP E c 52 5 [a0, some (.int x), a2] (.int x :: st) ah Q := wp_s i52_4 rfl rfl rfl rfl
theorem i52_5 : insAt 52 5 = some (.dup2, 6) := by decide +kernel
theorem r52_5 {E : aEnv} {c : Nat} {ah : aHp} {st : List Value} {Q : Option Value → aHp → Prop} {a0 a1 a2 : Option Value} {x : Int32} {a : Nat} : WP E c 52 5 [a0, a1, a2] (.int x :: .ref a :: st) ah Q = WP E c 52 6 [a0, a1, a2] (.int x :: .ref a :: .int x :: .ref a :: st) ah Q := wp_s i52_5 rfl rfl rfl rfl
theorem r52_5l {E : aEnv} {c : Nat} {ah : aHp} {st : List Value} {Q : Option Value → aHp → Prop} {a0 a1 a2 : Option Value} {x : Int64} : WP E c 52 5 [a0, a1, a2] (.long x :: st) ah Q = WP E c 52 6 [a0, a1, a2] (.long x :: .long x :: st) ah Q := wp_s i52_5 rfl rfl rfl rfl
theorem i52_6 : insAt 52 6 = some (.iaload, 7) := by decide +kernel
theorem r52_6 {E : aEnv} {c : Nat} {ah : aHp} {st : List Value} {Q : Option Value → aHp → Prop} {a0 a1 a2 : Option Value} {i : Int32} {a : Nat} : WP E c 52 6 [a0, a1, a2] (.int i :: .ref a :: st) ah Q = WPo (gI E ah (.int i :: .ref a :: st)) (fun s9 => WP E c 52 7 [a0, a1, a2] s9 ah Q) := wp_hr i52_6 rfl rfl rfl rfl rfl rfl rfl rfl
theorem i52_7 : insAt 52 7 = some (.iconst 1, 8) := by decide +kernel
theorem r52_7 {E : aEnv} {c : Nat} {ah : aHp} {st : List Value} {Q : Option Value → aHp → Prop} {a0 a1 a2 : Option Value} : WP E c 52 7 [a0, a1, a2] (st) ah Q = WP E c 52 8 [a0, a1, a2] (.int (1) :: st) ah Q := wp_s i52_7 rfl rfl rfl rfl
theorem i52_8 : insAt 52 8 = some (.iadd, 9) := by decide +kernel
theorem r52_8 {E : aEnv} {c : Nat} {ah : aHp} {st : List Value} {Q : Option Value → aHp → Prop} {a0 a1 a2 : Option Value} {x y : Int32} : WP E c 52 8 [a0, a1, a2] (.int y :: .int x :: st) ah Q = WP E c 52 9 [a0, a1, a2] (.int (x + y) :: st) ah Q := wp_s i52_8 rfl rfl rfl rfl
theorem i52_9 : insAt 52 9 = some (.iastore, 10) := by decide +kernel
theorem r52_9 {E : aEnv} {c : Nat} {ah : aHp} {st : List Value} {Q : Option Value → aHp → Prop} {a0 a1 a2 : Option Value} {x : Int32} {i : Int32} {a : Nat} : WP E c 52 9 [a0, a1, a2] (.int x :: .int i :: .ref a :: st) ah Q = WPo (pI E ah (.int x :: .int i :: .ref a :: st)) (fun q9 => WP E c 52 10 [a0, a1, a2] q9.1 q9.2 Q) := wp_hw i52_9 rfl rfl rfl rfl rfl rfl rfl rfl
theorem i52_10 : insAt 52 10 = some (.aload 0, 11) := by decide +kernel
theorem r52_10 {E : aEnv} {c : Nat} {ah : aHp} {st : List Value} {Q : Option Value → aHp → Prop} {a1 a2 : Option Value} {x : Nat} : WP E c 52 10 [some (.ref x), a1, a2] (st) ah Q = WP E c 52 11 [some (.ref x), a1, a2] (.ref x :: st) ah Q := wp_s i52_10 rfl rfl rfl rfl
theorem i52_11 : insAt 52 11 = some (.getfield 2052, 14) := by decide +kernel
theorem r52_11 {E : aEnv} {c : Nat} {ah : aHp} {st : List Value} {Q : Option Value → aHp → Prop} {a0 a1 a2 : Option Value} {a : Nat} : WP E c 52 11 [a0, a1, a2] (.ref a :: st) ah Q = WPo (oGF (hg E ah a) 2 5) (fun v => WP E c 52 14 [a0, a1, a2] (v :: st) ah Q) := wp_getf i52_11
theorem i52_14 : insAt 52 14 = some (.iload 1, 15) := by decide +kernel
theorem r52_14 {E : aEnv} {c : Nat} {ah : aHp} {st : List Value} {Q : Option Value → aHp → Prop} {a0 a2 : Option Value} {x : Int32} : WP E c 52 14 [a0, some (.int x), a2] (st) ah Q = WP E c 52 15 [a0, some (.int x), a2] (.int x :: st) ah Q := wp_s i52_14 rfl rfl rfl rfl
theorem i52_15 : insAt 52 15 = some (.iaload, 16) := by decide +kernel
theorem r52_15 {E : aEnv} {c : Nat} {ah : aHp} {st : List Value} {Q : Option Value → aHp → Prop} {a0 a1 a2 : Option Value} {i : Int32} {a : Nat} : WP E c 52 15 [a0, a1, a2] (.int i :: .ref a :: st) ah Q = WPo (gI E ah (.int i :: .ref a :: st)) (fun s9 => WP E c 52 16 [a0, a1, a2] s9 ah Q) := wp_hr i52_15 rfl rfl rfl rfl rfl rfl rfl rfl
theorem i52_16 : insAt 52 16 = some (.aload 0, 17) := by decide +kernel
theorem r52_16 {E : aEnv} {c : Nat} {ah : aHp} {st : List Value} {Q : Option Value → aHp → Prop} {a1 a2 : Option Value} {x : Nat} : WP E c 52 16 [some (.ref x), a1, a2] (st) ah Q = WP E c 52 17 [some (.ref x), a1, a2] (.ref x :: st) ah Q := wp_s i52_16 rfl rfl rfl rfl
theorem i52_17 : insAt 52 17 = some (.getfield 2022, 20) := by decide +kernel
theorem r52_17 {E : aEnv} {c : Nat} {ah : aHp} {st : List Value} {Q : Option Value → aHp → Prop} {a0 a1 a2 : Option Value} {a : Nat} : WP E c 52 17 [a0, a1, a2] (.ref a :: st) ah Q = WPo (oGF (hg E ah a) 2 2) (fun v => WP E c 52 20 [a0, a1, a2] (v :: st) ah Q) := wp_getf i52_17
theorem i52_20 : insAt 52 20 = some (.iload 2, 21) := by decide +kernel
theorem r52_20 {E : aEnv} {c : Nat} {ah : aHp} {st : List Value} {Q : Option Value → aHp → Prop} {a0 a1 : Option Value} {x : Int32} : WP E c 52 20 [a0, a1, some (.int x)] (st) ah Q = WP E c 52 21 [a0, a1, some (.int x)] (.int x :: st) ah Q := wp_s i52_20 rfl rfl rfl rfl
theorem i52_21 : insAt 52 21 = some (.iaload, 22) := by decide +kernel
theorem r52_21 {E : aEnv} {c : Nat} {ah : aHp} {st : List Value} {Q : Option Value → aHp → Prop} {a0 a1 a2 : Option Value} {i : Int32} {a : Nat} : WP E c 52 21 [a0, a1, a2] (.int i :: .ref a :: st) ah Q = WPo (gI E ah (.int i :: .ref a :: st)) (fun s9 => WP E c 52 22 [a0, a1, a2] s9 ah Q) := wp_hr i52_21 rfl rfl rfl rfl rfl rfl rfl rfl
theorem i52_22 : insAt 52 22 = some (.if_icmp .ne 39, 25) := by decide +kernel
theorem r52_22 {E : aEnv} {c : Nat} {ah : aHp} {st : List Value} {Q : Option Value → aHp → Prop} {a0 a1 a2 : Option Value} {x y : Int32} : WP E c 52 22 [a0, a1, a2] (.int y :: .int x :: st) ah Q = if ¬ x = y then WP E c 52 39 [a0, a1, a2] st ah Q else WP E c 52 25 [a0, a1, a2] st ah Q := wp_j i52_22 rfl rfl rfl rfl
theorem i52_25 : insAt 52 25 = some (.aload 0, 26) := by decide +kernel
theorem r52_25 {E : aEnv} {c : Nat} {ah : aHp} {st : List Value} {Q : Option Value → aHp → Prop} {a1 a2 : Option Value} {x : Nat} : WP E c 52 25 [some (.ref x), a1, a2] (st) ah Q = WP E c 52 26 [some (.ref x), a1, a2] (.ref x :: st) ah Q := wp_s i52_25 rfl rfl rfl rfl
theorem i52_26 : insAt 52 26 = some (.getfield 2052, 29) := by decide +kernel
theorem r52_26 {E : aEnv} {c : Nat} {ah : aHp} {st : List Value} {Q : Option Value → aHp → Prop} {a0 a1 a2 : Option Value} {a : Nat} : WP E c 52 26 [a0, a1, a2] (.ref a :: st) ah Q = WPo (oGF (hg E ah a) 2 5) (fun v => WP E c 52 29 [a0, a1, a2] (v :: st) ah Q) := wp_getf i52_26
theorem i52_29 : insAt 52 29 = some (.iload 1, 30) := by decide +kernel
theorem r52_29 {E : aEnv} {c : Nat} {ah : aHp} {st : List Value} {Q : Option Value → aHp → Prop} {a0 a2 : Option Value} {x : Int32} : WP E c 52 29 [a0, some (.int x), a2] (st) ah Q = WP E c 52 30 [a0, some (.int x), a2] (.int x :: st) ah Q := wp_s i52_29 rfl rfl rfl rfl
theorem i52_30 : insAt 52 30 = some (.iconst 0, 31) := by decide +kernel
theorem r52_30 {E : aEnv} {c : Nat} {ah : aHp} {st : List Value} {Q : Option Value → aHp → Prop} {a0 a1 a2 : Option Value} : WP E c 52 30 [a0, a1, a2] (st) ah Q = WP E c 52 31 [a0, a1, a2] (.int (0) :: st) ah Q := wp_s i52_30 rfl rfl rfl rfl
theorem i52_31 : insAt 52 31 = some (.iastore, 32) := by decide +kernel
theorem r52_31 {E : aEnv} {c : Nat} {ah : aHp} {st : List Value} {Q : Option Value → aHp → Prop} {a0 a1 a2 : Option Value} {x : Int32} {i : Int32} {a : Nat} : WP E c 52 31 [a0, a1, a2] (.int x :: .int i :: .ref a :: st) ah Q = WPo (pI E ah (.int x :: .int i :: .ref a :: st)) (fun q9 => WP E c 52 32 [a0, a1, a2] q9.1 q9.2 Q) := wp_hw i52_31 rfl rfl rfl rfl rfl rfl rfl rfl
theorem i52_32 : insAt 52 32 = some (.aload 0, 33) := by decide +kernel
theorem r52_32 {E : aEnv} {c : Nat} {ah : aHp} {st : List Value} {Q : Option Value → aHp → Prop} {a1 a2 : Option Value} {x : Nat} : WP E c 52 32 [some (.ref x), a1, a2] (st) ah Q = WP E c 52 33 [some (.ref x), a1, a2] (.ref x :: st) ah Q := wp_s i52_32 rfl rfl rfl rfl
theorem i52_33 : insAt 52 33 = some (.getfield 2072, 36) := by decide +kernel
theorem r52_33 {E : aEnv} {c : Nat} {ah : aHp} {st : List Value} {Q : Option Value → aHp → Prop} {a0 a1 a2 : Option Value} {a : Nat} : WP E c 52 33 [a0, a1, a2] (.ref a :: st) ah Q = WPo (oGF (hg E ah a) 2 7) (fun v => WP E c 52 36 [a0, a1, a2] (v :: st) ah Q) := wp_getf i52_33
theorem i52_36 : insAt 52 36 = some (.iload 2, 37) := by decide +kernel
theorem r52_36 {E : aEnv} {c : Nat} {ah : aHp} {st : List Value} {Q : Option Value → aHp → Prop} {a0 a1 : Option Value} {x : Int32} : WP E c 52 36 [a0, a1, some (.int x)] (st) ah Q = WP E c 52 37 [a0, a1, some (.int x)] (.int x :: st) ah Q := wp_s i52_36 rfl rfl rfl rfl
theorem i52_37 : insAt 52 37 = some (.iconst 1, 38) := by decide +kernel
theorem r52_37 {E : aEnv} {c : Nat} {ah : aHp} {st : List Value} {Q : Option Value → aHp → Prop} {a0 a1 a2 : Option Value} : WP E c 52 37 [a0, a1, a2] (st) ah Q = WP E c 52 38 [a0, a1, a2] (.int (1) :: st) ah Q := wp_s i52_37 rfl rfl rfl rfl
theorem i52_38 : insAt 52 38 = some (.bastore, 39) := by decide +kernel
theorem r52_38 {E : aEnv} {c : Nat} {ah : aHp} {st : List Value} {Q : Option Value → aHp → Prop} {a0 a1 a2 : Option Value} {x : Int32} {i : Int32} {a : Nat} : WP E c 52 38 [a0, a1, a2] (.int x :: .int i :: .ref a :: st) ah Q = WPo (pB E ah (.int x :: .int i :: .ref a :: st)) (fun q9 => WP E c 52 39 [a0, a1, a2] q9.1 q9.2 Q) := wp_hw i52_38 rfl rfl rfl rfl rfl rfl rfl rfl
theorem i52_39 : insAt 52 39 = some (.return_, 40) := by decide +kernel
theorem r52_39 {E : aEnv} {c : Nat} {ah : aHp} {Q : Option Value → aHp → Prop} {a0 a1 a2 : Option Value} : WP E c 52 39 [a0, a1, a2] ([]) ah Q = Q none ah := wp_rt i52_39 rfl
theorem e53 {E : aEnv} {c : Nat} {ah ahF : aHp} {r : Option Value} {p0 : Nat} (h : WP E c 53 0 [some (.ref p0), none, none] [] ah (fun r1 x1 => r1 = r ∧ x1 = ahF)) : EV E c 53 [.ref p0] ah r ahF := EV.of (by rw [mr53.2.1]; exact h)
theorem i53_0 : insAt 53 0 = some (.iconst 0, 1) := by decide +kernel
theorem r53_0 {E : aEnv} {c : Nat} {ah : aHp} {st : List Value} {Q : Option Value → aHp → Prop} {a0 a1 a2 : Option Value} : WP E c 53 0 [a0, a1, a2] (st) ah Q = WP E c 53 1 [a0, a1, a2] (.int (0) :: st) ah Q := wp_s i53_0 rfl rfl rfl rfl
theorem i53_1 : insAt 53 1 = some (.istore 1, 2) := by decide +kernel
theorem r53_1 {E : aEnv} {c : Nat} {ah : aHp} {st : List Value} {Q : Option Value → aHp → Prop} {a0 a1 a2 : Option Value} {x : Int32} : WP E c 53 1 [a0, a1, a2] (.int x :: st) ah Q = WP E c 53 2 [kil a0, some (.int x), a2] (st) ah Q := wp_s i53_1 rfl rfl rfl rfl
theorem i53_2 : insAt 53 2 = some (.iload 1, 3) := by decide +kernel
theorem r53_2 {E : aEnv} {c : Nat} {ah : aHp} {st : List Value} {Q : Option Value → aHp → Prop} {a0 a2 : Option Value} {x : Int32} : WP E c 53 2 [a0, some (.int x), a2] (st) ah Q = WP E c 53 3 [a0, some (.int x), a2] (.int x :: st) ah Q := wp_s i53_2 rfl rfl rfl rfl
theorem i53_3 : insAt 53 3 = some (.aload 0, 4) := by decide +kernel
theorem r53_3 {E : aEnv} {c : Nat} {ah : aHp} {st : List Value} {Q : Option Value → aHp → Prop} {a1 a2 : Option Value} {x : Nat} : WP E c 53 3 [some (.ref x), a1, a2] (st) ah Q = WP E c 53 4 [some (.ref x), a1, a2] (.ref x :: st) ah Q := wp_s i53_3 rfl rfl rfl rfl
theorem i53_4 : insAt 53 4 = some (.getfield 2130, 7) := by decide +kernel
theorem r53_4 {E : aEnv} {c : Nat} {ah : aHp} {st : List Value} {Q : Option Value → aHp → Prop} {a0 a1 a2 : Option Value} {a : Nat} : WP E c 53 4 [a0, a1, a2] (.ref a :: st) ah Q = WPo (oGF (hg E ah a) 2 13) (fun v => WP E c 53 7 [a0, a1, a2] (v :: st) ah Q) := wp_getf i53_4
theorem i53_7 : insAt 53 7 = some (.if_icmp .ge 103, 10) := by decide +kernel
theorem r53_7 {E : aEnv} {c : Nat} {ah : aHp} {st : List Value} {Q : Option Value → aHp → Prop} {a0 a1 a2 : Option Value} {x y : Int32} : WP E c 53 7 [a0, a1, a2] (.int y :: .int x :: st) ah Q = if y ≤ x then WP E c 53 103 [a0, a1, a2] st ah Q else WP E c 53 10 [a0, a1, a2] st ah Q := wp_j i53_7 rfl rfl rfl rfl
theorem i53_10 : insAt 53 10 = some (.aload 0, 11) := by decide +kernel
theorem r53_10 {E : aEnv} {c : Nat} {ah : aHp} {st : List Value} {Q : Option Value → aHp → Prop} {a1 a2 : Option Value} {x : Nat} : WP E c 53 10 [some (.ref x), a1, a2] (st) ah Q = WP E c 53 11 [some (.ref x), a1, a2] (.ref x :: st) ah Q := wp_s i53_10 rfl rfl rfl rfl
theorem i53_11 : insAt 53 11 = some (.getfield 2092, 14) := by decide +kernel
theorem r53_11 {E : aEnv} {c : Nat} {ah : aHp} {st : List Value} {Q : Option Value → aHp → Prop} {a0 a1 a2 : Option Value} {a : Nat} : WP E c 53 11 [a0, a1, a2] (.ref a :: st) ah Q = WPo (oGF (hg E ah a) 2 9) (fun v => WP E c 53 14 [a0, a1, a2] (v :: st) ah Q) := wp_getf i53_11
theorem i53_14 : insAt 53 14 = some (.iload 1, 15) := by decide +kernel
theorem r53_14 {E : aEnv} {c : Nat} {ah : aHp} {st : List Value} {Q : Option Value → aHp → Prop} {a0 a2 : Option Value} {x : Int32} : WP E c 53 14 [a0, some (.int x), a2] (st) ah Q = WP E c 53 15 [a0, some (.int x), a2] (.int x :: st) ah Q := wp_s i53_14 rfl rfl rfl rfl
theorem i53_15 : insAt 53 15 = some (.iaload, 16) := by decide +kernel
theorem r53_15 {E : aEnv} {c : Nat} {ah : aHp} {st : List Value} {Q : Option Value → aHp → Prop} {a0 a1 a2 : Option Value} {i : Int32} {a : Nat} : WP E c 53 15 [a0, a1, a2] (.int i :: .ref a :: st) ah Q = WPo (gI E ah (.int i :: .ref a :: st)) (fun s9 => WP E c 53 16 [a0, a1, a2] s9 ah Q) := wp_hr i53_15 rfl rfl rfl rfl rfl rfl rfl rfl
theorem i53_16 : insAt 53 16 = some (.aload 0, 17) := by decide +kernel
theorem r53_16 {E : aEnv} {c : Nat} {ah : aHp} {st : List Value} {Q : Option Value → aHp → Prop} {a1 a2 : Option Value} {x : Nat} : WP E c 53 16 [some (.ref x), a1, a2] (st) ah Q = WP E c 53 17 [some (.ref x), a1, a2] (.ref x :: st) ah Q := wp_s i53_16 rfl rfl rfl rfl
theorem i53_17 : insAt 53 17 = some (.getfield 2140, 20) := by decide +kernel
theorem r53_17 {E : aEnv} {c : Nat} {ah : aHp} {st : List Value} {Q : Option Value → aHp → Prop} {a0 a1 a2 : Option Value} {a : Nat} : WP E c 53 17 [a0, a1, a2] (.ref a :: st) ah Q = WPo (oGF (hg E ah a) 2 14) (fun v => WP E c 53 20 [a0, a1, a2] (v :: st) ah Q) := wp_getf i53_17
theorem i53_20 : insAt 53 20 = some (.if_icmp .ne 97, 23) := by decide +kernel
theorem r53_20 {E : aEnv} {c : Nat} {ah : aHp} {st : List Value} {Q : Option Value → aHp → Prop} {a0 a1 a2 : Option Value} {x y : Int32} : WP E c 53 20 [a0, a1, a2] (.int y :: .int x :: st) ah Q = if ¬ x = y then WP E c 53 97 [a0, a1, a2] st ah Q else WP E c 53 23 [a0, a1, a2] st ah Q := wp_j i53_20 rfl rfl rfl rfl
theorem i53_23 : insAt 53 23 = some (.aload 0, 24) := by decide +kernel
theorem r53_23 {E : aEnv} {c : Nat} {ah : aHp} {st : List Value} {Q : Option Value → aHp → Prop} {a1 a2 : Option Value} {x : Nat} : WP E c 53 23 [some (.ref x), a1, a2] (st) ah Q = WP E c 53 24 [some (.ref x), a1, a2] (.ref x :: st) ah Q := wp_s i53_23 rfl rfl rfl rfl
theorem i53_24 : insAt 53 24 = some (.getfield 2102, 27) := by decide +kernel
theorem r53_24 {E : aEnv} {c : Nat} {ah : aHp} {st : List Value} {Q : Option Value → aHp → Prop} {a0 a1 a2 : Option Value} {a : Nat} : WP E c 53 24 [a0, a1, a2] (.ref a :: st) ah Q = WPo (oGF (hg E ah a) 2 10) (fun v => WP E c 53 27 [a0, a1, a2] (v :: st) ah Q) := wp_getf i53_24
theorem i53_27 : insAt 53 27 = some (.iload 1, 28) := by decide +kernel
theorem r53_27 {E : aEnv} {c : Nat} {ah : aHp} {st : List Value} {Q : Option Value → aHp → Prop} {a0 a2 : Option Value} {x : Int32} : WP E c 53 27 [a0, some (.int x), a2] (st) ah Q = WP E c 53 28 [a0, some (.int x), a2] (.int x :: st) ah Q := wp_s i53_27 rfl rfl rfl rfl
theorem i53_28 : insAt 53 28 = some (.iaload, 29) := by decide +kernel
theorem r53_28 {E : aEnv} {c : Nat} {ah : aHp} {st : List Value} {Q : Option Value → aHp → Prop} {a0 a1 a2 : Option Value} {i : Int32} {a : Nat} : WP E c 53 28 [a0, a1, a2] (.int i :: .ref a :: st) ah Q = WPo (gI E ah (.int i :: .ref a :: st)) (fun s9 => WP E c 53 29 [a0, a1, a2] s9 ah Q) := wp_hr i53_28 rfl rfl rfl rfl rfl rfl rfl rfl
theorem i53_29 : insAt 53 29 = some (.aload 0, 30) := by decide +kernel
theorem r53_29 {E : aEnv} {c : Nat} {ah : aHp} {st : List Value} {Q : Option Value → aHp → Prop} {a1 a2 : Option Value} {x : Nat} : WP E c 53 29 [some (.ref x), a1, a2] (st) ah Q = WP E c 53 30 [some (.ref x), a1, a2] (.ref x :: st) ah Q := wp_s i53_29 rfl rfl rfl rfl
theorem i53_30 : insAt 53 30 = some (.getfield 2010, 33) := by decide +kernel
theorem r53_30 {E : aEnv} {c : Nat} {ah : aHp} {st : List Value} {Q : Option Value → aHp → Prop} {a0 a1 a2 : Option Value} {a : Nat} : WP E c 53 30 [a0, a1, a2] (.ref a :: st) ah Q = WPo (oGF (hg E ah a) 2 1) (fun v => WP E c 53 33 [a0, a1, a2] (v :: st) ah Q) := wp_getf i53_30
theorem i53_33 : insAt 53 33 = some (.imul, 34) := by decide +kernel
theorem r53_33 {E : aEnv} {c : Nat} {ah : aHp} {st : List Value} {Q : Option Value → aHp → Prop} {a0 a1 a2 : Option Value} {x y : Int32} : WP E c 53 33 [a0, a1, a2] (.int y :: .int x :: st) ah Q = WP E c 53 34 [a0, a1, a2] (.int (x * y) :: st) ah Q := wp_s i53_33 rfl rfl rfl rfl
theorem i53_34 : insAt 53 34 = some (.aload 0, 35) := by decide +kernel
theorem r53_34 {E : aEnv} {c : Nat} {ah : aHp} {st : List Value} {Q : Option Value → aHp → Prop} {a1 a2 : Option Value} {x : Nat} : WP E c 53 34 [some (.ref x), a1, a2] (st) ah Q = WP E c 53 35 [some (.ref x), a1, a2] (.ref x :: st) ah Q := wp_s i53_34 rfl rfl rfl rfl
theorem i53_35 : insAt 53 35 = some (.getfield 2112, 38) := by decide +kernel
theorem r53_35 {E : aEnv} {c : Nat} {ah : aHp} {st : List Value} {Q : Option Value → aHp → Prop} {a0 a1 a2 : Option Value} {a : Nat} : WP E c 53 35 [a0, a1, a2] (.ref a :: st) ah Q = WPo (oGF (hg E ah a) 2 11) (fun v => WP E c 53 38 [a0, a1, a2] (v :: st) ah Q) := wp_getf i53_35
theorem i53_38 : insAt 53 38 = some (.iload 1, 39) := by decide +kernel
theorem r53_38 {E : aEnv} {c : Nat} {ah : aHp} {st : List Value} {Q : Option Value → aHp → Prop} {a0 a2 : Option Value} {x : Int32} : WP E c 53 38 [a0, some (.int x), a2] (st) ah Q = WP E c 53 39 [a0, some (.int x), a2] (.int x :: st) ah Q := wp_s i53_38 rfl rfl rfl rfl
theorem i53_39 : insAt 53 39 = some (.iaload, 40) := by decide +kernel
theorem r53_39 {E : aEnv} {c : Nat} {ah : aHp} {st : List Value} {Q : Option Value → aHp → Prop} {a0 a1 a2 : Option Value} {i : Int32} {a : Nat} : WP E c 53 39 [a0, a1, a2] (.int i :: .ref a :: st) ah Q = WPo (gI E ah (.int i :: .ref a :: st)) (fun s9 => WP E c 53 40 [a0, a1, a2] s9 ah Q) := wp_hr i53_39 rfl rfl rfl rfl rfl rfl rfl rfl
theorem i53_40 : insAt 53 40 = some (.iadd, 41) := by decide +kernel
theorem r53_40 {E : aEnv} {c : Nat} {ah : aHp} {st : List Value} {Q : Option Value → aHp → Prop} {a0 a1 a2 : Option Value} {x y : Int32} : WP E c 53 40 [a0, a1, a2] (.int y :: .int x :: st) ah Q = WP E c 53 41 [a0, a1, a2] (.int (x + y) :: st) ah Q := wp_s i53_40 rfl rfl rfl rfl
theorem i53_41 : insAt 53 41 = some (.istore 2, 42) := by decide +kernel
theorem r53_41 {E : aEnv} {c : Nat} {ah : aHp} {st : List Value} {Q : Option Value → aHp → Prop} {a0 a1 a2 : Option Value} {x : Int32} : WP E c 53 41 [a0, a1, a2] (.int x :: st) ah Q = WP E c 53 42 [a0, kil a1, some (.int x)] (st) ah Q := wp_s i53_41 rfl rfl rfl rfl
theorem i53_42 : insAt 53 42 = some (.aload 0, 43) := by decide +kernel
theorem r53_42 {E : aEnv} {c : Nat} {ah : aHp} {st : List Value} {Q : Option Value → aHp → Prop} {a1 a2 : Option Value} {x : Nat} : WP E c 53 42 [some (.ref x), a1, a2] (st) ah Q = WP E c 53 43 [some (.ref x), a1, a2] (.ref x :: st) ah Q := wp_s i53_42 rfl rfl rfl rfl
theorem i53_43 : insAt 53 43 = some (.getfield 2062, 46) := by decide +kernel
theorem r53_43 {E : aEnv} {c : Nat} {ah : aHp} {st : List Value} {Q : Option Value → aHp → Prop} {a0 a1 a2 : Option Value} {a : Nat} : WP E c 53 43 [a0, a1, a2] (.ref a :: st) ah Q = WPo (oGF (hg E ah a) 2 6) (fun v => WP E c 53 46 [a0, a1, a2] (v :: st) ah Q) := wp_getf i53_43
theorem i53_46 : insAt 53 46 = some (.iload 2, 47) := by decide +kernel
theorem r53_46 {E : aEnv} {c : Nat} {ah : aHp} {st : List Value} {Q : Option Value → aHp → Prop} {a0 a1 : Option Value} {x : Int32} : WP E c 53 46 [a0, a1, some (.int x)] (st) ah Q = WP E c 53 47 [a0, a1, some (.int x)] (.int x :: st) ah Q := wp_s i53_46 rfl rfl rfl rfl
theorem i53_47 : insAt 53 47 = some (.iconst 0, 48) := by decide +kernel
theorem r53_47 {E : aEnv} {c : Nat} {ah : aHp} {st : List Value} {Q : Option Value → aHp → Prop} {a0 a1 a2 : Option Value} : WP E c 53 47 [a0, a1, a2] (st) ah Q = WP E c 53 48 [a0, a1, a2] (.int (0) :: st) ah Q := wp_s i53_47 rfl rfl rfl rfl
theorem i53_48 : insAt 53 48 = some (.iastore, 49) := by decide +kernel
theorem r53_48 {E : aEnv} {c : Nat} {ah : aHp} {st : List Value} {Q : Option Value → aHp → Prop} {a0 a1 a2 : Option Value} {x : Int32} {i : Int32} {a : Nat} : WP E c 53 48 [a0, a1, a2] (.int x :: .int i :: .ref a :: st) ah Q = WPo (pI E ah (.int x :: .int i :: .ref a :: st)) (fun q9 => WP E c 53 49 [a0, a1, a2] q9.1 q9.2 Q) := wp_hw i53_48 rfl rfl rfl rfl rfl rfl rfl rfl
theorem i53_49 : insAt 53 49 = some (.aload 0, 50) := by decide +kernel
theorem r53_49 {E : aEnv} {c : Nat} {ah : aHp} {st : List Value} {Q : Option Value → aHp → Prop} {a1 a2 : Option Value} {x : Nat} : WP E c 53 49 [some (.ref x), a1, a2] (st) ah Q = WP E c 53 50 [some (.ref x), a1, a2] (.ref x :: st) ah Q := wp_s i53_49 rfl rfl rfl rfl
theorem i53_50 : insAt 53 50 = some (.getfield 2122, 53) := by decide +kernel
theorem r53_50 {E : aEnv} {c : Nat} {ah : aHp} {st : List Value} {Q : Option Value → aHp → Prop} {a0 a1 a2 : Option Value} {a : Nat} : WP E c 53 50 [a0, a1, a2] (.ref a :: st) ah Q = WPo (oGF (hg E ah a) 2 12) (fun v => WP E c 53 53 [a0, a1, a2] (v :: st) ah Q) := wp_getf i53_50
theorem i53_53 : insAt 53 53 = some (.iload 1, 54) := by decide +kernel
theorem r53_53 {E : aEnv} {c : Nat} {ah : aHp} {st : List Value} {Q : Option Value → aHp → Prop} {a0 a2 : Option Value} {x : Int32} : WP E c 53 53 [a0, some (.int x), a2] (st) ah Q = WP E c 53 54 [a0, some (.int x), a2] (.int x :: st) ah Q := wp_s i53_53 rfl rfl rfl rfl
theorem i53_54 : insAt 53 54 = some (.iaload, 55) := by decide +kernel
theorem r53_54 {E : aEnv} {c : Nat} {ah : aHp} {st : List Value} {Q : Option Value → aHp → Prop} {a0 a1 a2 : Option Value} {i : Int32} {a : Nat} : WP E c 53 54 [a0, a1, a2] (.int i :: .ref a :: st) ah Q = WPo (gI E ah (.int i :: .ref a :: st)) (fun s9 => WP E c 53 55 [a0, a1, a2] s9 ah Q) := wp_hr i53_54 rfl rfl rfl rfl rfl rfl rfl rfl
theorem i53_55 : insAt 53 55 = some (.ifCond .ne 97, 58) := by decide +kernel
theorem r53_55 {E : aEnv} {c : Nat} {ah : aHp} {st : List Value} {Q : Option Value → aHp → Prop} {a0 a1 a2 : Option Value} {x : Int32} : WP E c 53 55 [a0, a1, a2] (.int x :: st) ah Q = if ¬ x = 0 then WP E c 53 97 [a0, a1, a2] st ah Q else WP E c 53 58 [a0, a1, a2] st ah Q := wp_j i53_55 rfl rfl rfl rfl
theorem i53_58 : insAt 53 58 = some (.aload 0, 59) := by decide +kernel
theorem r53_58 {E : aEnv} {c : Nat} {ah : aHp} {st : List Value} {Q : Option Value → aHp → Prop} {a1 a2 : Option Value} {x : Nat} : WP E c 53 58 [some (.ref x), a1, a2] (st) ah Q = WP E c 53 59 [some (.ref x), a1, a2] (.ref x :: st) ah Q := wp_s i53_58 rfl rfl rfl rfl
theorem i53_59 : insAt 53 59 = some (.getfield 2052, 62) := by decide +kernel
theorem r53_59 {E : aEnv} {c : Nat} {ah : aHp} {st : List Value} {Q : Option Value → aHp → Prop} {a0 a1 a2 : Option Value} {a : Nat} : WP E c 53 59 [a0, a1, a2] (.ref a :: st) ah Q = WPo (oGF (hg E ah a) 2 5) (fun v => WP E c 53 62 [a0, a1, a2] (v :: st) ah Q) := wp_getf i53_59
theorem i53_62 : insAt 53 62 = some (.iload 2, 63) := by decide +kernel
theorem r53_62 {E : aEnv} {c : Nat} {ah : aHp} {st : List Value} {Q : Option Value → aHp → Prop} {a0 a1 : Option Value} {x : Int32} : WP E c 53 62 [a0, a1, some (.int x)] (st) ah Q = WP E c 53 63 [a0, a1, some (.int x)] (.int x :: st) ah Q := wp_s i53_62 rfl rfl rfl rfl
theorem i53_63 : insAt 53 63 = some (.aload 0, 64) := by decide +kernel
theorem r53_63 {E : aEnv} {c : Nat} {ah : aHp} {st : List Value} {Q : Option Value → aHp → Prop} {a1 a2 : Option Value} {x : Nat} : WP E c 53 63 [some (.ref x), a1, a2] (st) ah Q = WP E c 53 64 [some (.ref x), a1, a2] (.ref x :: st) ah Q := wp_s i53_63 rfl rfl rfl rfl
theorem i53_64 : insAt 53 64 = some (.getfield 2052, 67) := by decide +kernel
theorem r53_64 {E : aEnv} {c : Nat} {ah : aHp} {st : List Value} {Q : Option Value → aHp → Prop} {a0 a1 a2 : Option Value} {a : Nat} : WP E c 53 64 [a0, a1, a2] (.ref a :: st) ah Q = WPo (oGF (hg E ah a) 2 5) (fun v => WP E c 53 67 [a0, a1, a2] (v :: st) ah Q) := wp_getf i53_64
theorem i53_67 : insAt 53 67 = some (.iload 2, 68) := by decide +kernel
theorem r53_67 {E : aEnv} {c : Nat} {ah : aHp} {st : List Value} {Q : Option Value → aHp → Prop} {a0 a1 : Option Value} {x : Int32} : WP E c 53 67 [a0, a1, some (.int x)] (st) ah Q = WP E c 53 68 [a0, a1, some (.int x)] (.int x :: st) ah Q := wp_s i53_67 rfl rfl rfl rfl
theorem i53_68 : insAt 53 68 = some (.iaload, 69) := by decide +kernel
theorem r53_68 {E : aEnv} {c : Nat} {ah : aHp} {st : List Value} {Q : Option Value → aHp → Prop} {a0 a1 a2 : Option Value} {i : Int32} {a : Nat} : WP E c 53 68 [a0, a1, a2] (.int i :: .ref a :: st) ah Q = WPo (gI E ah (.int i :: .ref a :: st)) (fun s9 => WP E c 53 69 [a0, a1, a2] s9 ah Q) := wp_hr i53_68 rfl rfl rfl rfl rfl rfl rfl rfl
theorem i53_69 : insAt 53 69 = some (.ifCond .ne 88, 72) := by decide +kernel
theorem r53_69 {E : aEnv} {c : Nat} {ah : aHp} {st : List Value} {Q : Option Value → aHp → Prop} {a0 a1 a2 : Option Value} {x : Int32} : WP E c 53 69 [a0, a1, a2] (.int x :: st) ah Q = if ¬ x = 0 then WP E c 53 88 [a0, a1, a2] st ah Q else WP E c 53 72 [a0, a1, a2] st ah Q := wp_j i53_69 rfl rfl rfl rfl
theorem i53_72 : insAt 53 72 = some (.aload 0, 73) := by decide +kernel
theorem r53_72 {E : aEnv} {c : Nat} {ah : aHp} {st : List Value} {Q : Option Value → aHp → Prop} {a1 a2 : Option Value} {x : Nat} : WP E c 53 72 [some (.ref x), a1, a2] (st) ah Q = WP E c 53 73 [some (.ref x), a1, a2] (.ref x :: st) ah Q := wp_s i53_72 rfl rfl rfl rfl
theorem i53_73 : insAt 53 73 = some (.getfield 2022, 76) := by decide +kernel
theorem r53_73 {E : aEnv} {c : Nat} {ah : aHp} {st : List Value} {Q : Option Value → aHp → Prop} {a0 a1 a2 : Option Value} {a : Nat} : WP E c 53 73 [a0, a1, a2] (.ref a :: st) ah Q = WPo (oGF (hg E ah a) 2 2) (fun v => WP E c 53 76 [a0, a1, a2] (v :: st) ah Q) := wp_getf i53_73
theorem i53_76 : insAt 53 76 = some (.aload 0, 77) := by decide +kernel
theorem r53_76 {E : aEnv} {c : Nat} {ah : aHp} {st : List Value} {Q : Option Value → aHp → Prop} {a1 a2 : Option Value} {x : Nat} : WP E c 53 76 [some (.ref x), a1, a2] (st) ah Q = WP E c 53 77 [some (.ref x), a1, a2] (.ref x :: st) ah Q := wp_s i53_76 rfl rfl rfl rfl
theorem i53_77 : insAt 53 77 = some (.getfield 2112, 80) := by decide +kernel
theorem r53_77 {E : aEnv} {c : Nat} {ah : aHp} {st : List Value} {Q : Option Value → aHp → Prop} {a0 a1 a2 : Option Value} {a : Nat} : WP E c 53 77 [a0, a1, a2] (.ref a :: st) ah Q = WPo (oGF (hg E ah a) 2 11) (fun v => WP E c 53 80 [a0, a1, a2] (v :: st) ah Q) := wp_getf i53_77
theorem i53_80 : insAt 53 80 = some (.iload 1, 81) := by decide +kernel
theorem r53_80 {E : aEnv} {c : Nat} {ah : aHp} {st : List Value} {Q : Option Value → aHp → Prop} {a0 a2 : Option Value} {x : Int32} : WP E c 53 80 [a0, some (.int x), a2] (st) ah Q = WP E c 53 81 [a0, some (.int x), a2] (.int x :: st) ah Q := wp_s i53_80 rfl rfl rfl rfl
theorem i53_81 : insAt 53 81 = some (.iaload, 82) := by decide +kernel
theorem r53_81 {E : aEnv} {c : Nat} {ah : aHp} {st : List Value} {Q : Option Value → aHp → Prop} {a0 a1 a2 : Option Value} {i : Int32} {a : Nat} : WP E c 53 81 [a0, a1, a2] (.int i :: .ref a :: st) ah Q = WPo (gI E ah (.int i :: .ref a :: st)) (fun s9 => WP E c 53 82 [a0, a1, a2] s9 ah Q) := wp_hr i53_81 rfl rfl rfl rfl rfl rfl rfl rfl
theorem i53_82 : insAt 53 82 = some (.iaload, 83) := by decide +kernel
theorem r53_82 {E : aEnv} {c : Nat} {ah : aHp} {st : List Value} {Q : Option Value → aHp → Prop} {a0 a1 a2 : Option Value} {i : Int32} {a : Nat} : WP E c 53 82 [a0, a1, a2] (.int i :: .ref a :: st) ah Q = WPo (gI E ah (.int i :: .ref a :: st)) (fun s9 => WP E c 53 83 [a0, a1, a2] s9 ah Q) := wp_hr i53_82 rfl rfl rfl rfl rfl rfl rfl rfl
theorem i53_83 : insAt 53 83 = some (.iconst 1, 84) := by decide +kernel
theorem r53_83 {E : aEnv} {c : Nat} {ah : aHp} {st : List Value} {Q : Option Value → aHp → Prop} {a0 a1 a2 : Option Value} : WP E c 53 83 [a0, a1, a2] (st) ah Q = WP E c 53 84 [a0, a1, a2] (.int (1) :: st) ah Q := wp_s i53_83 rfl rfl rfl rfl
theorem i53_84 : insAt 53 84 = some (.isub, 85) := by decide +kernel
theorem r53_84 {E : aEnv} {c : Nat} {ah : aHp} {st : List Value} {Q : Option Value → aHp → Prop} {a0 a1 a2 : Option Value} {x y : Int32} : WP E c 53 84 [a0, a1, a2] (.int y :: .int x :: st) ah Q = WP E c 53 85 [a0, a1, a2] (.int (x - y) :: st) ah Q := wp_s i53_84 rfl rfl rfl rfl
theorem i53_85 : insAt 53 85 = some (.goto 96, 88) := by decide +kernel
theorem r53_85 {E : aEnv} {c : Nat} {ah : aHp} {st : List Value} {Q : Option Value → aHp → Prop} {a0 a1 a2 : Option Value} : WP E c 53 85 [a0, a1, a2] (st) ah Q = WP E c 53 96 [a0, a1, a2] st ah Q := wp_s i53_85 rfl rfl rfl rfl
theorem i53_88 : insAt 53 88 = some (.aload 0, 89) := by decide +kernel
theorem r53_88 {E : aEnv} {c : Nat} {ah : aHp} {st : List Value} {Q : Option Value → aHp → Prop} {a1 a2 : Option Value} {x : Nat} : WP E c 53 88 [some (.ref x), a1, a2] (st) ah Q = WP E c 53 89 [some (.ref x), a1, a2] (.ref x :: st) ah Q := wp_s i53_88 rfl rfl rfl rfl
theorem i53_89 : insAt 53 89 = some (.getfield 2052, 92) := by decide +kernel
theorem r53_89 {E : aEnv} {c : Nat} {ah : aHp} {st : List Value} {Q : Option Value → aHp → Prop} {a0 a1 a2 : Option Value} {a : Nat} : WP E c 53 89 [a0, a1, a2] (.ref a :: st) ah Q = WPo (oGF (hg E ah a) 2 5) (fun v => WP E c 53 92 [a0, a1, a2] (v :: st) ah Q) := wp_getf i53_89
theorem i53_92 : insAt 53 92 = some (.iload 2, 93) := by decide +kernel
theorem r53_92 {E : aEnv} {c : Nat} {ah : aHp} {st : List Value} {Q : Option Value → aHp → Prop} {a0 a1 : Option Value} {x : Int32} : WP E c 53 92 [a0, a1, some (.int x)] (st) ah Q = WP E c 53 93 [a0, a1, some (.int x)] (.int x :: st) ah Q := wp_s i53_92 rfl rfl rfl rfl
theorem i53_93 : insAt 53 93 = some (.iaload, 94) := by decide +kernel
theorem r53_93 {E : aEnv} {c : Nat} {ah : aHp} {st : List Value} {Q : Option Value → aHp → Prop} {a0 a1 a2 : Option Value} {i : Int32} {a : Nat} : WP E c 53 93 [a0, a1, a2] (.int i :: .ref a :: st) ah Q = WPo (gI E ah (.int i :: .ref a :: st)) (fun s9 => WP E c 53 94 [a0, a1, a2] s9 ah Q) := wp_hr i53_93 rfl rfl rfl rfl rfl rfl rfl rfl
theorem i53_94 : insAt 53 94 = some (.iconst 1, 95) := by decide +kernel
theorem r53_94 {E : aEnv} {c : Nat} {ah : aHp} {st : List Value} {Q : Option Value → aHp → Prop} {a0 a1 a2 : Option Value} : WP E c 53 94 [a0, a1, a2] (st) ah Q = WP E c 53 95 [a0, a1, a2] (.int (1) :: st) ah Q := wp_s i53_94 rfl rfl rfl rfl
theorem i53_95 : insAt 53 95 = some (.isub, 96) := by decide +kernel
theorem r53_95 {E : aEnv} {c : Nat} {ah : aHp} {st : List Value} {Q : Option Value → aHp → Prop} {a0 a1 a2 : Option Value} {x y : Int32} : WP E c 53 95 [a0, a1, a2] (.int y :: .int x :: st) ah Q = WP E c 53 96 [a0, a1, a2] (.int (x - y) :: st) ah Q := wp_s i53_95 rfl rfl rfl rfl
theorem i53_96 : insAt 53 96 = some (.iastore, 97) := by decide +kernel
theorem r53_96 {E : aEnv} {c : Nat} {ah : aHp} {st : List Value} {Q : Option Value → aHp → Prop} {a0 a1 a2 : Option Value} {x : Int32} {i : Int32} {a : Nat} : WP E c 53 96 [a0, a1, a2] (.int x :: .int i :: .ref a :: st) ah Q = WPo (pI E ah (.int x :: .int i :: .ref a :: st)) (fun q9 => WP E c 53 97 [a0, a1, a2] q9.1 q9.2 Q) := wp_hw i53_96 rfl rfl rfl rfl rfl rfl rfl rfl
theorem i53_97 : insAt 53 97 = some (.iinc 1 1, 100) := by decide +kernel
theorem r53_97 {E : aEnv} {c : Nat} {ah : aHp} {st : List Value} {Q : Option Value → aHp → Prop} {a0 a2 : Option Value} {x : Int32} : WP E c 53 97 [a0, some (.int x), a2] (st) ah Q = WP E c 53 100 [kil a0, some (.int (x + 1)), a2] (st) ah Q := wp_s i53_97 rfl rfl rfl rfl
theorem i53_100 : insAt 53 100 = some (.goto 2, 103) := by decide +kernel
theorem r53_100 {E : aEnv} {c : Nat} {ah : aHp} {st : List Value} {Q : Option Value → aHp → Prop} {a0 a1 a2 : Option Value} : WP E c 53 100 [a0, a1, a2] (st) ah Q = WP E c 53 2 [a0, a1, a2] st ah Q := wp_s i53_100 rfl rfl rfl rfl
theorem i53_103 : insAt 53 103 = some (.return_, 104) := by decide +kernel
theorem r53_103 {E : aEnv} {c : Nat} {ah : aHp} {Q : Option Value → aHp → Prop} {a0 a1 a2 : Option Value} : WP E c 53 103 [a0, a1, a2] ([]) ah Q = Q none ah := wp_rt i53_103 rfl
