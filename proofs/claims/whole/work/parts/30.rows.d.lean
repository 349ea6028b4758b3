/-! rows of the code, by program (genrows.py) -/
theorem e87 {E : aEnv} {c : Nat} {ah ahF : aHp} {r : Option Value} {p0 : Nat} (h : WP E c 87 0 [some (.ref p0)] [] ah (fun r1 x1 => r1 = r ∧ x1 = ahF)) : EV E c 87 [.ref p0] ah r ahF := EV.of (by rw [mr87.2.1]; exact h)
theorem i87_0 : insAt 87 0 = some (.aload 0, 1) := by decide +kernel
theorem r87_0 {E : aEnv} {c : Nat} {ah : aHp} {st : List Value} {Q : Option Value → aHp → Prop} {x : Nat} : WP E c 87 0 [some (.ref x)] (st) ah Q = WP E c 87 1 [some (.ref x)] (.ref x :: st) ah Q := wp_s i87_0 rfl rfl rfl rfl
theorem i87_1 : insAt 87 1 = some (.ldc_w 4, 4) := by decide +kernel
-- 87 1 .ldc_w 4
theorem i87_4 : insAt 87 4 = some (.aload 0, 5) := by decide +kernel
theorem r87_4 {E : aEnv} {c : Nat} {ah : aHp} {st : List Value} {Q : Option Value → aHp → Prop} {x : Nat} : WP E c 87 4 [some (.ref x)] (st) ah Q = WP E c 87 5 [some (.ref x)] (.ref x :: st) ah Q := wp_s i87_4 rfl rfl rfl rfl
theorem i87_5 : insAt 87 5 = some (.iconst 7, 7) := by decide +kernel
theorem r87_5 {E : aEnv} {c : Nat} {ah : aHp} {st : List Value} {Q : Option Value → aHp → Prop} {a0 : Option Value} : WP E c 87 5 [a0] (st) ah Q = WP E c 87 7 [a0] (.int (7) :: st) ah Q := wp_s i87_5 rfl rfl rfl rfl
theorem i87_7 : insAt 87 7 = some (.newarray .int, 9) := by decide +kernel
theorem r87_7 {E : aEnv} {c : Nat} {ah : aHp} {st : List Value} {Q : Option Value → aHp → Prop} {a0 : Option Value} {x : Int32} : WP E c 87 7 [a0] (.int x :: st) ah Q = WPo (nR E ah 0 (.int x :: st)) (fun q9 => WP E c 87 9 [a0] q9.1 q9.2 Q) := wp_hw i87_7 rfl rfl rfl rfl rfl rfl rfl rfl
theorem i87_9 : insAt 87 9 = some (.putfield 6002, 12) := by decide +kernel
theorem r87_9 {E : aEnv} {c : Nat} {ah : aHp} {st : List Value} {Q : Option Value → aHp → Prop} {a0 : Option Value} {a : Nat} {v : Value} : WP E c 87 9 [a0] (v :: .ref a :: st) ah Q = WPo (oPF (hg E ah a) 6002 v) (fun e => WP E c 87 12 [a0] st (hs E ah a e) Q) := wp_putf i87_9
theorem i87_12 : insAt 87 12 = some (.aload 0, 13) := by decide +kernel
theorem r87_12 {E : aEnv} {c : Nat} {ah : aHp} {st : List Value} {Q : Option Value → aHp → Prop} {x : Nat} : WP E c 87 12 [some (.ref x)] (st) ah Q = WP E c 87 13 [some (.ref x)] (.ref x :: st) ah Q := wp_s i87_12 rfl rfl rfl rfl
theorem i87_13 : insAt 87 13 = some (.iconst 7, 15) := by decide +kernel
theorem r87_13 {E : aEnv} {c : Nat} {ah : aHp} {st : List Value} {Q : Option Value → aHp → Prop} {a0 : Option Value} : WP E c 87 13 [a0] (st) ah Q = WP E c 87 15 [a0] (.int (7) :: st) ah Q := wp_s i87_13 rfl rfl rfl rfl
theorem i87_15 : insAt 87 15 = some (.newarray .int, 17) := by decide +kernel
theorem r87_15 {E : aEnv} {c : Nat} {ah : aHp} {st : List Value} {Q : Option Value → aHp → Prop} {a0 : Option Value} {x : Int32} : WP E c 87 15 [a0] (.int x :: st) ah Q = WPo (nR E ah 0 (.int x :: st)) (fun q9 => WP E c 87 17 [a0] q9.1 q9.2 Q) := wp_hw i87_15 rfl rfl rfl rfl rfl rfl rfl rfl
theorem i87_17 : insAt 87 17 = some (.putfield 6012, 20) := by decide +kernel
theorem r87_17 {E : aEnv} {c : Nat} {ah : aHp} {st : List Value} {Q : Option Value → aHp → Prop} {a0 : Option Value} {a : Nat} {v : Value} : WP E c 87 17 [a0] (v :: .ref a :: st) ah Q = WPo (oPF (hg E ah a) 6012 v) (fun e => WP E c 87 20 [a0] st (hs E ah a e) Q) := wp_putf i87_17
theorem i87_20 : insAt 87 20 = some (.aload 0, 21) := by decide +kernel
theorem r87_20 {E : aEnv} {c : Nat} {ah : aHp} {st : List Value} {Q : Option Value → aHp → Prop} {x : Nat} : WP E c 87 20 [some (.ref x)] (st) ah Q = WP E c 87 21 [some (.ref x)] (.ref x :: st) ah Q := wp_s i87_20 rfl rfl rfl rfl
theorem i87_21 : insAt 87 21 = some (.iconst 7, 23) := by decide +kernel
theorem r87_21 {E : aEnv} {c : Nat} {ah : aHp} {st : List Value} {Q : Option Value → aHp → Prop} {a0 : Option Value} : WP E c 87 21 [a0] (st) ah Q = WP E c 87 23 [a0] (.int (7) :: st) ah Q := wp_s i87_21 rfl rfl rfl rfl
theorem i87_23 : insAt 87 23 = some (.newarray .int, 25) := by decide +kernel
theorem r87_23 {E : aEnv} {c : Nat} {ah : aHp} {st : List Value} {Q : Option Value → aHp → Prop} {a0 : Option Value} {x : Int32} : WP E c 87 23 [a0] (.int x :: st) ah Q = WPo (nR E ah 0 (.int x :: st)) (fun q9 => WP E c 87 25 [a0] q9.1 q9.2 Q) := wp_hw i87_23 rfl rfl rfl rfl rfl rfl rfl rfl
theorem i87_25 : insAt 87 25 = some (.putfield 6022, 28) := by decide +kernel
theorem r87_25 {E : aEnv} {c : Nat} {ah : aHp} {st : List Value} {Q : Option Value → aHp → Prop} {a0 : Option Value} {a : Nat} {v : Value} : WP E c 87 25 [a0] (v :: .ref a :: st) ah Q = WPo (oPF (hg E ah a) 6022 v) (fun e => WP E c 87 28 [a0] st (hs E ah a e) Q) := wp_putf i87_25
theorem i87_28 : insAt 87 28 = some (.aload 0, 29) := by decide +kernel
theorem r87_28 {E : aEnv} {c : Nat} {ah : aHp} {st : List Value} {Q : Option Value → aHp → Prop} {x : Nat} : WP E c 87 28 [some (.ref x)] (st) ah Q = WP E c 87 29 [some (.ref x)] (.ref x :: st) ah Q := wp_s i87_28 rfl rfl rfl rfl
theorem i87_29 : insAt 87 29 = some (.iconst 7, 31) := by decide +kernel
theorem r87_29 {E : aEnv} {c : Nat} {ah : aHp} {st : List Value} {Q : Option Value → aHp → Prop} {a0 : Option Value} : WP E c 87 29 [a0] (st) ah Q = WP E c 87 31 [a0] (.int (7) :: st) ah Q := wp_s i87_29 rfl rfl rfl rfl
theorem i87_31 : insAt 87 31 = some (.newarray .int, 33) := by decide +kernel
theorem r87_31 {E : aEnv} {c : Nat} {ah : aHp} {st : List Value} {Q : Option Value → aHp → Prop} {a0 : Option Value} {x : Int32} : WP E c 87 31 [a0] (.int x :: st) ah Q = WPo (nR E ah 0 (.int x :: st)) (fun q9 => WP E c 87 33 [a0] q9.1 q9.2 Q) := wp_hw i87_31 rfl rfl rfl rfl rfl rfl rfl rfl
theorem i87_33 : insAt 87 33 = some (.putfield 6032, 36) := by decide +kernel
theorem r87_33 {E : aEnv} {c : Nat} {ah : aHp} {st : List Value} {Q : Option Value → aHp → Prop} {a0 : Option Value} {a : Nat} {v : Value} : WP E c 87 33 [a0] (v :: .ref a :: st) ah Q = WPo (oPF (hg E ah a) 6032 v) (fun e => WP E c 87 36 [a0] st (hs E ah a e) Q) := wp_putf i87_33
theorem i87_36 : insAt 87 36 = some (.aload 0, 37) := by decide +kernel
theorem r87_36 {E : aEnv} {c : Nat} {ah : aHp} {st : List Value} {Q : Option Value → aHp → Prop} {x : Nat} : WP E c 87 36 [some (.ref x)] (st) ah Q = WP E c 87 37 [some (.ref x)] (.ref x :: st) ah Q := wp_s i87_36 rfl rfl rfl rfl
theorem i87_37 : insAt 87 37 = some (.iconst 7, 39) := by decide +kernel
theorem r87_37 {E : aEnv} {c : Nat} {ah : aHp} {st : List Value} {Q : Option Value → aHp → Prop} {a0 : Option Value} : WP E c 87 37 [a0] (st) ah Q = WP E c 87 39 [a0] (.int (7) :: st) ah Q := wp_s i87_37 rfl rfl rfl rfl
theorem i87_39 : insAt 87 39 = some (.newarray .int, 41) := by decide +kernel
theorem r87_39 {E : aEnv} {c : Nat} {ah : aHp} {st : List Value} {Q : Option Value → aHp → Prop} {a0 : Option Value} {x : Int32} : WP E c 87 39 [a0] (.int x :: st) ah Q = WPo (nR E ah 0 (.int x :: st)) (fun q9 => WP E c 87 41 [a0] q9.1 q9.2 Q) := wp_hw i87_39 rfl rfl rfl rfl rfl rfl rfl rfl
theorem i87_41 : insAt 87 41 = some (.putfield 6042, 44) := by decide +kernel
theorem r87_41 {E : aEnv} {c : Nat} {ah : aHp} {st : List Value} {Q : Option Value → aHp → Prop} {a0 : Option Value} {a : Nat} {v : Value} : WP E c 87 41 [a0] (v :: .ref a :: st) ah Q = WPo (oPF (hg E ah a) 6042 v) (fun e => WP E c 87 44 [a0] st (hs E ah a e) Q) := wp_putf i87_41
theorem i87_44 : insAt 87 44 = some (.aload 0, 45) := by decide +kernel
theorem r87_44 {E : aEnv} {c : Nat} {ah : aHp} {st : List Value} {Q : Option Value → aHp → Prop} {x : Nat} : WP E c 87 44 [some (.ref x)] (st) ah Q = WP E c 87 45 [some (.ref x)] (.ref x :: st) ah Q := wp_s i87_44 rfl rfl rfl rfl
theorem i87_45 : insAt 87 45 = some (.iconst 4, 46) := by decide +kernel
theorem r87_45 {E : aEnv} {c : Nat} {ah : aHp} {st : List Value} {Q : Option Value → aHp → Prop} {a0 : Option Value} : WP E c 87 45 [a0] (st) ah Q = WP E c 87 46 [a0] (.int (4) :: st) ah Q := wp_s i87_45 rfl rfl rfl rfl
theorem i87_46 : insAt 87 46 = some (.newarray .int, 48) := by decide +kernel
theorem r87_46 {E : aEnv} {c : Nat} {ah : aHp} {st : List Value} {Q : Option Value → aHp → Prop} {a0 : Option Value} {x : Int32} : WP E c 87 46 [a0] (.int x :: st) ah Q = WPo (nR E ah 0 (.int x :: st)) (fun q9 => WP E c 87 48 [a0] q9.1 q9.2 Q) := wp_hw i87_46 rfl rfl rfl rfl rfl rfl rfl rfl
theorem i87_48 : insAt 87 48 = some (.putfield 6052, 51) := by decide +kernel
theorem r87_48 {E : aEnv} {c : Nat} {ah : aHp} {st : List Value} {Q : Option Value → aHp → Prop} {a0 : Option Value} {a : Nat} {v : Value} : WP E c 87 48 [a0] (v :: .ref a :: st) ah Q = WPo (oPF (hg E ah a) 6052 v) (fun e => WP E c 87 51 [a0] st (hs E ah a e) Q) := wp_putf i87_48
theorem i87_51 : insAt 87 51 = some (.return_, 52) := by decide +kernel
theorem r87_51 {E : aEnv} {c : Nat} {ah : aHp} {Q : Option Value → aHp → Prop} {a0 : Option Value} : WP E c 87 51 [a0] ([]) ah Q = Q none ah := wp_rt i87_51 rfl
theorem e88 {E : aEnv} {c : Nat} {ah ahF : aHp} {r : Option Value} {p0 : Nat} (h : WP E c 88 0 [some (.ref p0)] [] ah (fun r1 x1 => r1 = r ∧ x1 = ahF)) : EV E c 88 [.ref p0] ah r ahF := EV.of (by rw [mr88.2.1]; exact h)
theorem i88_0 : insAt 88 0 = some (.aload 0, 1) := by decide +kernel
theorem r88_0 {E : aEnv} {c : Nat} {ah : aHp} {st : List Value} {Q : Option Value → aHp → Prop} {x : Nat} : WP E c 88 0 [some (.ref x)] (st) ah Q = WP E c 88 1 [some (.ref x)] (.ref x :: st) ah Q := wp_s i88_0 rfl rfl rfl rfl
theorem i88_1 : insAt 88 1 = some (.getfield 6060, 4) := by decide +kernel
theorem r88_1 {E : aEnv} {c : Nat} {ah : aHp} {st : List Value} {Q : Option Value → aHp → Prop} {a0 : Option Value} {a : Nat} : WP E c 88 1 [a0] (.ref a :: st) ah Q = WPo (oGF (hg E ah a) 6 6) (fun v => WP E c 88 4 [a0] (v :: st) ah Q) := wp_getf i88_1
theorem i88_4 : insAt 88 4 = some (.iconst 7, 6) := by decide +kernel
theorem r88_4 {E : aEnv} {c : Nat} {ah : aHp} {st : List Value} {Q : Option Value → aHp → Prop} {a0 : Option Value} : WP E c 88 4 [a0] (st) ah Q = WP E c 88 6 [a0] (.int (7) :: st) ah Q := wp_s i88_4 rfl rfl rfl rfl
theorem i88_6 : insAt 88 6 = some (.if_icmp .lt 13, 9) := by decide +kernel
theorem r88_6 {E : aEnv} {c : Nat} {ah : aHp} {st : List Value} {Q : Option Value → aHp → Prop} {a0 : Option Value} {x y : Int32} : WP E c 88 6 [a0] (.int y :: .int x :: st) ah Q = if x < y then WP E c 88 13 [a0] st ah Q else WP E c 88 9 [a0] st ah Q := wp_j i88_6 rfl rfl rfl rfl
theorem i88_9 : insAt 88 9 = some (.iconst 1, 10) := by decide +kernel
theorem r88_9 {E : aEnv} {c : Nat} {ah : aHp} {st : List Value} {Q : Option Value → aHp → Prop} {a0 : Option Value} : WP E c 88 9 [a0] (st) ah Q = WP E c 88 10 [a0] (.int (1) :: st) ah Q := wp_s i88_9 rfl rfl rfl rfl
theorem i88_10 : insAt 88 10 = some (.goto 14, 13) := by decide +kernel
theorem r88_10 {E : aEnv} {c : Nat} {ah : aHp} {st : List Value} {Q : Option Value → aHp → Prop} {a0 : Option Value} : WP E c 88 10 [a0] (st) ah Q = WP E c 88 14 [a0] st ah Q := wp_s i88_10 rfl rfl rfl rfl
theorem i88_13 : insAt 88 13 = some (.iconst 0, 14) := by decide +kernel
theorem r88_13 {E : aEnv} {c : Nat} {ah : aHp} {st : List Value} {Q : Option Value → aHp → Prop} {a0 : Option Value} : WP E c 88 13 [a0] (st) ah Q = WP E c 88 14 [a0] (.int (0) :: st) ah Q := wp_s i88_13 rfl rfl rfl rfl
theorem i88_14 : insAt 88 14 = some (.freturn, 15) := by decide +kernel
theorem r88_14 {E : aEnv} {c : Nat} {ah : aHp} {Q : Option Value → aHp → Prop} {a0 : Option Value} {x : Int32} (hx : x = 0 ∨ x = 1) : WP E c 88 14 [a0] ([.int x]) ah Q = Q (some (.int x)) ah := wp_rt i88_14 (by simp only [rtA, if_pos hx])
theorem e89 {E : aEnv} {c : Nat} {ah ahF : aHp} {r : Option Value} {p0 : Nat} {p1 : Int32} (h : WP E c 89 0 [some (.ref p0), some (.int p1)] [] ah (fun r1 x1 => r1 = r ∧ x1 = ahF)) : EV E c 89 [.ref p0, .int p1] ah r ahF := EV.of (by rw [mr89.2.1]; exact h)
theorem i89_0 : insAt 89 0 = some (.iload 1, 1) := by decide +kernel
theorem r89_0 {E : aEnv} {c : Nat} {ah : aHp} {st : List Value} {Q : Option Value → aHp → Prop} {a0 : Option Value} {x : Int32} : WP E c 89 0 [a0, some (.int x)] (st) ah Q = WP E c 89 1 [a0, some (.int x)] (.int x :: st) ah Q := wp_s i89_0 rfl rfl rfl rfl
theorem i89_1 : insAt 89 1 = some (.ifCond .lt 16, 4) := by decide +kernel
theorem r89_1 {E : aEnv} {c : Nat} {ah : aHp} {st : List Value} {Q : Option Value → aHp → Prop} {a0 a1 : Option Value} {x : Int32} : WP E c 89 1 [a0, a1] (.int x :: st) ah Q = if x < 0 then WP E c 89 16 [a0, a1] st ah Q else WP E c 89 4 [a0, a1] st ah Q := wp_j i89_1 rfl rfl rfl rfl
theorem i89_4 : insAt 89 4 = some (.iload 1, 5) := by decide +kernel
theorem r89_4 {E : aEnv} {c : Nat} {ah : aHp} {st : List Value} {Q : Option Value → aHp → Prop} {a0 : Option Value} {x : Int32} : WP E c 89 4 [a0, some (.int x)] (st) ah Q = WP E c 89 5 [a0, some (.int x)] (.int x :: st) ah Q := wp_s i89_4 rfl rfl rfl rfl
theorem i89_5 : insAt 89 5 = some (.aload 0, 6) := by decide +kernel
theorem r89_5 {E : aEnv} {c : Nat} {ah : aHp} {st : List Value} {Q : Option Value → aHp → Prop} {a1 : Option Value} {x : Nat} : WP E c 89 5 [some (.ref x), a1] (st) ah Q = WP E c 89 6 [some (.ref x), a1] (.ref x :: st) ah Q := wp_s i89_5 rfl rfl rfl rfl
theorem i89_6 : insAt 89 6 = some (.getfield 6060, 9) := by decide +kernel
theorem r89_6 {E : aEnv} {c : Nat} {ah : aHp} {st : List Value} {Q : Option Value → aHp → Prop} {a0 a1 : Option Value} {a : Nat} : WP E c 89 6 [a0, a1] (.ref a :: st) ah Q = WPo (oGF (hg E ah a) 6 6) (fun v => WP E c 89 9 [a0, a1] (v :: st) ah Q) := wp_getf i89_6
theorem i89_9 : insAt 89 9 = some (.if_icmp .ge 16, 12) := by decide +kernel
theorem r89_9 {E : aEnv} {c : Nat} {ah : aHp} {st : List Value} {Q : Option Value → aHp → Prop} {a0 a1 : Option Value} {x y : Int32} : WP E c 89 9 [a0, a1] (.int y :: .int x :: st) ah Q = if y ≤ x then WP E c 89 16 [a0, a1] st ah Q else WP E c 89 12 [a0, a1] st ah Q := wp_j i89_9 rfl rfl rfl rfl
theorem i89_12 : insAt 89 12 = some (.iconst 1, 13) := by decide +kernel
theorem r89_12 {E : aEnv} {c : Nat} {ah : aHp} {st : List Value} {Q : Option Value → aHp → Prop} {a0 a1 : Option Value} : WP E c 89 12 [a0, a1] (st) ah Q = WP E c 89 13 [a0, a1] (.int (1) :: st) ah Q := wp_s i89_12 rfl rfl rfl rfl
theorem i89_13 : insAt 89 13 = some (.goto 17, 16) := by decide +kernel
theorem r89_13 {E : aEnv} {c : Nat} {ah : aHp} {st : List Value} {Q : Option Value → aHp → Prop} {a0 a1 : Option Value} : WP E c 89 13 [a0, a1] (st) ah Q = WP E c 89 17 [a0, a1] st ah Q := wp_s i89_13 rfl rfl rfl rfl
theorem i89_16 : insAt 89 16 = some (.iconst 0, 17) := by decide +kernel
theorem r89_16 {E : aEnv} {c : Nat} {ah : aHp} {st : List Value} {Q : Option Value → aHp → Prop} {a0 a1 : Option Value} : WP E c 89 16 [a0, a1] (st) ah Q = WP E c 89 17 [a0, a1] (.int (0) :: st) ah Q := wp_s i89_16 rfl rfl rfl rfl
theorem i89_17 : insAt 89 17 = some (.freturn, 18) := by decide +kernel
theorem r89_17 {E : aEnv} {c : Nat} {ah : aHp} {Q : Option Value → aHp → Prop} {a0 a1 : Option Value} {x : Int32} (hx : x = 0 ∨ x = 1) : WP E c 89 17 [a0, a1] ([.int x]) ah Q = Q (some (.int x)) ah := wp_rt i89_17 (by simp only [rtA, if_pos hx])
theorem e90 {E : aEnv} {c : Nat} {ah ahF : aHp} {r : Option Value} {p0 : Nat} {p1 : Int32} {p2 : Int32} {p3 : Int32} (h : WP E c 90 0 [some (.ref p0), some (.int p1), some (.int p2), some (.int p3)] [] ah (fun r1 x1 => r1 = r ∧ x1 = ahF)) : EV E c 90 [.ref p0, .int p1, .int p2, .int p3] ah r ahF := EV.of (by rw [mr90.2.1]; exact h)
theorem i90_0 : insAt 90 0 = some (.aload 0, 1) := by decide +kernel
theorem r90_0 {E : aEnv} {c : Nat} {ah : aHp} {st : List Value} {Q : Option Value → aHp → Prop} {a1 a2 a3 : Option Value} {x : Nat} : WP E c 90 0 [some (.ref x), a1, a2, a3] (st) ah Q = WP E c 90 1 [some (.ref x), a1, a2, a3] (.ref x :: st) ah Q := wp_s i90_0 rfl rfl rfl rfl
theorem i90_1 : insAt 90 1 = some (.invokevirtual 88, 4) := by decide +kernel
theorem r90_1 {E : aEnv} {c : Nat} {ah ah1 : aHp} {r : Option Value} {st : List Value} {Q : Option Value → aHp → Prop} {a0 a1 a2 a3 : Option Value} {p0 : Nat} (h : EV E c 88 [.ref p0] ah r ah1) (h2 : oCI (hg E ah p0) = 6) (h3 : wds st ≤ 8) : WP E (c + 1) 90 1 [a0, a1, a2, a3] (.ref p0 :: st) ah Q = WP E (c + 1) 90 4 [a0, a1, a2, a3] (r.toList ++ st) ah1 Q := wp_call (As := [.ref p0]) i90_1 (fun _ => rfl) rfl mr88.1 (rcv_1 h2 mr88.2.2 (by decide)) h3 (by rw [mr88.2.1]; exact Nat.le_of_ble_eq_true rfl) h
theorem i90_4 : insAt 90 4 = some (.ifCond .eq 9, 7) := by decide +kernel
theorem r90_4 {E : aEnv} {c : Nat} {ah : aHp} {st : List Value} {Q : Option Value → aHp → Prop} {a0 a1 a2 a3 : Option Value} {x : Int32} : WP E c 90 4 [a0, a1, a2, a3] (.int x :: st) ah Q = if x = 0 then WP E c 90 9 [a0, a1, a2, a3] st ah Q else WP E c 90 7 [a0, a1, a2, a3] st ah Q := wp_j i90_4 rfl rfl rfl rfl
theorem i90_7 : insAt 90 7 = some (.iconst (-1), 8) := by decide +kernel
theorem r90_7 {E : aEnv} {c : Nat} {ah : aHp} {st : List Value} {Q : Option Value → aHp → Prop} {a0 a1 a2 a3 : Option Value} : WP E c 90 7 [a0, a1, a2, a3] (st) ah Q = WP E c 90 8 [a0, a1, a2, a3] (.int ((-1)) :: st) ah Q := wp_s i90_7 rfl rfl rfl rfl
theorem i90_8 : insAt 90 8 = some (.ireturn, 9) := by decide +kernel
theorem r90_8 {E : aEnv} {c : Nat} {ah : aHp} {Q : Option Value → aHp → Prop} {a0 a1 a2 a3 : Option Value} {x : Int32} : WP E c 90 8 [a0, a1, a2, a3] ([.int x]) ah Q = Q (some (.int x)) ah := wp_rt i90_8 rfl
theorem i90_9 : insAt 90 9 = some (.aload 0, 10) := by decide +kernel
theorem r90_9 {E : aEnv} {c : Nat} {ah : aHp} {st : List Value} {Q : Option Value → aHp → Prop} {a1 a2 a3 : Option Value} {x : Nat} : WP E c 90 9 [some (.ref x), a1, a2, a3] (st) ah Q = WP E c 90 10 [some (.ref x), a1, a2, a3] (.ref x :: st) ah Q := wp_s i90_9 rfl rfl rfl rfl
theorem i90_10 : insAt 90 10 = some (.getfield 6002, 13) := by decide +kernel
theorem r90_10 {E : aEnv} {c : Nat} {ah : aHp} {st : List Value} {Q : Option Value → aHp → Prop} {a0 a1 a2 a3 : Option Value} {a : Nat} : WP E c 90 10 [a0, a1, a2, a3] (.ref a :: st) ah Q = WPo (oGF (hg E ah a) 6 0) (fun v => WP E c 90 13 [a0, a1, a2, a3] (v :: st) ah Q) := wp_getf i90_10
theorem i90_13 : insAt 90 13 = some (.aload 0, 14) := by decide +kernel
theorem r90_13 {E : aEnv} {c : Nat} {ah : aHp} {st : List Value} {Q : Option Value → aHp → Prop} {a1 a2 a3 : Option Value} {x : Nat} : WP E c 90 13 [some (.ref x), a1, a2, a3] (st) ah Q = WP E c 90 14 [some (.ref x), a1, a2, a3] (.ref x :: st) ah Q := wp_s i90_13 rfl rfl rfl rfl
theorem i90_14 : insAt 90 14 = some (.getfield 6060, 17) := by decide +kernel
theorem r90_14 {E : aEnv} {c : Nat} {ah : aHp} {st : List Value} {Q : Option Value → aHp → Prop} {a0 a1 a2 a3 : Option Value} {a : Nat} : WP E c 90 14 [a0, a1, a2, a3] (.ref a :: st) ah Q = WPo (oGF (hg E ah a) 6 6) (fun v => WP E c 90 17 [a0, a1, a2, a3] (v :: st) ah Q) := wp_getf i90_14
theorem i90_17 : insAt 90 17 = some (.iload 1, 18) := by decide +kernel
theorem r90_17 {E : aEnv} {c : Nat} {ah : aHp} {st : List Value} {Q : Option Value → aHp → Prop} {a0 a2 a3 : Option Value} {x : Int32} : WP E c 90 17 [a0, some (.int x), a2, a3] (st) ah Q = WP E c 90 18 [a0, some (.int x), a2, a3] (.int x :: st) ah Q := wp_s i90_17 rfl rfl rfl rfl
theorem i90_18 : insAt 90 18 = some (.iastore, 19) := by decide +kernel
theorem r90_18 {E : aEnv} {c : Nat} {ah : aHp} {st : List Value} {Q : Option Value → aHp → Prop} {a0 a1 a2 a3 : Option Value} {x : Int32} {i : Int32} {a : Nat} : WP E c 90 18 [a0, a1, a2, a3] (.int x :: .int i :: .ref a :: st) ah Q = WPo (pI E ah (.int x :: .int i :: .ref a :: st)) (fun q9 => WP E c 90 19 [a0, a1, a2, a3] q9.1 q9.2 Q) := wp_hw i90_18 rfl rfl rfl rfl rfl rfl rfl rfl
theorem i90_19 : insAt 90 19 = some (.aload 0, 20) := by decide +kernel
theorem r90_19 {E : aEnv} {c : Nat} {ah : aHp} {st : List Value} {Q : Option Value → aHp → Prop} {a1 a2 a3 : Option Value} {x : Nat} : WP E c 90 19 [some (.ref x), a1, a2, a3] (st) ah Q = WP E c 90 20 [some (.ref x), a1, a2, a3] (.ref x :: st) ah Q := wp_s i90_19 rfl rfl rfl rfl
theorem i90_20 : insAt 90 20 = some (.getfield 6012, 23) := by decide +kernel
theorem r90_20 {E : aEnv} {c : Nat} {ah : aHp} {st : List Value} {Q : Option Value → aHp → Prop} {a0 a1 a2 a3 : Option Value} {a : Nat} : WP E c 90 20 [a0, a1, a2, a3] (.ref a :: st) ah Q = WPo (oGF (hg E ah a) 6 1) (fun v => WP E c 90 23 [a0, a1, a2, a3] (v :: st) ah Q) := wp_getf i90_20
theorem i90_23 : insAt 90 23 = some (.aload 0, 24) := by decide +kernel
theorem r90_23 {E : aEnv} {c : Nat} {ah : aHp} {st : List Value} {Q : Option Value → aHp → Prop} {a1 a2 a3 : Option Value} {x : Nat} : WP E c 90 23 [some (.ref x), a1, a2, a3] (st) ah Q = WP E c 90 24 [some (.ref x), a1, a2, a3] (.ref x :: st) ah Q := wp_s i90_23 rfl rfl rfl rfl
theorem i90_24 : insAt 90 24 = some (.getfield 6060, 27) := by decide +kernel
theorem r90_24 {E : aEnv} {c : Nat} {ah : aHp} {st : List Value} {Q : Option Value → aHp → Prop} {a0 a1 a2 a3 : Option Value} {a : Nat} : WP E c 90 24 [a0, a1, a2, a3] (.ref a :: st) ah Q = WPo (oGF (hg E ah a) 6 6) (fun v => WP E c 90 27 [a0, a1, a2, a3] (v :: st) ah Q) := wp_getf i90_24
theorem i90_27 : insAt 90 27 = some (.iload 2, 28) := by decide +kernel
theorem r90_27 {E : aEnv} {c : Nat} {ah : aHp} {st : List Value} {Q : Option Value → aHp → Prop} {a0 a1 a3 : Option Value} {x : Int32} : WP E c 90 27 [a0, a1, some (.int x), a3] (st) ah Q = WP E c 90 28 [a0, a1, some (.int x), a3] (.int x :: st) ah Q := wp_s i90_27 rfl rfl rfl rfl
theorem i90_28 : insAt 90 28 = some (.iastore, 29) := by decide +kernel
theorem r90_28 {E : aEnv} {c : Nat} {ah : aHp} {st : List Value} {Q : Option Value → aHp → Prop} {a0 a1 a2 a3 : Option Value} {x : Int32} {i : Int32} {a : Nat} : WP E c 90 28 [a0, a1, a2, a3] (.int x :: .int i :: .ref a :: st) ah Q = WPo (pI E ah (.int x :: .int i :: .ref a :: st)) (fun q9 => WP E c 90 29 [a0, a1, a2, a3] q9.1 q9.2 Q) := wp_hw i90_28 rfl rfl rfl rfl rfl rfl rfl rfl
theorem i90_29 : insAt 90 29 = some (.aload 0, 30) := by decide +kernel
theorem r90_29 {E : aEnv} {c : Nat} {ah : aHp} {st : List Value} {Q : Option Value → aHp → Prop} {a1 a2 a3 : Option Value} {x : Nat} : WP E c 90 29 [some (.ref x), a1, a2, a3] (st) ah Q = WP E c 90 30 [some (.ref x), a1, a2, a3] (.ref x :: st) ah Q := wp_s i90_29 rfl rfl rfl rfl
theorem i90_30 : insAt 90 30 = some (.getfield 6022, 33) := by decide +kernel
theorem r90_30 {E : aEnv} {c : Nat} {ah : aHp} {st : List Value} {Q : Option Value → aHp → Prop} {a0 a1 a2 a3 : Option Value} {a : Nat} : WP E c 90 30 [a0, a1, a2, a3] (.ref a :: st) ah Q = WPo (oGF (hg E ah a) 6 2) (fun v => WP E c 90 33 [a0, a1, a2, a3] (v :: st) ah Q) := wp_getf i90_30
theorem i90_33 : insAt 90 33 = some (.aload 0, 34) := by decide +kernel
theorem r90_33 {E : aEnv} {c : Nat} {ah : aHp} {st : List Value} {Q : Option Value → aHp → Prop} {a1 a2 a3 : Option Value} {x : Nat} : WP E c 90 33 [some (.ref x), a1, a2, a3] (st) ah Q = WP E c 90 34 [some (.ref x), a1, a2, a3] (.ref x :: st) ah Q := wp_s i90_33 rfl rfl rfl rfl
theorem i90_34 : insAt 90 34 = some (.getfield 6060, 37) := by decide +kernel
theorem r90_34 {E : aEnv} {c : Nat} {ah : aHp} {st : List Value} {Q : Option Value → aHp → Prop} {a0 a1 a2 a3 : Option Value} {a : Nat} : WP E c 90 34 [a0, a1, a2, a3] (.ref a :: st) ah Q = WPo (oGF (hg E ah a) 6 6) (fun v => WP E c 90 37 [a0, a1, a2, a3] (v :: st) ah Q) := wp_getf i90_34
theorem i90_37 : insAt 90 37 = some (.iload 3, 38) := by decide +kernel
theorem r90_37 {E : aEnv} {c : Nat} {ah : aHp} {st : List Value} {Q : Option Value → aHp → Prop} {a0 a1 a2 : Option Value} {x : Int32} : WP E c 90 37 [a0, a1, a2, some (.int x)] (st) ah Q = WP E c 90 38 [a0, a1, a2, some (.int x)] (.int x :: st) ah Q := wp_s i90_37 rfl rfl rfl rfl
theorem i90_38 : insAt 90 38 = some (.iastore, 39) := by decide +kernel
theorem r90_38 {E : aEnv} {c : Nat} {ah : aHp} {st : List Value} {Q : Option Value → aHp → Prop} {a0 a1 a2 a3 : Option Value} {x : Int32} {i : Int32} {a : Nat} : WP E c 90 38 [a0, a1, a2, a3] (.int x :: .int i :: .ref a :: st) ah Q = WPo (pI E ah (.int x :: .int i :: .ref a :: st)) (fun q9 => WP E c 90 39 [a0, a1, a2, a3] q9.1 q9.2 Q) := wp_hw i90_38 rfl rfl rfl rfl rfl rfl rfl rfl
theorem i90_39 : insAt 90 39 = some (.aload 0, 40) := by decide +kernel
theorem r90_39 {E : aEnv} {c : Nat} {ah : aHp} {st : List Value} {Q : Option Value → aHp → Prop} {a1 a2 a3 : Option Value} {x : Nat} : WP E c 90 39 [some (.ref x), a1, a2, a3] (st) ah Q = WP E c 90 40 [some (.ref x), a1, a2, a3] (.ref x :: st) ah Q := wp_s i90_39 rfl rfl rfl rfl
theorem i90_40 : insAt 90 40 = some (.dup, 41) := by decide +kernel
theorem r90_40 {E : aEnv} {c : Nat} {ah : aHp} {st : List Value} {Q : Option Value → aHp → Prop} {a0 a1 a2 a3 : Option Value} {x : Nat} : WP E c 90 40 [a0, a1, a2, a3] (.ref x :: st) ah Q = WP E c 90 41 [a0, a1, a2, a3] (.ref x :: .ref x :: st) ah Q := wp_s i90_40 rfl rfl rfl rfl
theorem r90_40i {E : aEnv} {c : Nat} {ah : aHp} {st : List Value} {Q : Option Value → aHp → Prop} {a0 a1 a2 a3 : Option Value} {x : Int32} : WP E c 90 40 [a0, a1, a2, a3] (.int x :: st) ah Q = WP E c 90 41 [a0, a1, a2, a3] (.int x :: .int x :: st) ah Q := wp_s i90_40 rfl rfl rfl rfl
theorem i90_41 : insAt 90 41 = some (.getfield 6060, 44) := by decide +kernel
theorem r90_41 {E : aEnv} {c : Nat} {ah : aHp} {st : List Value} {Q : Option Value → aHp → Prop} {a0 a1 a2 a3 : Option Value} {a : Nat} : WP E c 90 41 [a0, a1, a2, a3] (.ref a :: st) ah Q = WPo (oGF (hg E ah a) 6 6) (fun v => WP E c 90 44 [a0, a1, a2, a3] (v :: st) ah Q) := wp_getf i90_41
theorem i90_44 : insAt 90 44 = some (.iconst 1, 45) := by decide +kernel
theorem r90_44 {E : aEnv} {c : Nat} {ah : aHp} {st : List Value} {Q : Option Value → aHp → Prop} {a0 a1 a2 a3 : Option Value} : WP E c 90 44 [a0, a1, a2, a3] (st) ah Q = WP E c 90 45 [a0, a1, a2, a3] (.int (1) :: st) ah Q := wp_s i90_44 rfl rfl rfl rfl
theorem i90_45 : insAt 90 45 = some (.iadd, 46) := by decide +kernel
theorem r90_45 {E : aEnv} {c : Nat} {ah : aHp} {st : List Value} {Q : Option Value → aHp → Prop} {a0 a1 a2 a3 : Option Value} {x y : Int32} : WP E c 90 45 [a0, a1, a2, a3] (.int y :: .int x :: st) ah Q = WP E c 90 46 [a0, a1, a2, a3] (.int (x + y) :: st) ah Q := wp_s i90_45 rfl rfl rfl rfl
theorem i90_46 : insAt 90 46 = some (.putfield 6060, 49) := by decide +kernel
theorem r90_46 {E : aEnv} {c : Nat} {ah : aHp} {st : List Value} {Q : Option Value → aHp → Prop} {a0 a1 a2 a3 : Option Value} {a : Nat} {v : Value} : WP E c 90 46 [a0, a1, a2, a3] (v :: .ref a :: st) ah Q = WPo (oPF (hg E ah a) 6060 v) (fun e => WP E c 90 49 [a0, a1, a2, a3] st (hs E ah a e) Q) := wp_putf i90_46
theorem i90_49 : insAt 90 49 = some (.aload 0, 50) := by decide +kernel
theorem r90_49 {E : aEnv} {c : Nat} {ah : aHp} {st : List Value} {Q : Option Value → aHp → Prop} {a1 a2 a3 : Option Value} {x : Nat} : WP E c 90 49 [some (.ref x), a1, a2, a3] (st) ah Q = WP E c 90 50 [some (.ref x), a1, a2, a3] (.ref x :: st) ah Q := wp_s i90_49 rfl rfl rfl rfl
theorem i90_50 : insAt 90 50 = some (.invokevirtual 91, 53) := by decide +kernel
theorem r90_50 {E : aEnv} {c : Nat} {ah ah1 : aHp} {r : Option Value} {st : List Value} {Q : Option Value → aHp → Prop} {a0 a1 a2 a3 : Option Value} {p0 : Nat} (h : EV E c 91 [.ref p0] ah r ah1) (h2 : oCI (hg E ah p0) = 6) (h3 : wds st ≤ 8) : WP E (c + 1) 90 50 [a0, a1, a2, a3] (.ref p0 :: st) ah Q = WP E (c + 1) 90 53 [a0, a1, a2, a3] (r.toList ++ st) ah1 Q := wp_call (As := [.ref p0]) i90_50 (fun _ => rfl) rfl mr91.1 (rcv_1 h2 mr91.2.2 (by decide)) h3 (by rw [mr91.2.1]; exact Nat.le_of_ble_eq_true rfl) h
theorem i90_53 : insAt 90 53 = some (.aload 0, 54) := by decide +kernel
theorem r90_53 {E : aEnv} {c : Nat} {ah : aHp} {st : List Value} {Q : Option Value → aHp → Prop} {a1 a2 a3 : Option Value} {x : Nat} : WP E c 90 53 [some (.ref x), a1, a2, a3] (st) ah Q = WP E c 90 54 [some (.ref x), a1, a2, a3] (.ref x :: st) ah Q := wp_s i90_53 rfl rfl rfl rfl
theorem i90_54 : insAt 90 54 = some (.getfield 6060, 57) := by decide +kernel
theorem r90_54 {E : aEnv} {c : Nat} {ah : aHp} {st : List Value} {Q : Option Value → aHp → Prop} {a0 a1 a2 a3 : Option Value} {a : Nat} : WP E c 90 54 [a0, a1, a2, a3] (.ref a :: st) ah Q = WPo (oGF (hg E ah a) 6 6) (fun v => WP E c 90 57 [a0, a1, a2, a3] (v :: st) ah Q) := wp_getf i90_54
theorem i90_57 : insAt 90 57 = some (.iconst 1, 58) := by decide +kernel
theorem r90_57 {E : aEnv} {c : Nat} {ah : aHp} {st : List Value} {Q : Option Value → aHp → Prop} {a0 a1 a2 a3 : Option Value} : WP E c 90 57 [a0, a1, a2, a3] (st) ah Q = WP E c 90 58 [a0, a1, a2, a3] (.int (1) :: st) ah Q := wp_s i90_57 rfl rfl rfl rfl
theorem i90_58 : insAt 90 58 = some (.isub, 59) := by decide +kernel
theorem r90_58 {E : aEnv} {c : Nat} {ah : aHp} {st : List Value} {Q : Option Value → aHp → Prop} {a0 a1 a2 a3 : Option Value} {x y : Int32} : WP E c 90 58 [a0, a1, a2, a3] (.int y :: .int x :: st) ah Q = WP E c 90 59 [a0, a1, a2, a3] (.int (x - y) :: st) ah Q := wp_s i90_58 rfl rfl rfl rfl
theorem i90_59 : insAt 90 59 = some (.ireturn, 60) := by decide +kernel
theorem r90_59 {E : aEnv} {c : Nat} {ah : aHp} {Q : Option Value → aHp → Prop} {a0 a1 a2 a3 : Option Value} {x : Int32} : WP E c 90 59 [a0, a1, a2, a3] ([.int x]) ah Q = Q (some (.int x)) ah := wp_rt i90_59 rfl
theorem e91 {E : aEnv} {c : Nat} {ah ahF : aHp} {r : Option Value} {p0 : Nat} (h : WP E c 91 0 [some (.ref p0)] [] ah (fun r1 x1 => r1 = r ∧ x1 = ahF)) : EV E c 91 [.ref p0] ah r ahF := EV.of (by rw [mr91.2.1]; exact h)
theorem i91_0 : insAt 91 0 = some (.aload 0, 1) := by decide +kernel
theorem r91_0 {E : aEnv} {c : Nat} {ah : aHp} {st : List Value} {Q : Option Value → aHp → Prop} {x : Nat} : WP E c 91 0 [some (.ref x)] (st) ah Q = WP E c 91 1 [some (.ref x)] (.ref x :: st) ah Q := wp_s i91_0 rfl rfl rfl rfl
theorem i91_1 : insAt 91 1 = some (.iconst 0, 2) := by decide +kernel
theorem r91_1 {E : aEnv} {c : Nat} {ah : aHp} {st : List Value} {Q : Option Value → aHp → Prop} {a0 : Option Value} : WP E c 91 1 [a0] (st) ah Q = WP E c 91 2 [a0] (.int (0) :: st) ah Q := wp_s i91_1 rfl rfl rfl rfl
theorem i91_2 : insAt 91 2 = some (.putfield 6083, 5) := by decide +kernel
theorem r91_2 {E : aEnv} {c : Nat} {ah : aHp} {st : List Value} {Q : Option Value → aHp → Prop} {a0 : Option Value} {a : Nat} {v : Value} : WP E c 91 2 [a0] (v :: .ref a :: st) ah Q = WPo (oPF (hg E ah a) 6083 v) (fun e => WP E c 91 5 [a0] st (hs E ah a e) Q) := wp_putf i91_2
theorem i91_5 : insAt 91 5 = some (.return_, 6) := by decide +kernel
theorem r91_5 {E : aEnv} {c : Nat} {ah : aHp} {Q : Option Value → aHp → Prop} {a0 : Option Value} : WP E c 91 5 [a0] ([]) ah Q = Q none ah := wp_rt i91_5 rfl
theorem e92 {E : aEnv} {c : Nat} {ah ahF : aHp} {r : Option Value} {p0 : Nat} {p1 : Nat} {p2 : Int32} (h : WP E c 92 0 [some (.ref p0), some (.ref p1), some (.int p2)] [] ah (fun r1 x1 => r1 = r ∧ x1 = ahF)) : EV E c 92 [.ref p0, .ref p1, .int p2] ah r ahF := EV.of (by rw [mr92.2.1]; exact h)
theorem i92_0 : insAt 92 0 = some (.aload 0, 1) := by decide +kernel
theorem r92_0 {E : aEnv} {c : Nat} {ah : aHp} {st : List Value} {Q : Option Value → aHp → Prop} {a1 a2 : Option Value} {x : Nat} : WP E c 92 0 [some (.ref x), a1, a2] (st) ah Q = WP E c 92 1 [some (.ref x), a1, a2] (.ref x :: st) ah Q := wp_s i92_0 rfl rfl rfl rfl
theorem i92_1 : insAt 92 1 = some (.getfield 6083, 4) := by decide +kernel
theorem r92_1 {E : aEnv} {c : Nat} {ah : aHp} {st : List Value} {Q : Option Value → aHp → Prop} {a0 a1 a2 : Option Value} {a : Nat} : WP E c 92 1 [a0, a1, a2] (.ref a :: st) ah Q = WPo (oGF (hg E ah a) 6 8) (fun v => WP E c 92 4 [a0, a1, a2] (v :: st) ah Q) := wp_getf i92_1
theorem i92_4 : insAt 92 4 = some (.ifCond .eq 8, 7) := by decide +kernel
theorem r92_4 {E : aEnv} {c : Nat} {ah : aHp} {st : List Value} {Q : Option Value → aHp → Prop} {a0 a1 a2 : Option Value} {x : Int32} : WP E c 92 4 [a0, a1, a2] (.int x :: st) ah Q = if x = 0 then WP E c 92 8 [a0, a1, a2] st ah Q else WP E c 92 7 [a0, a1, a2] st ah Q := wp_j i92_4 rfl rfl rfl rfl
theorem i92_7 : insAt 92 7 = some (.return_, 8) := by decide +kernel
theorem r92_7 {E : aEnv} {c : Nat} {ah : aHp} {Q : Option Value → aHp → Prop} {a0 a1 a2 : Option Value} : WP E c 92 7 [a0, a1, a2] ([]) ah Q = Q none ah := wp_rt i92_7 rfl
theorem i92_8 : insAt 92 8 = some (.aload 0, 9) := by decide +kernel
theorem r92_8 {E : aEnv} {c : Nat} {ah : aHp} {st : List Value} {Q : Option Value → aHp → Prop} {a1 a2 : Option Value} {x : Nat} : WP E c 92 8 [some (.ref x), a1, a2] (st) ah Q = WP E c 92 9 [some (.ref x), a1, a2] (.ref x :: st) ah Q := wp_s i92_8 rfl rfl rfl rfl
theorem i92_9 : insAt 92 9 = some (.iconst 1, 10) := by decide +kernel
theorem r92_9 {E : aEnv} {c : Nat} {ah : aHp} {st : List Value} {Q : Option Value → aHp → Prop} {a0 a1 a2 : Option Value} : WP E c 92 9 [a0, a1, a2] (st) ah Q = WP E c 92 10 [a0, a1, a2] (.int (1) :: st) ah Q := wp_s i92_9 rfl rfl rfl rfl
theorem i92_10 : insAt 92 10 = some (.putfield 6083, 13) := by decide +kernel
theorem r92_10 {E : aEnv} {c : Nat} {ah : aHp} {st : List Value} {Q : Option Value → aHp → Prop} {a0 a1 a2 : Option Value} {a : Nat} {v : Value} : WP E c 92 10 [a0, a1, a2] (v :: .ref a :: st) ah Q = WPo (oPF (hg E ah a) 6083 v) (fun e => WP E c 92 13 [a0, a1, a2] st (hs E ah a e) Q) := wp_putf i92_10
theorem i92_13 : insAt 92 13 = some (.aload 0, 14) := by decide +kernel
theorem r92_13 {E : aEnv} {c : Nat} {ah : aHp} {st : List Value} {Q : Option Value → aHp → Prop} {a1 a2 : Option Value} {x : Nat} : WP E c 92 13 [some (.ref x), a1, a2] (st) ah Q = WP E c 92 14 [some (.ref x), a1, a2] (.ref x :: st) ah Q := wp_s i92_13 rfl rfl rfl rfl
theorem i92_14 : insAt 92 14 = some (.iconst 1000000, 16) := by decide +kernel
theorem r92_14 {E : aEnv} {c : Nat} {ah : aHp} {st : List Value} {Q : Option Value → aHp → Prop} {a0 a1 a2 : Option Value} : WP E c 92 14 [a0, a1, a2] (st) ah Q = WP E c 92 16 [a0, a1, a2] (.int (1000000) :: st) ah Q := wp_s i92_14 rfl rfl rfl rfl
theorem i92_16 : insAt 92 16 = some (.putfield 6070, 19) := by decide +kernel
theorem r92_16 {E : aEnv} {c : Nat} {ah : aHp} {st : List Value} {Q : Option Value → aHp → Prop} {a0 a1 a2 : Option Value} {a : Nat} {v : Value} : WP E c 92 16 [a0, a1, a2] (v :: .ref a :: st) ah Q = WPo (oPF (hg E ah a) 6070 v) (fun e => WP E c 92 19 [a0, a1, a2] st (hs E ah a e) Q) := wp_putf i92_16
theorem i92_19 : insAt 92 19 = some (.aload 0, 20) := by decide +kernel
theorem r92_19 {E : aEnv} {c : Nat} {ah : aHp} {st : List Value} {Q : Option Value → aHp → Prop} {a1 a2 : Option Value} {x : Nat} : WP E c 92 19 [some (.ref x), a1, a2] (st) ah Q = WP E c 92 20 [some (.ref x), a1, a2] (.ref x :: st) ah Q := wp_s i92_19 rfl rfl rfl rfl
theorem i92_20 : insAt 92 20 = some (.getfield 6052, 23) := by decide +kernel
theorem r92_20 {E : aEnv} {c : Nat} {ah : aHp} {st : List Value} {Q : Option Value → aHp → Prop} {a0 a1 a2 : Option Value} {a : Nat} : WP E c 92 20 [a0, a1, a2] (.ref a :: st) ah Q = WPo (oGF (hg E ah a) 6 5) (fun v => WP E c 92 23 [a0, a1, a2] (v :: st) ah Q) := wp_getf i92_20
theorem i92_23 : insAt 92 23 = some (.iconst 0, 24) := by decide +kernel
theorem r92_23 {E : aEnv} {c : Nat} {ah : aHp} {st : List Value} {Q : Option Value → aHp → Prop} {a0 a1 a2 : Option Value} : WP E c 92 23 [a0, a1, a2] (st) ah Q = WP E c 92 24 [a0, a1, a2] (.int (0) :: st) ah Q := wp_s i92_23 rfl rfl rfl rfl
theorem i92_24 : insAt 92 24 = some (.invokestatic 297, 27) := by decide +kernel
theorem r92_24 {E : aEnv} {c : Nat} {ah ah1 : aHp} {r : Option Value} {st : List Value} {Q : Option Value → aHp → Prop} {a0 a1 a2 : Option Value} {p0 : Nat} {p1 : Int32} (h : EV E c 297 [.ref p0, .int p1] ah r ah1) (h3 : wds st ≤ 8) : WP E (c + 1) 92 24 [a0, a1, a2] (.int p1 :: .ref p0 :: st) ah Q = WP E (c + 1) 92 27 [a0, a1, a2] (r.toList ++ st) ah1 Q := wp_call (As := [.ref p0, .int p1]) i92_24 (fun _ => rfl) rfl mr297.1 rfl h3 (by rw [mr297.2.1]; exact Nat.le_of_ble_eq_true rfl) h
theorem i92_27 : insAt 92 27 = some (.aload 0, 28) := by decide +kernel
theorem r92_27 {E : aEnv} {c : Nat} {ah : aHp} {st : List Value} {Q : Option Value → aHp → Prop} {a1 a2 : Option Value} {x : Nat} : WP E c 92 27 [some (.ref x), a1, a2] (st) ah Q = WP E c 92 28 [some (.ref x), a1, a2] (.ref x :: st) ah Q := wp_s i92_27 rfl rfl rfl rfl
theorem i92_28 : insAt 92 28 = some (.aload 1, 29) := by decide +kernel
theorem r92_28 {E : aEnv} {c : Nat} {ah : aHp} {st : List Value} {Q : Option Value → aHp → Prop} {a0 a2 : Option Value} {x : Nat} : WP E c 92 28 [a0, some (.ref x), a2] (st) ah Q = WP E c 92 29 [a0, some (.ref x), a2] (.ref x :: st) ah Q := wp_s i92_28 rfl rfl rfl rfl
theorem r92_28n {E : aEnv} {c : Nat} {ah : aHp} {st : List Value} {Q : Option Value → aHp → Prop} {a0 a2 : Option Value} : WP E c 92 28 [a0, some .null, a2] (st) ah Q = WP E c 92 29 [a0, some .null, a2] (.null :: st) ah Q := wp_s i92_28 rfl rfl rfl rfl
theorem i92_29 : insAt 92 29 = some (.iload 2, 30) := by decide +kernel
theorem r92_29 {E : aEnv} {c : Nat} {ah : aHp} {st : List Value} {Q : Option Value → aHp → Prop} {a0 a1 : Option Value} {x : Int32} : WP E c 92 29 [a0, a1, some (.int x)] (st) ah Q = WP E c 92 30 [a0, a1, some (.int x)] (.int x :: st) ah Q := wp_s i92_29 rfl rfl rfl rfl
theorem i92_30 : insAt 92 30 = some (.iconst 4, 31) := by decide +kernel
theorem r92_30 {E : aEnv} {c : Nat} {ah : aHp} {st : List Value} {Q : Option Value → aHp → Prop} {a0 a1 a2 : Option Value} : WP E c 92 30 [a0, a1, a2] (st) ah Q = WP E c 92 31 [a0, a1, a2] (.int (4) :: st) ah Q := wp_s i92_30 rfl rfl rfl rfl
theorem i92_31 : insAt 92 31 = some (.invokestatic 294, 34) := by decide +kernel
theorem r92_31 {E : aEnv} {c : Nat} {ah ah1 : aHp} {r : Option Value} {st : List Value} {Q : Option Value → aHp → Prop} {a0 a1 a2 : Option Value} {p0 : Int32} {p1 : Int32} (h : EV E c 294 [.int p0, .int p1] ah r ah1) (h3 : wds st ≤ 8) : WP E (c + 1) 92 31 [a0, a1, a2] (.int p1 :: .int p0 :: st) ah Q = WP E (c + 1) 92 34 [a0, a1, a2] (r.toList ++ st) ah1 Q := wp_call (As := [.int p0, .int p1]) i92_31 (fun _ => rfl) rfl mr294.1 rfl h3 (by rw [mr294.2.1]; exact Nat.le_of_ble_eq_true rfl) h
theorem i92_34 : insAt 92 34 = some (.iconst 0, 35) := by decide +kernel
theorem r92_34 {E : aEnv} {c : Nat} {ah : aHp} {st : List Value} {Q : Option Value → aHp → Prop} {a0 a1 a2 : Option Value} : WP E c 92 34 [a0, a1, a2] (st) ah Q = WP E c 92 35 [a0, a1, a2] (.int (0) :: st) ah Q := wp_s i92_34 rfl rfl rfl rfl
theorem i92_35 : insAt 92 35 = some (.iconst 0, 36) := by decide +kernel
theorem r92_35 {E : aEnv} {c : Nat} {ah : aHp} {st : List Value} {Q : Option Value → aHp → Prop} {a0 a1 a2 : Option Value} : WP E c 92 35 [a0, a1, a2] (st) ah Q = WP E c 92 36 [a0, a1, a2] (.int (0) :: st) ah Q := wp_s i92_35 rfl rfl rfl rfl
theorem i92_36 : insAt 92 36 = some (.invokestatic 96, 39) := by decide +kernel
theorem r92_36 {E : aEnv} {c : Nat} {ah ah1 : aHp} {r : Option Value} {st : List Value} {Q : Option Value → aHp → Prop} {a0 a1 a2 : Option Value} {p0 : Nat} {p1 : Nat} {p2 : Int32} {p3 : Int32} {p4 : Int32} (h : EV E c 96 [.ref p0, .ref p1, .int p2, .int p3, .int p4] ah r ah1) (h3 : wds st ≤ 8) : WP E (c + 1) 92 36 [a0, a1, a2] (.int p4 :: .int p3 :: .int p2 :: .ref p1 :: .ref p0 :: st) ah Q = WP E (c + 1) 92 39 [a0, a1, a2] (r.toList ++ st) ah1 Q := wp_call (As := [.ref p0, .ref p1, .int p2, .int p3, .int p4]) i92_36 (fun _ => rfl) rfl mr96.1 rfl h3 (by rw [mr96.2.1]; exact Nat.le_of_ble_eq_true rfl) h
theorem i92_39 : insAt 92 39 = some (.return_, 40) := by decide +kernel
theorem r92_39 {E : aEnv} {c : Nat} {ah : aHp} {Q : Option Value → aHp → Prop} {a0 a1 a2 : Option Value} : WP E c 92 39 [a0, a1, a2] ([]) ah Q = Q none ah := wp_rt i92_39 rfl
theorem e93 {E : aEnv} {c : Nat} {ah ahF : aHp} {r : Option Value} {p0 : Nat} (h : WP E c 93 0 [some (.ref p0)] [] ah (fun r1 x1 => r1 = r ∧ x1 = ahF)) : EV E c 93 [.ref p0] ah r ahF := EV.of (by rw [mr93.2.1]; exact h)
theorem i93_0 : insAt 93 0 = some (.aload 0, 1) := by decide +kernel
theorem r93_0 {E : aEnv} {c : Nat} {ah : aHp} {st : List Value} {Q : Option Value → aHp → Prop} {x : Nat} : WP E c 93 0 [some (.ref x)] (st) ah Q = WP E c 93 1 [some (.ref x)] (.ref x :: st) ah Q := wp_s i93_0 rfl rfl rfl rfl
theorem i93_1 : insAt 93 1 = some (.getfield 6070, 4) := by decide +kernel
theorem r93_1 {E : aEnv} {c : Nat} {ah : aHp} {st : List Value} {Q : Option Value → aHp → Prop} {a0 : Option Value} {a : Nat} : WP E c 93 1 [a0] (.ref a :: st) ah Q = WPo (oGF (hg E ah a) 6 7) (fun v => WP E c 93 4 [a0] (v :: st) ah Q) := wp_getf i93_1
theorem i93_4 : insAt 93 4 = some (.iconst 1000000, 6) := by decide +kernel
theorem r93_4 {E : aEnv} {c : Nat} {ah : aHp} {st : List Value} {Q : Option Value → aHp → Prop} {a0 : Option Value} : WP E c 93 4 [a0] (st) ah Q = WP E c 93 6 [a0] (.int (1000000) :: st) ah Q := wp_s i93_4 rfl rfl rfl rfl
theorem i93_6 : insAt 93 6 = some (.if_icmp .eq 13, 9) := by decide +kernel
theorem r93_6 {E : aEnv} {c : Nat} {ah : aHp} {st : List Value} {Q : Option Value → aHp → Prop} {a0 : Option Value} {x y : Int32} : WP E c 93 6 [a0] (.int y :: .int x :: st) ah Q = if x = y then WP E c 93 13 [a0] st ah Q else WP E c 93 9 [a0] st ah Q := wp_j i93_6 rfl rfl rfl rfl
theorem i93_9 : insAt 93 9 = some (.iconst 1, 10) := by decide +kernel
theorem r93_9 {E : aEnv} {c : Nat} {ah : aHp} {st : List Value} {Q : Option Value → aHp → Prop} {a0 : Option Value} : WP E c 93 9 [a0] (st) ah Q = WP E c 93 10 [a0] (.int (1) :: st) ah Q := wp_s i93_9 rfl rfl rfl rfl
theorem i93_10 : insAt 93 10 = some (.goto 14, 13) := by decide +kernel
theorem r93_10 {E : aEnv} {c : Nat} {ah : aHp} {st : List Value} {Q : Option Value → aHp → Prop} {a0 : Option Value} : WP E c 93 10 [a0] (st) ah Q = WP E c 93 14 [a0] st ah Q := wp_s i93_10 rfl rfl rfl rfl
theorem i93_13 : insAt 93 13 = some (.iconst 0, 14) := by decide +kernel
theorem r93_13 {E : aEnv} {c : Nat} {ah : aHp} {st : List Value} {Q : Option Value → aHp → Prop} {a0 : Option Value} : WP E c 93 13 [a0] (st) ah Q = WP E c 93 14 [a0] (.int (0) :: st) ah Q := wp_s i93_13 rfl rfl rfl rfl
theorem i93_14 : insAt 93 14 = some (.freturn, 15) := by decide +kernel
theorem r93_14 {E : aEnv} {c : Nat} {ah : aHp} {Q : Option Value → aHp → Prop} {a0 : Option Value} {x : Int32} (hx : x = 0 ∨ x = 1) : WP E c 93 14 [a0] ([.int x]) ah Q = Q (some (.int x)) ah := wp_rt i93_14 (by simp only [rtA, if_pos hx])
theorem e94 {E : aEnv} {c : Nat} {ah ahF : aHp} {r : Option Value} {p0 : Nat} (h : WP E c 94 0 [some (.ref p0)] [] ah (fun r1 x1 => r1 = r ∧ x1 = ahF)) : EV E c 94 [.ref p0] ah r ahF := EV.of (by rw [mr94.2.1]; exact h)
theorem i94_0 : insAt 94 0 = some (.aload 0, 1) := by decide +kernel
theorem r94_0 {E : aEnv} {c : Nat} {ah : aHp} {st : List Value} {Q : Option Value → aHp → Prop} {x : Nat} : WP E c 94 0 [some (.ref x)] (st) ah Q = WP E c 94 1 [some (.ref x)] (.ref x :: st) ah Q := wp_s i94_0 rfl rfl rfl rfl
theorem i94_1 : insAt 94 1 = some (.getfield 6070, 4) := by decide +kernel
theorem r94_1 {E : aEnv} {c : Nat} {ah : aHp} {st : List Value} {Q : Option Value → aHp → Prop} {a0 : Option Value} {a : Nat} : WP E c 94 1 [a0] (.ref a :: st) ah Q = WPo (oGF (hg E ah a) 6 7) (fun v => WP E c 94 4 [a0] (v :: st) ah Q) := wp_getf i94_1
theorem i94_4 : insAt 94 4 = some (.ireturn, 5) := by decide +kernel
theorem r94_4 {E : aEnv} {c : Nat} {ah : aHp} {Q : Option Value → aHp → Prop} {a0 : Option Value} {x : Int32} : WP E c 94 4 [a0] ([.int x]) ah Q = Q (some (.int x)) ah := wp_rt i94_4 rfl
theorem e95 {E : aEnv} {c : Nat} {ah ahF : aHp} {r : Option Value} {p0 : Nat} {p1 : Int32} (h : WP E c 95 0 [some (.ref p0), some (.int p1)] [] ah (fun r1 x1 => r1 = r ∧ x1 = ahF)) : EV E c 95 [.ref p0, .int p1] ah r ahF := EV.of (by rw [mr95.2.1]; exact h)
theorem i95_0 : insAt 95 0 = some (.aload 0, 1) := by decide +kernel
theorem r95_0 {E : aEnv} {c : Nat} {ah : aHp} {st : List Value} {Q : Option Value → aHp → Prop} {a1 : Option Value} {x : Nat} : WP E c 95 0 [some (.ref x), a1] (st) ah Q = WP E c 95 1 [some (.ref x), a1] (.ref x :: st) ah Q := wp_s i95_0 rfl rfl rfl rfl
theorem i95_1 : insAt 95 1 = some (.iload 1, 2) := by decide +kernel
theorem r95_1 {E : aEnv} {c : Nat} {ah : aHp} {st : List Value} {Q : Option Value → aHp → Prop} {a0 : Option Value} {x : Int32} : WP E c 95 1 [a0, some (.int x)] (st) ah Q = WP E c 95 2 [a0, some (.int x)] (.int x :: st) ah Q := wp_s i95_1 rfl rfl rfl rfl
theorem i95_2 : insAt 95 2 = some (.invokevirtual 89, 5) := by decide +kernel
theorem r95_2 {E : aEnv} {c : Nat} {ah ah1 : aHp} {r : Option Value} {st : List Value} {Q : Option Value → aHp → Prop} {a0 a1 : Option Value} {p0 : Nat} {p1 : Int32} (h : EV E c 89 [.ref p0, .int p1] ah r ah1) (h2 : oCI (hg E ah p0) = 6) (h3 : wds st ≤ 8) : WP E (c + 1) 95 2 [a0, a1] (.int p1 :: .ref p0 :: st) ah Q = WP E (c + 1) 95 5 [a0, a1] (r.toList ++ st) ah1 Q := wp_call (As := [.ref p0, .int p1]) i95_2 (fun _ => rfl) rfl mr89.1 (rcv_1 h2 mr89.2.2 (by decide)) h3 (by rw [mr89.2.1]; exact Nat.le_of_ble_eq_true rfl) h
theorem i95_5 : insAt 95 5 = some (.ifCond .eq 17, 8) := by decide +kernel
theorem r95_5 {E : aEnv} {c : Nat} {ah : aHp} {st : List Value} {Q : Option Value → aHp → Prop} {a0 a1 : Option Value} {x : Int32} : WP E c 95 5 [a0, a1] (.int x :: st) ah Q = if x = 0 then WP E c 95 17 [a0, a1] st ah Q else WP E c 95 8 [a0, a1] st ah Q := wp_j i95_5 rfl rfl rfl rfl
theorem i95_8 : insAt 95 8 = some (.aload 0, 9) := by decide +kernel
theorem r95_8 {E : aEnv} {c : Nat} {ah : aHp} {st : List Value} {Q : Option Value → aHp → Prop} {a1 : Option Value} {x : Nat} : WP E c 95 8 [some (.ref x), a1] (st) ah Q = WP E c 95 9 [some (.ref x), a1] (.ref x :: st) ah Q := wp_s i95_8 rfl rfl rfl rfl
theorem i95_9 : insAt 95 9 = some (.getfield 6042, 12) := by decide +kernel
theorem r95_9 {E : aEnv} {c : Nat} {ah : aHp} {st : List Value} {Q : Option Value → aHp → Prop} {a0 a1 : Option Value} {a : Nat} : WP E c 95 9 [a0, a1] (.ref a :: st) ah Q = WPo (oGF (hg E ah a) 6 4) (fun v => WP E c 95 12 [a0, a1] (v :: st) ah Q) := wp_getf i95_9
theorem i95_12 : insAt 95 12 = some (.iload 1, 13) := by decide +kernel
theorem r95_12 {E : aEnv} {c : Nat} {ah : aHp} {st : List Value} {Q : Option Value → aHp → Prop} {a0 : Option Value} {x : Int32} : WP E c 95 12 [a0, some (.int x)] (st) ah Q = WP E c 95 13 [a0, some (.int x)] (.int x :: st) ah Q := wp_s i95_12 rfl rfl rfl rfl
theorem i95_13 : insAt 95 13 = some (.iaload, 14) := by decide +kernel
theorem r95_13 {E : aEnv} {c : Nat} {ah : aHp} {st : List Value} {Q : Option Value → aHp → Prop} {a0 a1 : Option Value} {i : Int32} {a : Nat} : WP E c 95 13 [a0, a1] (.int i :: .ref a :: st) ah Q = WPo (gI E ah (.int i :: .ref a :: st)) (fun s9 => WP E c 95 14 [a0, a1] s9 ah Q) := wp_hr i95_13 rfl rfl rfl rfl rfl rfl rfl rfl
theorem i95_14 : insAt 95 14 = some (.goto 18, 17) := by decide +kernel
theorem r95_14 {E : aEnv} {c : Nat} {ah : aHp} {st : List Value} {Q : Option Value → aHp → Prop} {a0 a1 : Option Value} : WP E c 95 14 [a0, a1] (st) ah Q = WP E c 95 18 [a0, a1] st ah Q := wp_s i95_14 rfl rfl rfl rfl
theorem i95_17 : insAt 95 17 = some (.iconst (-1), 18) := by decide +kernel
theorem r95_17 {E : aEnv} {c : Nat} {ah : aHp} {st : List Value} {Q : Option Value → aHp → Prop} {a0 a1 : Option Value} : WP E c 95 17 [a0, a1] (st) ah Q = WP E c 95 18 [a0, a1] (.int ((-1)) :: st) ah Q := wp_s i95_17 rfl rfl rfl rfl
theorem i95_18 : insAt 95 18 = some (.ireturn, 19) := by decide +kernel
theorem r95_18 {E : aEnv} {c : Nat} {ah : aHp} {Q : Option Value → aHp → Prop} {a0 a1 : Option Value} {x : Int32} : WP E c 95 18 [a0, a1] ([.int x]) ah Q = Q (some (.int x)) ah := wp_rt i95_18 rfl
theorem e96 {E : aEnv} {c : Nat} {ah ahF : aHp} {r : Option Value} {p0 : Nat} {p1 : Nat} {p2 : Int32} {p3 : Int32} {p4 : Int32} (h : WP E c 96 0 [some (.ref p0), some (.ref p1), some (.int p2), some (.int p3), some (.int p4), none, none] [] ah (fun r1 x1 => r1 = r ∧ x1 = ahF)) : EV E c 96 [.ref p0, .ref p1, .int p2, .int p3, .int p4] ah r ahF := EV.of (by rw [mr96.2.1]; exact h)
theorem i96_0 : insAt 96 0 = some (.iload 4, 2) := by decide +kernel
theorem r96_0 {E : aEnv} {c : Nat} {ah : aHp} {st : List Value} {Q : Option Value → aHp → Prop} {a0 a1 a2 a3 a5 a6 : Option Value} {x : Int32} : WP E c 96 0 [a0, a1, a2, a3, some (.int x), a5, a6] (st) ah Q = WP E c 96 2 [a0, a1, a2, a3, some (.int x), a5, a6] (.int x :: st) ah Q := wp_s i96_0 rfl rfl rfl rfl
theorem i96_2 : insAt 96 2 = some (.aload 0, 3) := by decide +kernel
theorem r96_2 {E : aEnv} {c : Nat} {ah : aHp} {st : List Value} {Q : Option Value → aHp → Prop} {a1 a2 a3 a4 a5 a6 : Option Value} {x : Nat} : WP E c 96 2 [some (.ref x), a1, a2, a3, a4, a5, a6] (st) ah Q = WP E c 96 3 [some (.ref x), a1, a2, a3, a4, a5, a6] (.ref x :: st) ah Q := wp_s i96_2 rfl rfl rfl rfl
theorem r96_2n {E : aEnv} {c : Nat} {ah : aHp} {st : List Value} {Q : Option Value → aHp → Prop} {a1 a2 a3 a4 a5 a6 : Option Value} : WP E c 96 2 [some .null, a1, a2, a3, a4, a5, a6] (st) ah Q = WP E c 96 3 [some .null, a1, a2, a3, a4, a5, a6] (.null :: st) ah Q := wp_s i96_2 rfl rfl rfl rfl
theorem i96_3 : insAt 96 3 = some (.getfield 6070, 6) := by decide +kernel
theorem r96_3 {E : aEnv} {c : Nat} {ah : aHp} {st : List Value} {Q : Option Value → aHp → Prop} {a0 a1 a2 a3 a4 a5 a6 : Option Value} {a : Nat} : WP E c 96 3 [a0, a1, a2, a3, a4, a5, a6] (.ref a :: st) ah Q = WPo (oGF (hg E ah a) 6 7) (fun v => WP E c 96 6 [a0, a1, a2, a3, a4, a5, a6] (v :: st) ah Q) := wp_getf i96_3
theorem i96_6 : insAt 96 6 = some (.if_icmp .lt 10, 9) := by decide +kernel
theorem r96_6 {E : aEnv} {c : Nat} {ah : aHp} {st : List Value} {Q : Option Value → aHp → Prop} {a0 a1 a2 a3 a4 a5 a6 : Option Value} {x y : Int32} : WP E c 96 6 [a0, a1, a2, a3, a4, a5, a6] (.int y :: .int x :: st) ah Q = if x < y then WP E c 96 10 [a0, a1, a2, a3, a4, a5, a6] st ah Q else WP E c 96 9 [a0, a1, a2, a3, a4, a5, a6] st ah Q := wp_j i96_6 rfl rfl rfl rfl
theorem i96_9 : insAt 96 9 = some (.return_, 10) := by decide +kernel
theorem r96_9 {E : aEnv} {c : Nat} {ah : aHp} {Q : Option Value → aHp → Prop} {a0 a1 a2 a3 a4 a5 a6 : Option Value} : WP E c 96 9 [a0, a1, a2, a3, a4, a5, a6] ([]) ah Q = Q none ah := wp_rt i96_9 rfl
theorem i96_10 : insAt 96 10 = some (.aload 0, 11) := by decide +kernel
theorem r96_10 {E : aEnv} {c : Nat} {ah : aHp} {st : List Value} {Q : Option Value → aHp → Prop} {a1 a2 a3 a4 a5 a6 : Option Value} {x : Nat} : WP E c 96 10 [some (.ref x), a1, a2, a3, a4, a5, a6] (st) ah Q = WP E c 96 11 [some (.ref x), a1, a2, a3, a4, a5, a6] (.ref x :: st) ah Q := wp_s i96_10 rfl rfl rfl rfl
theorem r96_10n {E : aEnv} {c : Nat} {ah : aHp} {st : List Value} {Q : Option Value → aHp → Prop} {a1 a2 a3 a4 a5 a6 : Option Value} : WP E c 96 10 [some .null, a1, a2, a3, a4, a5, a6] (st) ah Q = WP E c 96 11 [some .null, a1, a2, a3, a4, a5, a6] (.null :: st) ah Q := wp_s i96_10 rfl rfl rfl rfl
theorem i96_11 : insAt 96 11 = some (.iload 3, 12) := by decide +kernel
theorem r96_11 {E : aEnv} {c : Nat} {ah : aHp} {st : List Value} {Q : Option Value → aHp → Prop} {a0 a1 a2 a4 a5 a6 : Option Value} {x : Int32} : WP E c 96 11 [a0, a1, a2, some (.int x), a4, a5, a6] (st) ah Q = WP E c 96 12 [a0, a1, a2, some (.int x), a4, a5, a6] (.int x :: st) ah Q := wp_s i96_11 rfl rfl rfl rfl
theorem i96_12 : insAt 96 12 = some (.invokevirtual 89, 15) := by decide +kernel
theorem r96_12 {E : aEnv} {c : Nat} {ah ah1 : aHp} {r : Option Value} {st : List Value} {Q : Option Value → aHp → Prop} {a0 a1 a2 a3 a4 a5 a6 : Option Value} {p0 : Nat} {p1 : Int32} (h : EV E c 89 [.ref p0, .int p1] ah r ah1) (h2 : oCI (hg E ah p0) = 6) (h3 : wds st ≤ 8) : WP E (c + 1) 96 12 [a0, a1, a2, a3, a4, a5, a6] (.int p1 :: .ref p0 :: st) ah Q = WP E (c + 1) 96 15 [a0, a1, a2, a3, a4, a5, a6] (r.toList ++ st) ah1 Q := wp_call (As := [.ref p0, .int p1]) i96_12 (fun _ => rfl) rfl mr89.1 (rcv_1 h2 mr89.2.2 (by decide)) h3 (by rw [mr89.2.1]; exact Nat.le_of_ble_eq_true rfl) h
theorem i96_15 : insAt 96 15 = some (.ifCond .ne 40, 18) := by decide +kernel
theorem r96_15 {E : aEnv} {c : Nat} {ah : aHp} {st : List Value} {Q : Option Value → aHp → Prop} {a0 a1 a2 a3 a4 a5 a6 : Option Value} {x : Int32} : WP E c 96 15 [a0, a1, a2, a3, a4, a5, a6] (.int x :: st) ah Q = if ¬ x = 0 then WP E c 96 40 [a0, a1, a2, a3, a4, a5, a6] st ah Q else WP E c 96 18 [a0, a1, a2, a3, a4, a5, a6] st ah Q := wp_j i96_15 rfl rfl rfl rfl
theorem i96_18 : insAt 96 18 = some (.aload 0, 19) := by decide +kernel
theorem r96_18 {E : aEnv} {c : Nat} {ah : aHp} {st : List Value} {Q : Option Value → aHp → Prop} {a1 a2 a3 a4 a5 a6 : Option Value} {x : Nat} : WP E c 96 18 [some (.ref x), a1, a2, a3, a4, a5, a6] (st) ah Q = WP E c 96 19 [some (.ref x), a1, a2, a3, a4, a5, a6] (.ref x :: st) ah Q := wp_s i96_18 rfl rfl rfl rfl
theorem r96_18n {E : aEnv} {c : Nat} {ah : aHp} {st : List Value} {Q : Option Value → aHp → Prop} {a1 a2 a3 a4 a5 a6 : Option Value} : WP E c 96 18 [some .null, a1, a2, a3, a4, a5, a6] (st) ah Q = WP E c 96 19 [some .null, a1, a2, a3, a4, a5, a6] (.null :: st) ah Q := wp_s i96_18 rfl rfl rfl rfl
theorem i96_19 : insAt 96 19 = some (.iload 4, 21) := by decide +kernel
theorem r96_19 {E : aEnv} {c : Nat} {ah : aHp} {st : List Value} {Q : Option Value → aHp → Prop} {a0 a1 a2 a3 a5 a6 : Option Value} {x : Int32} : WP E c 96 19 [a0, a1, a2, a3, some (.int x), a5, a6] (st) ah Q = WP E c 96 21 [a0, a1, a2, a3, some (.int x), a5, a6] (.int x :: st) ah Q := wp_s i96_19 rfl rfl rfl rfl
theorem i96_21 : insAt 96 21 = some (.putfield 6070, 24) := by decide +kernel
theorem r96_21 {E : aEnv} {c : Nat} {ah : aHp} {st : List Value} {Q : Option Value → aHp → Prop} {a0 a1 a2 a3 a4 a5 a6 : Option Value} {a : Nat} {v : Value} : WP E c 96 21 [a0, a1, a2, a3, a4, a5, a6] (v :: .ref a :: st) ah Q = WPo (oPF (hg E ah a) 6070 v) (fun e => WP E c 96 24 [a0, a1, a2, a3, a4, a5, a6] st (hs E ah a e) Q) := wp_putf i96_21
theorem i96_24 : insAt 96 24 = some (.aload 0, 25) := by decide +kernel
theorem r96_24 {E : aEnv} {c : Nat} {ah : aHp} {st : List Value} {Q : Option Value → aHp → Prop} {a1 a2 a3 a4 a5 a6 : Option Value} {x : Nat} : WP E c 96 24 [some (.ref x), a1, a2, a3, a4, a5, a6] (st) ah Q = WP E c 96 25 [some (.ref x), a1, a2, a3, a4, a5, a6] (.ref x :: st) ah Q := wp_s i96_24 rfl rfl rfl rfl
theorem r96_24n {E : aEnv} {c : Nat} {ah : aHp} {st : List Value} {Q : Option Value → aHp → Prop} {a1 a2 a3 a4 a5 a6 : Option Value} : WP E c 96 24 [some .null, a1, a2, a3, a4, a5, a6] (st) ah Q = WP E c 96 25 [some .null, a1, a2, a3, a4, a5, a6] (.null :: st) ah Q := wp_s i96_24 rfl rfl rfl rfl
theorem i96_25 : insAt 96 25 = some (.getfield 6032, 28) := by decide +kernel
theorem r96_25 {E : aEnv} {c : Nat} {ah : aHp} {st : List Value} {Q : Option Value → aHp → Prop} {a0 a1 a2 a3 a4 a5 a6 : Option Value} {a : Nat} : WP E c 96 25 [a0, a1, a2, a3, a4, a5, a6] (.ref a :: st) ah Q = WPo (oGF (hg E ah a) 6 3) (fun v => WP E c 96 28 [a0, a1, a2, a3, a4, a5, a6] (v :: st) ah Q) := wp_getf i96_25
theorem i96_28 : insAt 96 28 = some (.iconst 0, 29) := by decide +kernel
theorem r96_28 {E : aEnv} {c : Nat} {ah : aHp} {st : List Value} {Q : Option Value → aHp → Prop} {a0 a1 a2 a3 a4 a5 a6 : Option Value} : WP E c 96 28 [a0, a1, a2, a3, a4, a5, a6] (st) ah Q = WP E c 96 29 [a0, a1, a2, a3, a4, a5, a6] (.int (0) :: st) ah Q := wp_s i96_28 rfl rfl rfl rfl
theorem i96_29 : insAt 96 29 = some (.aload 0, 30) := by decide +kernel
theorem r96_29 {E : aEnv} {c : Nat} {ah : aHp} {st : List Value} {Q : Option Value → aHp → Prop} {a1 a2 a3 a4 a5 a6 : Option Value} {x : Nat} : WP E c 96 29 [some (.ref x), a1, a2, a3, a4, a5, a6] (st) ah Q = WP E c 96 30 [some (.ref x), a1, a2, a3, a4, a5, a6] (.ref x :: st) ah Q := wp_s i96_29 rfl rfl rfl rfl
theorem r96_29n {E : aEnv} {c : Nat} {ah : aHp} {st : List Value} {Q : Option Value → aHp → Prop} {a1 a2 a3 a4 a5 a6 : Option Value} : WP E c 96 29 [some .null, a1, a2, a3, a4, a5, a6] (st) ah Q = WP E c 96 30 [some .null, a1, a2, a3, a4, a5, a6] (.null :: st) ah Q := wp_s i96_29 rfl rfl rfl rfl
theorem i96_30 : insAt 96 30 = some (.getfield 6042, 33) := by decide +kernel
theorem r96_30 {E : aEnv} {c : Nat} {ah : aHp} {st : List Value} {Q : Option Value → aHp → Prop} {a0 a1 a2 a3 a4 a5 a6 : Option Value} {a : Nat} : WP E c 96 30 [a0, a1, a2, a3, a4, a5, a6] (.ref a :: st) ah Q = WPo (oGF (hg E ah a) 6 4) (fun v => WP E c 96 33 [a0, a1, a2, a3, a4, a5, a6] (v :: st) ah Q) := wp_getf i96_30
theorem i96_33 : insAt 96 33 = some (.iconst 0, 34) := by decide +kernel
theorem r96_33 {E : aEnv} {c : Nat} {ah : aHp} {st : List Value} {Q : Option Value → aHp → Prop} {a0 a1 a2 a3 a4 a5 a6 : Option Value} : WP E c 96 33 [a0, a1, a2, a3, a4, a5, a6] (st) ah Q = WP E c 96 34 [a0, a1, a2, a3, a4, a5, a6] (.int (0) :: st) ah Q := wp_s i96_33 rfl rfl rfl rfl
theorem i96_34 : insAt 96 34 = some (.iconst 7, 36) := by decide +kernel
theorem r96_34 {E : aEnv} {c : Nat} {ah : aHp} {st : List Value} {Q : Option Value → aHp → Prop} {a0 a1 a2 a3 a4 a5 a6 : Option Value} : WP E c 96 34 [a0, a1, a2, a3, a4, a5, a6] (st) ah Q = WP E c 96 36 [a0, a1, a2, a3, a4, a5, a6] (.int (7) :: st) ah Q := wp_s i96_34 rfl rfl rfl rfl
theorem i96_36 : insAt 96 36 = some (.ldc_w 2, 39) := by decide +kernel
-- 96 36 .ldc_w 2
theorem i96_39 : insAt 96 39 = some (.return_, 40) := by decide +kernel
theorem r96_39 {E : aEnv} {c : Nat} {ah : aHp} {Q : Option Value → aHp → Prop} {a0 a1 a2 a3 a4 a5 a6 : Option Value} : WP E c 96 39 [a0, a1, a2, a3, a4, a5, a6] ([]) ah Q = Q none ah := wp_rt i96_39 rfl
theorem i96_40 : insAt 96 40 = some (.iconst 0, 41) := by decide +kernel
theorem r96_40 {E : aEnv} {c : Nat} {ah : aHp} {st : List Value} {Q : Option Value → aHp → Prop} {a0 a1 a2 a3 a4 a5 a6 : Option Value} : WP E c 96 40 [a0, a1, a2, a3, a4, a5, a6] (st) ah Q = WP E c 96 41 [a0, a1, a2, a3, a4, a5, a6] (.int (0) :: st) ah Q := wp_s i96_40 rfl rfl rfl rfl
theorem i96_41 : insAt 96 41 = some (.istore 5, 43) := by decide +kernel
theorem r96_41 {E : aEnv} {c : Nat} {ah : aHp} {st : List Value} {Q : Option Value → aHp → Prop} {a0 a1 a2 a3 a4 a5 a6 : Option Value} {x : Int32} : WP E c 96 41 [a0, a1, a2, a3, a4, a5, a6] (.int x :: st) ah Q = WP E c 96 43 [a0, a1, a2, a3, kil a4, some (.int x), a6] (st) ah Q := wp_s i96_41 rfl rfl rfl rfl
theorem i96_43 : insAt 96 43 = some (.iload 5, 45) := by decide +kernel
theorem r96_43 {E : aEnv} {c : Nat} {ah : aHp} {st : List Value} {Q : Option Value → aHp → Prop} {a0 a1 a2 a3 a4 a6 : Option Value} {x : Int32} : WP E c 96 43 [a0, a1, a2, a3, a4, some (.int x), a6] (st) ah Q = WP E c 96 45 [a0, a1, a2, a3, a4, some (.int x), a6] (.int x :: st) ah Q := wp_s i96_43 rfl rfl rfl rfl
theorem i96_45 : insAt 96 45 = some (.iload 2, 46) := by decide +kernel
theorem r96_45 {E : aEnv} {c : Nat} {ah : aHp} {st : List Value} {Q : Option Value → aHp → Prop} {a0 a1 a3 a4 a5 a6 : Option Value} {x : Int32} : WP E c 96 45 [a0, a1, some (.int x), a3, a4, a5, a6] (st) ah Q = WP E c 96 46 [a0, a1, some (.int x), a3, a4, a5, a6] (.int x :: st) ah Q := wp_s i96_45 rfl rfl rfl rfl
theorem i96_46 : insAt 96 46 = some (.if_icmp .ge 155, 49) := by decide +kernel
theorem r96_46 {E : aEnv} {c : Nat} {ah : aHp} {st : List Value} {Q : Option Value → aHp → Prop} {a0 a1 a2 a3 a4 a5 a6 : Option Value} {x y : Int32} : WP E c 96 46 [a0, a1, a2, a3, a4, a5, a6] (.int y :: .int x :: st) ah Q = if y ≤ x then WP E c 96 155 [a0, a1, a2, a3, a4, a5, a6] st ah Q else WP E c 96 49 [a0, a1, a2, a3, a4, a5, a6] st ah Q := wp_j i96_46 rfl rfl rfl rfl
theorem i96_49 : insAt 96 49 = some (.aload 1, 50) := by decide +kernel
theorem r96_49 {E : aEnv} {c : Nat} {ah : aHp} {st : List Value} {Q : Option Value → aHp → Prop} {a0 a2 a3 a4 a5 a6 : Option Value} {x : Nat} : WP E c 96 49 [a0, some (.ref x), a2, a3, a4, a5, a6] (st) ah Q = WP E c 96 50 [a0, some (.ref x), a2, a3, a4, a5, a6] (.ref x :: st) ah Q := wp_s i96_49 rfl rfl rfl rfl
theorem r96_49n {E : aEnv} {c : Nat} {ah : aHp} {st : List Value} {Q : Option Value → aHp → Prop} {a0 a2 a3 a4 a5 a6 : Option Value} : WP E c 96 49 [a0, some .null, a2, a3, a4, a5, a6] (st) ah Q = WP E c 96 50 [a0, some .null, a2, a3, a4, a5, a6] (.null :: st) ah Q := wp_s i96_49 rfl rfl rfl rfl
theorem i96_50 : insAt 96 50 = some (.iload 5, 52) := by decide +kernel
theorem r96_50 {E : aEnv} {c : Nat} {ah : aHp} {st : List Value} {Q : Option Value → aHp → Prop} {a0 a1 a2 a3 a4 a6 : Option Value} {x : Int32} : WP E c 96 50 [a0, a1, a2, a3, a4, some (.int x), a6] (st) ah Q = WP E c 96 52 [a0, a1, a2, a3, a4, some (.int x), a6] (.int x :: st) ah Q := wp_s i96_50 rfl rfl rfl rfl
theorem i96_52 : insAt 96 52 = some (.aaload, 53) := by decide +kernel
theorem r96_52 {E : aEnv} {c : Nat} {ah : aHp} {st : List Value} {Q : Option Value → aHp → Prop} {a0 a1 a2 a3 a4 a5 a6 : Option Value} {i : Int32} {a : Nat} : WP E c 96 52 [a0, a1, a2, a3, a4, a5, a6] (.int i :: .ref a :: st) ah Q = WPo (gA E ah (.int i :: .ref a :: st)) (fun s9 => WP E c 96 53 [a0, a1, a2, a3, a4, a5, a6] s9 ah Q) := wp_hr i96_52 rfl rfl rfl rfl rfl rfl rfl rfl
theorem i96_53 : insAt 96 53 = some (.astore 6, 55) := by decide +kernel
theorem r96_53 {E : aEnv} {c : Nat} {ah : aHp} {st : List Value} {Q : Option Value → aHp → Prop} {a0 a1 a2 a3 a4 a5 a6 : Option Value} {x : Nat} : WP E c 96 53 [a0, a1, a2, a3, a4, a5, a6] (.ref x :: st) ah Q = WP E c 96 55 [a0, a1, a2, a3, a4, kil a5, some (.ref x)] (st) ah Q := wp_s i96_53 rfl rfl rfl rfl
theorem r96_53n {E : aEnv} {c : Nat} {ah : aHp} {st : List Value} {Q : Option Value → aHp → Prop} {a0 a1 a2 a3 a4 a5 a6 : Option Value} : WP E c 96 53 [a0, a1, a2, a3, a4, a5, a6] (.null :: st) ah Q = WP E c 96 55 [a0, a1, a2, a3, a4, kil a5, some .null] (st) ah Q := wp_s i96_53 rfl rfl rfl rfl
theorem i96_55 : insAt 96 55 = some (.aload 6, 57) := by decide +kernel
theorem r96_55 {E : aEnv} {c : Nat} {ah : aHp} {st : List Value} {Q : Option Value → aHp → Prop} {a0 a1 a2 a3 a4 a5 : Option Value} {x : Nat} : WP E c 96 55 [a0, a1, a2, a3, a4, a5, some (.ref x)] (st) ah Q = WP E c 96 57 [a0, a1, a2, a3, a4, a5, some (.ref x)] (.ref x :: st) ah Q := wp_s i96_55 rfl rfl rfl rfl
theorem r96_55n {E : aEnv} {c : Nat} {ah : aHp} {st : List Value} {Q : Option Value → aHp → Prop} {a0 a1 a2 a3 a4 a5 : Option Value} : WP E c 96 55 [a0, a1, a2, a3, a4, a5, some .null] (st) ah Q = WP E c 96 57 [a0, a1, a2, a3, a4, a5, some .null] (.null :: st) ah Q := wp_s i96_55 rfl rfl rfl rfl
theorem i96_57 : insAt 96 57 = some (.ifnull 149, 60) := by decide +kernel
theorem r96_57 {E : aEnv} {c : Nat} {ah : aHp} {st : List Value} {Q : Option Value → aHp → Prop} {a0 a1 a2 a3 a4 a5 a6 : Option Value} {x : Nat} : WP E c 96 57 [a0, a1, a2, a3, a4, a5, a6] (.ref x :: st) ah Q = WP E c 96 60 [a0, a1, a2, a3, a4, a5, a6] st ah Q := wp_s i96_57 rfl rfl rfl rfl
theorem r96_57n {E : aEnv} {c : Nat} {ah : aHp} {st : List Value} {Q : Option Value → aHp → Prop} {a0 a1 a2 a3 a4 a5 a6 : Option Value} : WP E c 96 57 [a0, a1, a2, a3, a4, a5, a6] (.null :: st) ah Q = WP E c 96 149 [a0, a1, a2, a3, a4, a5, a6] st ah Q := wp_s i96_57 rfl rfl rfl rfl
theorem i96_60 : insAt 96 60 = some (.aload 6, 62) := by decide +kernel
theorem r96_60 {E : aEnv} {c : Nat} {ah : aHp} {st : List Value} {Q : Option Value → aHp → Prop} {a0 a1 a2 a3 a4 a5 : Option Value} {x : Nat} : WP E c 96 60 [a0, a1, a2, a3, a4, a5, some (.ref x)] (st) ah Q = WP E c 96 62 [a0, a1, a2, a3, a4, a5, some (.ref x)] (.ref x :: st) ah Q := wp_s i96_60 rfl rfl rfl rfl
theorem r96_60n {E : aEnv} {c : Nat} {ah : aHp} {st : List Value} {Q : Option Value → aHp → Prop} {a0 a1 a2 a3 a4 a5 : Option Value} : WP E c 96 60 [a0, a1, a2, a3, a4, a5, some .null] (st) ah Q = WP E c 96 62 [a0, a1, a2, a3, a4, a5, some .null] (.null :: st) ah Q := wp_s i96_60 rfl rfl rfl rfl
theorem i96_62 : insAt 96 62 = some (.getfield 2000, 65) := by decide +kernel
theorem r96_62 {E : aEnv} {c : Nat} {ah : aHp} {st : List Value} {Q : Option Value → aHp → Prop} {a0 a1 a2 a3 a4 a5 a6 : Option Value} {a : Nat} : WP E c 96 62 [a0, a1, a2, a3, a4, a5, a6] (.ref a :: st) ah Q = WPo (oGF (hg E ah a) 2 0) (fun v => WP E c 96 65 [a0, a1, a2, a3, a4, a5, a6] (v :: st) ah Q) := wp_getf i96_62
theorem i96_65 : insAt 96 65 = some (.aload 0, 66) := by decide +kernel
theorem r96_65 {E : aEnv} {c : Nat} {ah : aHp} {st : List Value} {Q : Option Value → aHp → Prop} {a1 a2 a3 a4 a5 a6 : Option Value} {x : Nat} : WP E c 96 65 [some (.ref x), a1, a2, a3, a4, a5, a6] (st) ah Q = WP E c 96 66 [some (.ref x), a1, a2, a3, a4, a5, a6] (.ref x :: st) ah Q := wp_s i96_65 rfl rfl rfl rfl
theorem r96_65n {E : aEnv} {c : Nat} {ah : aHp} {st : List Value} {Q : Option Value → aHp → Prop} {a1 a2 a3 a4 a5 a6 : Option Value} : WP E c 96 65 [some .null, a1, a2, a3, a4, a5, a6] (st) ah Q = WP E c 96 66 [some .null, a1, a2, a3, a4, a5, a6] (.null :: st) ah Q := wp_s i96_65 rfl rfl rfl rfl
theorem i96_66 : insAt 96 66 = some (.getfield 6002, 69) := by decide +kernel
theorem r96_66 {E : aEnv} {c : Nat} {ah : aHp} {st : List Value} {Q : Option Value → aHp → Prop} {a0 a1 a2 a3 a4 a5 a6 : Option Value} {a : Nat} : WP E c 96 66 [a0, a1, a2, a3, a4, a5, a6] (.ref a :: st) ah Q = WPo (oGF (hg E ah a) 6 0) (fun v => WP E c 96 69 [a0, a1, a2, a3, a4, a5, a6] (v :: st) ah Q) := wp_getf i96_66
theorem i96_69 : insAt 96 69 = some (.iload 3, 70) := by decide +kernel
theorem r96_69 {E : aEnv} {c : Nat} {ah : aHp} {st : List Value} {Q : Option Value → aHp → Prop} {a0 a1 a2 a4 a5 a6 : Option Value} {x : Int32} : WP E c 96 69 [a0, a1, a2, some (.int x), a4, a5, a6] (st) ah Q = WP E c 96 70 [a0, a1, a2, some (.int x), a4, a5, a6] (.int x :: st) ah Q := wp_s i96_69 rfl rfl rfl rfl
theorem i96_70 : insAt 96 70 = some (.iaload, 71) := by decide +kernel
theorem r96_70 {E : aEnv} {c : Nat} {ah : aHp} {st : List Value} {Q : Option Value → aHp → Prop} {a0 a1 a2 a3 a4 a5 a6 : Option Value} {i : Int32} {a : Nat} : WP E c 96 70 [a0, a1, a2, a3, a4, a5, a6] (.int i :: .ref a :: st) ah Q = WPo (gI E ah (.int i :: .ref a :: st)) (fun s9 => WP E c 96 71 [a0, a1, a2, a3, a4, a5, a6] s9 ah Q) := wp_hr i96_70 rfl rfl rfl rfl rfl rfl rfl rfl
theorem i96_71 : insAt 96 71 = some (.if_icmp .lt 149, 74) := by decide +kernel
theorem r96_71 {E : aEnv} {c : Nat} {ah : aHp} {st : List Value} {Q : Option Value → aHp → Prop} {a0 a1 a2 a3 a4 a5 a6 : Option Value} {x y : Int32} : WP E c 96 71 [a0, a1, a2, a3, a4, a5, a6] (.int y :: .int x :: st) ah Q = if x < y then WP E c 96 149 [a0, a1, a2, a3, a4, a5, a6] st ah Q else WP E c 96 74 [a0, a1, a2, a3, a4, a5, a6] st ah Q := wp_j i96_71 rfl rfl rfl rfl
theorem i96_74 : insAt 96 74 = some (.aload 6, 76) := by decide +kernel
theorem r96_74 {E : aEnv} {c : Nat} {ah : aHp} {st : List Value} {Q : Option Value → aHp → Prop} {a0 a1 a2 a3 a4 a5 : Option Value} {x : Nat} : WP E c 96 74 [a0, a1, a2, a3, a4, a5, some (.ref x)] (st) ah Q = WP E c 96 76 [a0, a1, a2, a3, a4, a5, some (.ref x)] (.ref x :: st) ah Q := wp_s i96_74 rfl rfl rfl rfl
theorem r96_74n {E : aEnv} {c : Nat} {ah : aHp} {st : List Value} {Q : Option Value → aHp → Prop} {a0 a1 a2 a3 a4 a5 : Option Value} : WP E c 96 74 [a0, a1, a2, a3, a4, a5, some .null] (st) ah Q = WP E c 96 76 [a0, a1, a2, a3, a4, a5, some .null] (.null :: st) ah Q := wp_s i96_74 rfl rfl rfl rfl
theorem i96_76 : insAt 96 76 = some (.getfield 2010, 79) := by decide +kernel
theorem r96_76 {E : aEnv} {c : Nat} {ah : aHp} {st : List Value} {Q : Option Value → aHp → Prop} {a0 a1 a2 a3 a4 a5 a6 : Option Value} {a : Nat} : WP E c 96 76 [a0, a1, a2, a3, a4, a5, a6] (.ref a :: st) ah Q = WPo (oGF (hg E ah a) 2 1) (fun v => WP E c 96 79 [a0, a1, a2, a3, a4, a5, a6] (v :: st) ah Q) := wp_getf i96_76
theorem i96_79 : insAt 96 79 = some (.aload 0, 80) := by decide +kernel
theorem r96_79 {E : aEnv} {c : Nat} {ah : aHp} {st : List Value} {Q : Option Value → aHp → Prop} {a1 a2 a3 a4 a5 a6 : Option Value} {x : Nat} : WP E c 96 79 [some (.ref x), a1, a2, a3, a4, a5, a6] (st) ah Q = WP E c 96 80 [some (.ref x), a1, a2, a3, a4, a5, a6] (.ref x :: st) ah Q := wp_s i96_79 rfl rfl rfl rfl
theorem r96_79n {E : aEnv} {c : Nat} {ah : aHp} {st : List Value} {Q : Option Value → aHp → Prop} {a1 a2 a3 a4 a5 a6 : Option Value} : WP E c 96 79 [some .null, a1, a2, a3, a4, a5, a6] (st) ah Q = WP E c 96 80 [some .null, a1, a2, a3, a4, a5, a6] (.null :: st) ah Q := wp_s i96_79 rfl rfl rfl rfl
theorem i96_80 : insAt 96 80 = some (.getfield 6012, 83) := by decide +kernel
theorem r96_80 {E : aEnv} {c : Nat} {ah : aHp} {st : List Value} {Q : Option Value → aHp → Prop} {a0 a1 a2 a3 a4 a5 a6 : Option Value} {a : Nat} : WP E c 96 80 [a0, a1, a2, a3, a4, a5, a6] (.ref a :: st) ah Q = WPo (oGF (hg E ah a) 6 1) (fun v => WP E c 96 83 [a0, a1, a2, a3, a4, a5, a6] (v :: st) ah Q) := wp_getf i96_80
theorem i96_83 : insAt 96 83 = some (.iload 3, 84) := by decide +kernel
theorem r96_83 {E : aEnv} {c : Nat} {ah : aHp} {st : List Value} {Q : Option Value → aHp → Prop} {a0 a1 a2 a4 a5 a6 : Option Value} {x : Int32} : WP E c 96 83 [a0, a1, a2, some (.int x), a4, a5, a6] (st) ah Q = WP E c 96 84 [a0, a1, a2, some (.int x), a4, a5, a6] (.int x :: st) ah Q := wp_s i96_83 rfl rfl rfl rfl
theorem i96_84 : insAt 96 84 = some (.iaload, 85) := by decide +kernel
theorem r96_84 {E : aEnv} {c : Nat} {ah : aHp} {st : List Value} {Q : Option Value → aHp → Prop} {a0 a1 a2 a3 a4 a5 a6 : Option Value} {i : Int32} {a : Nat} : WP E c 96 84 [a0, a1, a2, a3, a4, a5, a6] (.int i :: .ref a :: st) ah Q = WPo (gI E ah (.int i :: .ref a :: st)) (fun s9 => WP E c 96 85 [a0, a1, a2, a3, a4, a5, a6] s9 ah Q) := wp_hr i96_84 rfl rfl rfl rfl rfl rfl rfl rfl
theorem i96_85 : insAt 96 85 = some (.if_icmp .lt 149, 88) := by decide +kernel
theorem r96_85 {E : aEnv} {c : Nat} {ah : aHp} {st : List Value} {Q : Option Value → aHp → Prop} {a0 a1 a2 a3 a4 a5 a6 : Option Value} {x y : Int32} : WP E c 96 85 [a0, a1, a2, a3, a4, a5, a6] (.int y :: .int x :: st) ah Q = if x < y then WP E c 96 149 [a0, a1, a2, a3, a4, a5, a6] st ah Q else WP E c 96 88 [a0, a1, a2, a3, a4, a5, a6] st ah Q := wp_j i96_85 rfl rfl rfl rfl
theorem i96_88 : insAt 96 88 = some (.aload 0, 89) := by decide +kernel
theorem r96_88 {E : aEnv} {c : Nat} {ah : aHp} {st : List Value} {Q : Option Value → aHp → Prop} {a1 a2 a3 a4 a5 a6 : Option Value} {x : Nat} : WP E c 96 88 [some (.ref x), a1, a2, a3, a4, a5, a6] (st) ah Q = WP E c 96 89 [some (.ref x), a1, a2, a3, a4, a5, a6] (.ref x :: st) ah Q := wp_s i96_88 rfl rfl rfl rfl
theorem r96_88n {E : aEnv} {c : Nat} {ah : aHp} {st : List Value} {Q : Option Value → aHp → Prop} {a1 a2 a3 a4 a5 a6 : Option Value} : WP E c 96 88 [some .null, a1, a2, a3, a4, a5, a6] (st) ah Q = WP E c 96 89 [some .null, a1, a2, a3, a4, a5, a6] (.null :: st) ah Q := wp_s i96_88 rfl rfl rfl rfl
theorem i96_89 : insAt 96 89 = some (.getfield 6032, 92) := by decide +kernel
theorem r96_89 {E : aEnv} {c : Nat} {ah : aHp} {st : List Value} {Q : Option Value → aHp → Prop} {a0 a1 a2 a3 a4 a5 a6 : Option Value} {a : Nat} : WP E c 96 89 [a0, a1, a2, a3, a4, a5, a6] (.ref a :: st) ah Q = WPo (oGF (hg E ah a) 6 3) (fun v => WP E c 96 92 [a0, a1, a2, a3, a4, a5, a6] (v :: st) ah Q) := wp_getf i96_89
theorem i96_92 : insAt 96 92 = some (.iload 3, 93) := by decide +kernel
theorem r96_92 {E : aEnv} {c : Nat} {ah : aHp} {st : List Value} {Q : Option Value → aHp → Prop} {a0 a1 a2 a4 a5 a6 : Option Value} {x : Int32} : WP E c 96 92 [a0, a1, a2, some (.int x), a4, a5, a6] (st) ah Q = WP E c 96 93 [a0, a1, a2, some (.int x), a4, a5, a6] (.int x :: st) ah Q := wp_s i96_92 rfl rfl rfl rfl
theorem i96_93 : insAt 96 93 = some (.iload 5, 95) := by decide +kernel
theorem r96_93 {E : aEnv} {c : Nat} {ah : aHp} {st : List Value} {Q : Option Value → aHp → Prop} {a0 a1 a2 a3 a4 a6 : Option Value} {x : Int32} : WP E c 96 93 [a0, a1, a2, a3, a4, some (.int x), a6] (st) ah Q = WP E c 96 95 [a0, a1, a2, a3, a4, some (.int x), a6] (.int x :: st) ah Q := wp_s i96_93 rfl rfl rfl rfl
theorem i96_95 : insAt 96 95 = some (.iastore, 96) := by decide +kernel
theorem r96_95 {E : aEnv} {c : Nat} {ah : aHp} {st : List Value} {Q : Option Value → aHp → Prop} {a0 a1 a2 a3 a4 a5 a6 : Option Value} {x : Int32} {i : Int32} {a : Nat} : WP E c 96 95 [a0, a1, a2, a3, a4, a5, a6] (.int x :: .int i :: .ref a :: st) ah Q = WPo (pI E ah (.int x :: .int i :: .ref a :: st)) (fun q9 => WP E c 96 96 [a0, a1, a2, a3, a4, a5, a6] q9.1 q9.2 Q) := wp_hw i96_95 rfl rfl rfl rfl rfl rfl rfl rfl
theorem i96_96 : insAt 96 96 = some (.aload 0, 97) := by decide +kernel
theorem r96_96 {E : aEnv} {c : Nat} {ah : aHp} {st : List Value} {Q : Option Value → aHp → Prop} {a1 a2 a3 a4 a5 a6 : Option Value} {x : Nat} : WP E c 96 96 [some (.ref x), a1, a2, a3, a4, a5, a6] (st) ah Q = WP E c 96 97 [some (.ref x), a1, a2, a3, a4, a5, a6] (.ref x :: st) ah Q := wp_s i96_96 rfl rfl rfl rfl
theorem r96_96n {E : aEnv} {c : Nat} {ah : aHp} {st : List Value} {Q : Option Value → aHp → Prop} {a1 a2 a3 a4 a5 a6 : Option Value} : WP E c 96 96 [some .null, a1, a2, a3, a4, a5, a6] (st) ah Q = WP E c 96 97 [some .null, a1, a2, a3, a4, a5, a6] (.null :: st) ah Q := wp_s i96_96 rfl rfl rfl rfl
theorem i96_97 : insAt 96 97 = some (.getfield 6052, 100) := by decide +kernel
theorem r96_97 {E : aEnv} {c : Nat} {ah : aHp} {st : List Value} {Q : Option Value → aHp → Prop} {a0 a1 a2 a3 a4 a5 a6 : Option Value} {a : Nat} : WP E c 96 97 [a0, a1, a2, a3, a4, a5, a6] (.ref a :: st) ah Q = WPo (oGF (hg E ah a) 6 5) (fun v => WP E c 96 100 [a0, a1, a2, a3, a4, a5, a6] (v :: st) ah Q) := wp_getf i96_97
theorem i96_100 : insAt 96 100 = some (.iload 5, 102) := by decide +kernel
theorem r96_100 {E : aEnv} {c : Nat} {ah : aHp} {st : List Value} {Q : Option Value → aHp → Prop} {a0 a1 a2 a3 a4 a6 : Option Value} {x : Int32} : WP E c 96 100 [a0, a1, a2, a3, a4, some (.int x), a6] (st) ah Q = WP E c 96 102 [a0, a1, a2, a3, a4, some (.int x), a6] (.int x :: st) ah Q := wp_s i96_100 rfl rfl rfl rfl
theorem i96_102 : insAt 96 102 = some (.dup2, 103) := by decide +kernel
theorem r96_102 {E : aEnv} {c : Nat} {ah : aHp} {st : List Value} {Q : Option Value → aHp → Prop} {a0 a1 a2 a3 a4 a5 a6 : Option Value} {x : Int32} {a : Nat} : WP E c 96 102 [a0, a1, a2, a3, a4, a5, a6] (.int x :: .ref a :: st) ah Q = WP E c 96 103 [a0, a1, a2, a3, a4, a5, a6] (.int x :: .ref a :: .int x :: .ref a :: st) ah Q := wp_s i96_102 rfl rfl rfl rfl
theorem r96_102l {E : aEnv} {c : Nat} {ah : aHp} {st : List Value} {Q : Option Value → aHp → Prop} {a0 a1 a2 a3 a4 a5 a6 : Option Value} {x : Int64} : WP E c 96 102 [a0, a1, a2, a3, a4, a5, a6] (.long x :: st) ah Q = WP E c 96 103 [a0, a1, a2, a3, a4, a5, a6] (.long x :: .long x :: st) ah Q := wp_s i96_102 rfl rfl rfl rfl
theorem i96_103 : insAt 96 103 = some (.iaload, 104) := by decide +kernel
theorem r96_103 {E : aEnv} {c : Nat} {ah : aHp} {st : List Value} {Q : Option Value → aHp → Prop} {a0 a1 a2 a3 a4 a5 a6 : Option Value} {i : Int32} {a : Nat} : WP E c 96 103 [a0, a1, a2, a3, a4, a5, a6] (.int i :: .ref a :: st) ah Q = WPo (gI E ah (.int i :: .ref a :: st)) (fun s9 => WP E c 96 104 [a0, a1, a2, a3, a4, a5, a6] s9 ah Q) := wp_hr i96_103 rfl rfl rfl rfl rfl rfl rfl rfl
theorem i96_104 : insAt 96 104 = some (.aload 0, 105) := by decide +kernel
theorem r96_104 {E : aEnv} {c : Nat} {ah : aHp} {st : List Value} {Q : Option Value → aHp → Prop} {a1 a2 a3 a4 a5 a6 : Option Value} {x : Nat} : WP E c 96 104 [some (.ref x), a1, a2, a3, a4, a5, a6] (st) ah Q = WP E c 96 105 [some (.ref x), a1, a2, a3, a4, a5, a6] (.ref x :: st) ah Q := wp_s i96_104 rfl rfl rfl rfl
theorem r96_104n {E : aEnv} {c : Nat} {ah : aHp} {st : List Value} {Q : Option Value → aHp → Prop} {a1 a2 a3 a4 a5 a6 : Option Value} : WP E c 96 104 [some .null, a1, a2, a3, a4, a5, a6] (st) ah Q = WP E c 96 105 [some .null, a1, a2, a3, a4, a5, a6] (.null :: st) ah Q := wp_s i96_104 rfl rfl rfl rfl
theorem i96_105 : insAt 96 105 = some (.getfield 6022, 108) := by decide +kernel
theorem r96_105 {E : aEnv} {c : Nat} {ah : aHp} {st : List Value} {Q : Option Value → aHp → Prop} {a0 a1 a2 a3 a4 a5 a6 : Option Value} {a : Nat} : WP E c 96 105 [a0, a1, a2, a3, a4, a5, a6] (.ref a :: st) ah Q = WPo (oGF (hg E ah a) 6 2) (fun v => WP E c 96 108 [a0, a1, a2, a3, a4, a5, a6] (v :: st) ah Q) := wp_getf i96_105
theorem i96_108 : insAt 96 108 = some (.iload 3, 109) := by decide +kernel
theorem r96_108 {E : aEnv} {c : Nat} {ah : aHp} {st : List Value} {Q : Option Value → aHp → Prop} {a0 a1 a2 a4 a5 a6 : Option Value} {x : Int32} : WP E c 96 108 [a0, a1, a2, some (.int x), a4, a5, a6] (st) ah Q = WP E c 96 109 [a0, a1, a2, some (.int x), a4, a5, a6] (.int x :: st) ah Q := wp_s i96_108 rfl rfl rfl rfl
theorem i96_109 : insAt 96 109 = some (.iaload, 110) := by decide +kernel
theorem r96_109 {E : aEnv} {c : Nat} {ah : aHp} {st : List Value} {Q : Option Value → aHp → Prop} {a0 a1 a2 a3 a4 a5 a6 : Option Value} {i : Int32} {a : Nat} : WP E c 96 109 [a0, a1, a2, a3, a4, a5, a6] (.int i :: .ref a :: st) ah Q = WPo (gI E ah (.int i :: .ref a :: st)) (fun s9 => WP E c 96 110 [a0, a1, a2, a3, a4, a5, a6] s9 ah Q) := wp_hr i96_109 rfl rfl rfl rfl rfl rfl rfl rfl
theorem i96_110 : insAt 96 110 = some (.iadd, 111) := by decide +kernel
theorem r96_110 {E : aEnv} {c : Nat} {ah : aHp} {st : List Value} {Q : Option Value → aHp → Prop} {a0 a1 a2 a3 a4 a5 a6 : Option Value} {x y : Int32} : WP E c 96 110 [a0, a1, a2, a3, a4, a5, a6] (.int y :: .int x :: st) ah Q = WP E c 96 111 [a0, a1, a2, a3, a4, a5, a6] (.int (x + y) :: st) ah Q := wp_s i96_110 rfl rfl rfl rfl
theorem i96_111 : insAt 96 111 = some (.iastore, 112) := by decide +kernel
theorem r96_111 {E : aEnv} {c : Nat} {ah : aHp} {st : List Value} {Q : Option Value → aHp → Prop} {a0 a1 a2 a3 a4 a5 a6 : Option Value} {x : Int32} {i : Int32} {a : Nat} : WP E c 96 111 [a0, a1, a2, a3, a4, a5, a6] (.int x :: .int i :: .ref a :: st) ah Q = WPo (pI E ah (.int x :: .int i :: .ref a :: st)) (fun q9 => WP E c 96 112 [a0, a1, a2, a3, a4, a5, a6] q9.1 q9.2 Q) := wp_hw i96_111 rfl rfl rfl rfl rfl rfl rfl rfl
theorem i96_112 : insAt 96 112 = some (.aload 0, 113) := by decide +kernel
theorem r96_112 {E : aEnv} {c : Nat} {ah : aHp} {st : List Value} {Q : Option Value → aHp → Prop} {a1 a2 a3 a4 a5 a6 : Option Value} {x : Nat} : WP E c 96 112 [some (.ref x), a1, a2, a3, a4, a5, a6] (st) ah Q = WP E c 96 113 [some (.ref x), a1, a2, a3, a4, a5, a6] (.ref x :: st) ah Q := wp_s i96_112 rfl rfl rfl rfl
theorem r96_112n {E : aEnv} {c : Nat} {ah : aHp} {st : List Value} {Q : Option Value → aHp → Prop} {a1 a2 a3 a4 a5 a6 : Option Value} : WP E c 96 112 [some .null, a1, a2, a3, a4, a5, a6] (st) ah Q = WP E c 96 113 [some .null, a1, a2, a3, a4, a5, a6] (.null :: st) ah Q := wp_s i96_112 rfl rfl rfl rfl
theorem i96_113 : insAt 96 113 = some (.aload 1, 114) := by decide +kernel
theorem r96_113 {E : aEnv} {c : Nat} {ah : aHp} {st : List Value} {Q : Option Value → aHp → Prop} {a0 a2 a3 a4 a5 a6 : Option Value} {x : Nat} : WP E c 96 113 [a0, some (.ref x), a2, a3, a4, a5, a6] (st) ah Q = WP E c 96 114 [a0, some (.ref x), a2, a3, a4, a5, a6] (.ref x :: st) ah Q := wp_s i96_113 rfl rfl rfl rfl
theorem r96_113n {E : aEnv} {c : Nat} {ah : aHp} {st : List Value} {Q : Option Value → aHp → Prop} {a0 a2 a3 a4 a5 a6 : Option Value} : WP E c 96 113 [a0, some .null, a2, a3, a4, a5, a6] (st) ah Q = WP E c 96 114 [a0, some .null, a2, a3, a4, a5, a6] (.null :: st) ah Q := wp_s i96_113 rfl rfl rfl rfl
theorem i96_114 : insAt 96 114 = some (.iload 2, 115) := by decide +kernel
theorem r96_114 {E : aEnv} {c : Nat} {ah : aHp} {st : List Value} {Q : Option Value → aHp → Prop} {a0 a1 a3 a4 a5 a6 : Option Value} {x : Int32} : WP E c 96 114 [a0, a1, some (.int x), a3, a4, a5, a6] (st) ah Q = WP E c 96 115 [a0, a1, some (.int x), a3, a4, a5, a6] (.int x :: st) ah Q := wp_s i96_114 rfl rfl rfl rfl
theorem i96_115 : insAt 96 115 = some (.iload 3, 116) := by decide +kernel
theorem r96_115 {E : aEnv} {c : Nat} {ah : aHp} {st : List Value} {Q : Option Value → aHp → Prop} {a0 a1 a2 a4 a5 a6 : Option Value} {x : Int32} : WP E c 96 115 [a0, a1, a2, some (.int x), a4, a5, a6] (st) ah Q = WP E c 96 116 [a0, a1, a2, some (.int x), a4, a5, a6] (.int x :: st) ah Q := wp_s i96_115 rfl rfl rfl rfl
theorem i96_116 : insAt 96 116 = some (.iconst 1, 117) := by decide +kernel
theorem r96_116 {E : aEnv} {c : Nat} {ah : aHp} {st : List Value} {Q : Option Value → aHp → Prop} {a0 a1 a2 a3 a4 a5 a6 : Option Value} : WP E c 96 116 [a0, a1, a2, a3, a4, a5, a6] (st) ah Q = WP E c 96 117 [a0, a1, a2, a3, a4, a5, a6] (.int (1) :: st) ah Q := wp_s i96_116 rfl rfl rfl rfl
theorem i96_117 : insAt 96 117 = some (.iadd, 118) := by decide +kernel
theorem r96_117 {E : aEnv} {c : Nat} {ah : aHp} {st : List Value} {Q : Option Value → aHp → Prop} {a0 a1 a2 a3 a4 a5 a6 : Option Value} {x y : Int32} : WP E c 96 117 [a0, a1, a2, a3, a4, a5, a6] (.int y :: .int x :: st) ah Q = WP E c 96 118 [a0, a1, a2, a3, a4, a5, a6] (.int (x + y) :: st) ah Q := wp_s i96_117 rfl rfl rfl rfl
theorem i96_118 : insAt 96 118 = some (.iload 4, 120) := by decide +kernel
theorem r96_118 {E : aEnv} {c : Nat} {ah : aHp} {st : List Value} {Q : Option Value → aHp → Prop} {a0 a1 a2 a3 a5 a6 : Option Value} {x : Int32} : WP E c 96 118 [a0, a1, a2, a3, some (.int x), a5, a6] (st) ah Q = WP E c 96 120 [a0, a1, a2, a3, some (.int x), a5, a6] (.int x :: st) ah Q := wp_s i96_118 rfl rfl rfl rfl
theorem i96_120 : insAt 96 120 = some (.aload 0, 121) := by decide +kernel
theorem r96_120 {E : aEnv} {c : Nat} {ah : aHp} {st : List Value} {Q : Option Value → aHp → Prop} {a1 a2 a3 a4 a5 a6 : Option Value} {x : Nat} : WP E c 96 120 [some (.ref x), a1, a2, a3, a4, a5, a6] (st) ah Q = WP E c 96 121 [some (.ref x), a1, a2, a3, a4, a5, a6] (.ref x :: st) ah Q := wp_s i96_120 rfl rfl rfl rfl
theorem r96_120n {E : aEnv} {c : Nat} {ah : aHp} {st : List Value} {Q : Option Value → aHp → Prop} {a1 a2 a3 a4 a5 a6 : Option Value} : WP E c 96 120 [some .null, a1, a2, a3, a4, a5, a6] (st) ah Q = WP E c 96 121 [some .null, a1, a2, a3, a4, a5, a6] (.null :: st) ah Q := wp_s i96_120 rfl rfl rfl rfl
theorem i96_121 : insAt 96 121 = some (.getfield 6052, 124) := by decide +kernel
theorem r96_121 {E : aEnv} {c : Nat} {ah : aHp} {st : List Value} {Q : Option Value → aHp → Prop} {a0 a1 a2 a3 a4 a5 a6 : Option Value} {a : Nat} : WP E c 96 121 [a0, a1, a2, a3, a4, a5, a6] (.ref a :: st) ah Q = WPo (oGF (hg E ah a) 6 5) (fun v => WP E c 96 124 [a0, a1, a2, a3, a4, a5, a6] (v :: st) ah Q) := wp_getf i96_121
theorem i96_124 : insAt 96 124 = some (.iload 5, 126) := by decide +kernel
theorem r96_124 {E : aEnv} {c : Nat} {ah : aHp} {st : List Value} {Q : Option Value → aHp → Prop} {a0 a1 a2 a3 a4 a6 : Option Value} {x : Int32} : WP E c 96 124 [a0, a1, a2, a3, a4, some (.int x), a6] (st) ah Q = WP E c 96 126 [a0, a1, a2, a3, a4, some (.int x), a6] (.int x :: st) ah Q := wp_s i96_124 rfl rfl rfl rfl
theorem i96_126 : insAt 96 126 = some (.iaload, 127) := by decide +kernel
theorem r96_126 {E : aEnv} {c : Nat} {ah : aHp} {st : List Value} {Q : Option Value → aHp → Prop} {a0 a1 a2 a3 a4 a5 a6 : Option Value} {i : Int32} {a : Nat} : WP E c 96 126 [a0, a1, a2, a3, a4, a5, a6] (.int i :: .ref a :: st) ah Q = WPo (gI E ah (.int i :: .ref a :: st)) (fun s9 => WP E c 96 127 [a0, a1, a2, a3, a4, a5, a6] s9 ah Q) := wp_hr i96_126 rfl rfl rfl rfl rfl rfl rfl rfl
theorem i96_127 : insAt 96 127 = some (.invokestatic 292, 130) := by decide +kernel
theorem r96_127 {E : aEnv} {c : Nat} {ah ah1 : aHp} {r : Option Value} {st : List Value} {Q : Option Value → aHp → Prop} {a0 a1 a2 a3 a4 a5 a6 : Option Value} {p0 : Int32} {p1 : Int32} (h : EV E c 292 [.int p0, .int p1] ah r ah1) (h3 : wds st ≤ 8) : WP E (c + 1) 96 127 [a0, a1, a2, a3, a4, a5, a6] (.int p1 :: .int p0 :: st) ah Q = WP E (c + 1) 96 130 [a0, a1, a2, a3, a4, a5, a6] (r.toList ++ st) ah1 Q := wp_call (As := [.int p0, .int p1]) i96_127 (fun _ => rfl) rfl mr292.1 rfl h3 (by rw [mr292.2.1]; exact Nat.le_of_ble_eq_true rfl) h
theorem i96_130 : insAt 96 130 = some (.invokestatic 96, 133) := by decide +kernel
theorem r96_130 {E : aEnv} {c : Nat} {ah ah1 : aHp} {r : Option Value} {st : List Value} {Q : Option Value → aHp → Prop} {a0 a1 a2 a3 a4 a5 a6 : Option Value} {p0 : Nat} {p1 : Nat} {p2 : Int32} {p3 : Int32} {p4 : Int32} (h : EV E c 96 [.ref p0, .ref p1, .int p2, .int p3, .int p4] ah r ah1) (h3 : wds st ≤ 8) : WP E (c + 1) 96 130 [a0, a1, a2, a3, a4, a5, a6] (.int p4 :: .int p3 :: .int p2 :: .ref p1 :: .ref p0 :: st) ah Q = WP E (c + 1) 96 133 [a0, a1, a2, a3, a4, a5, a6] (r.toList ++ st) ah1 Q := wp_call (As := [.ref p0, .ref p1, .int p2, .int p3, .int p4]) i96_130 (fun _ => rfl) rfl mr96.1 rfl h3 (by rw [mr96.2.1]; exact Nat.le_of_ble_eq_true rfl) h
theorem i96_133 : insAt 96 133 = some (.aload 0, 134) := by decide +kernel
theorem r96_133 {E : aEnv} {c : Nat} {ah : aHp} {st : List Value} {Q : Option Value → aHp → Prop} {a1 a2 a3 a4 a5 a6 : Option Value} {x : Nat} : WP E c 96 133 [some (.ref x), a1, a2, a3, a4, a5, a6] (st) ah Q = WP E c 96 134 [some (.ref x), a1, a2, a3, a4, a5, a6] (.ref x :: st) ah Q := wp_s i96_133 rfl rfl rfl rfl
theorem r96_133n {E : aEnv} {c : Nat} {ah : aHp} {st : List Value} {Q : Option Value → aHp → Prop} {a1 a2 a3 a4 a5 a6 : Option Value} : WP E c 96 133 [some .null, a1, a2, a3, a4, a5, a6] (st) ah Q = WP E c 96 134 [some .null, a1, a2, a3, a4, a5, a6] (.null :: st) ah Q := wp_s i96_133 rfl rfl rfl rfl
theorem i96_134 : insAt 96 134 = some (.getfield 6052, 137) := by decide +kernel
theorem r96_134 {E : aEnv} {c : Nat} {ah : aHp} {st : List Value} {Q : Option Value → aHp → Prop} {a0 a1 a2 a3 a4 a5 a6 : Option Value} {a : Nat} : WP E c 96 134 [a0, a1, a2, a3, a4, a5, a6] (.ref a :: st) ah Q = WPo (oGF (hg E ah a) 6 5) (fun v => WP E c 96 137 [a0, a1, a2, a3, a4, a5, a6] (v :: st) ah Q) := wp_getf i96_134
theorem i96_137 : insAt 96 137 = some (.iload 5, 139) := by decide +kernel
theorem r96_137 {E : aEnv} {c : Nat} {ah : aHp} {st : List Value} {Q : Option Value → aHp → Prop} {a0 a1 a2 a3 a4 a6 : Option Value} {x : Int32} : WP E c 96 137 [a0, a1, a2, a3, a4, some (.int x), a6] (st) ah Q = WP E c 96 139 [a0, a1, a2, a3, a4, some (.int x), a6] (.int x :: st) ah Q := wp_s i96_137 rfl rfl rfl rfl
theorem i96_139 : insAt 96 139 = some (.dup2, 140) := by decide +kernel
theorem r96_139 {E : aEnv} {c : Nat} {ah : aHp} {st : List Value} {Q : Option Value → aHp → Prop} {a0 a1 a2 a3 a4 a5 a6 : Option Value} {x : Int32} {a : Nat} : WP E c 96 139 [a0, a1, a2, a3, a4, a5, a6] (.int x :: .ref a :: st) ah Q = WP E c 96 140 [a0, a1, a2, a3, a4, a5, a6] (.int x :: .ref a :: .int x :: .ref a :: st) ah Q := wp_s i96_139 rfl rfl rfl rfl
theorem r96_139l {E : aEnv} {c : Nat} {ah : aHp} {st : List Value} {Q : Option Value → aHp → Prop} {a0 a1 a2 a3 a4 a5 a6 : Option Value} {x : Int64} : WP E c 96 139 [a0, a1, a2, a3, a4, a5, a6] (.long x :: st) ah Q = WP E c 96 140 [a0, a1, a2, a3, a4, a5, a6] (.long x :: .long x :: st) ah Q := wp_s i96_139 rfl rfl rfl rfl
theorem i96_140 : insAt 96 140 = some (.iaload, 141) := by decide +kernel
theorem r96_140 {E : aEnv} {c : Nat} {ah : aHp} {st : List Value} {Q : Option Value → aHp → Prop} {a0 a1 a2 a3 a4 a5 a6 : Option Value} {i : Int32} {a : Nat} : WP E c 96 140 [a0, a1, a2, a3, a4, a5, a6] (.int i :: .ref a :: st) ah Q = WPo (gI E ah (.int i :: .ref a :: st)) (fun s9 => WP E c 96 141 [a0, a1, a2, a3, a4, a5, a6] s9 ah Q) := wp_hr i96_140 rfl rfl rfl rfl rfl rfl rfl rfl
theorem i96_141 : insAt 96 141 = some (.aload 0, 142) := by decide +kernel
theorem r96_141 {E : aEnv} {c : Nat} {ah : aHp} {st : List Value} {Q : Option Value → aHp → Prop} {a1 a2 a3 a4 a5 a6 : Option Value} {x : Nat} : WP E c 96 141 [some (.ref x), a1, a2, a3, a4, a5, a6] (st) ah Q = WP E c 96 142 [some (.ref x), a1, a2, a3, a4, a5, a6] (.ref x :: st) ah Q := wp_s i96_141 rfl rfl rfl rfl
theorem r96_141n {E : aEnv} {c : Nat} {ah : aHp} {st : List Value} {Q : Option Value → aHp → Prop} {a1 a2 a3 a4 a5 a6 : Option Value} : WP E c 96 141 [some .null, a1, a2, a3, a4, a5, a6] (st) ah Q = WP E c 96 142 [some .null, a1, a2, a3, a4, a5, a6] (.null :: st) ah Q := wp_s i96_141 rfl rfl rfl rfl
theorem i96_142 : insAt 96 142 = some (.getfield 6022, 145) := by decide +kernel
theorem r96_142 {E : aEnv} {c : Nat} {ah : aHp} {st : List Value} {Q : Option Value → aHp → Prop} {a0 a1 a2 a3 a4 a5 a6 : Option Value} {a : Nat} : WP E c 96 142 [a0, a1, a2, a3, a4, a5, a6] (.ref a :: st) ah Q = WPo (oGF (hg E ah a) 6 2) (fun v => WP E c 96 145 [a0, a1, a2, a3, a4, a5, a6] (v :: st) ah Q) := wp_getf i96_142
theorem i96_145 : insAt 96 145 = some (.iload 3, 146) := by decide +kernel
theorem r96_145 {E : aEnv} {c : Nat} {ah : aHp} {st : List Value} {Q : Option Value → aHp → Prop} {a0 a1 a2 a4 a5 a6 : Option Value} {x : Int32} : WP E c 96 145 [a0, a1, a2, some (.int x), a4, a5, a6] (st) ah Q = WP E c 96 146 [a0, a1, a2, some (.int x), a4, a5, a6] (.int x :: st) ah Q := wp_s i96_145 rfl rfl rfl rfl
theorem i96_146 : insAt 96 146 = some (.iaload, 147) := by decide +kernel
theorem r96_146 {E : aEnv} {c : Nat} {ah : aHp} {st : List Value} {Q : Option Value → aHp → Prop} {a0 a1 a2 a3 a4 a5 a6 : Option Value} {i : Int32} {a : Nat} : WP E c 96 146 [a0, a1, a2, a3, a4, a5, a6] (.int i :: .ref a :: st) ah Q = WPo (gI E ah (.int i :: .ref a :: st)) (fun s9 => WP E c 96 147 [a0, a1, a2, a3, a4, a5, a6] s9 ah Q) := wp_hr i96_146 rfl rfl rfl rfl rfl rfl rfl rfl
theorem i96_147 : insAt 96 147 = some (.isub, 148) := by decide +kernel
theorem r96_147 {E : aEnv} {c : Nat} {ah : aHp} {st : List Value} {Q : Option Value → aHp → Prop} {a0 a1 a2 a3 a4 a5 a6 : Option Value} {x y : Int32} : WP E c 96 147 [a0, a1, a2, a3, a4, a5, a6] (.int y :: .int x :: st) ah Q = WP E c 96 148 [a0, a1, a2, a3, a4, a5, a6] (.int (x - y) :: st) ah Q := wp_s i96_147 rfl rfl rfl rfl
theorem i96_148 : insAt 96 148 = some (.iastore, 149) := by decide +kernel
theorem r96_148 {E : aEnv} {c : Nat} {ah : aHp} {st : List Value} {Q : Option Value → aHp → Prop} {a0 a1 a2 a3 a4 a5 a6 : Option Value} {x : Int32} {i : Int32} {a : Nat} : WP E c 96 148 [a0, a1, a2, a3, a4, a5, a6] (.int x :: .int i :: .ref a :: st) ah Q = WPo (pI E ah (.int x :: .int i :: .ref a :: st)) (fun q9 => WP E c 96 149 [a0, a1, a2, a3, a4, a5, a6] q9.1 q9.2 Q) := wp_hw i96_148 rfl rfl rfl rfl rfl rfl rfl rfl
theorem i96_149 : insAt 96 149 = some (.iinc 5 1, 152) := by decide +kernel
theorem r96_149 {E : aEnv} {c : Nat} {ah : aHp} {st : List Value} {Q : Option Value → aHp → Prop} {a0 a1 a2 a3 a4 a6 : Option Value} {x : Int32} : WP E c 96 149 [a0, a1, a2, a3, a4, some (.int x), a6] (st) ah Q = WP E c 96 152 [a0, a1, a2, a3, kil a4, some (.int (x + 1)), a6] (st) ah Q := wp_s i96_149 rfl rfl rfl rfl
theorem i96_152 : insAt 96 152 = some (.goto 43, 155) := by decide +kernel
theorem r96_152 {E : aEnv} {c : Nat} {ah : aHp} {st : List Value} {Q : Option Value → aHp → Prop} {a0 a1 a2 a3 a4 a5 a6 : Option Value} : WP E c 96 152 [a0, a1, a2, a3, a4, a5, a6] (st) ah Q = WP E c 96 43 [a0, a1, a2, a3, a4, a5, a6] st ah Q := wp_s i96_152 rfl rfl rfl rfl
theorem i96_155 : insAt 96 155 = some (.return_, 156) := by decide +kernel
theorem r96_155 {E : aEnv} {c : Nat} {ah : aHp} {Q : Option Value → aHp → Prop} {a0 a1 a2 a3 a4 a5 a6 : Option Value} : WP E c 96 155 [a0, a1, a2, a3, a4, a5, a6] ([]) ah Q = Q none ah := wp_rt i96_155 rfl
theorem e97 {E : aEnv} {c : Nat} {ah ahF : aHp} {r : Option Value} {p0 : Nat} (h : WP E c 97 0 [some (.ref p0)] [] ah (fun r1 x1 => r1 = r ∧ x1 = ahF)) : EV E c 97 [.ref p0] ah r ahF := EV.of (by rw [mr97.2.1]; exact h)
theorem i97_0 : insAt 97 0 = some (.aload 0, 1) := by decide +kernel
theorem r97_0 {E : aEnv} {c : Nat} {ah : aHp} {st : List Value} {Q : Option Value → aHp → Prop} {x : Nat} : WP E c 97 0 [some (.ref x)] (st) ah Q = WP E c 97 1 [some (.ref x)] (.ref x :: st) ah Q := wp_s i97_0 rfl rfl rfl rfl
theorem i97_1 : insAt 97 1 = some (.ldc_w 4, 4) := by decide +kernel
-- 97 1 .ldc_w 4
theorem i97_4 : insAt 97 4 = some (.aload 0, 5) := by decide +kernel
theorem r97_4 {E : aEnv} {c : Nat} {ah : aHp} {st : List Value} {Q : Option Value → aHp → Prop} {x : Nat} : WP E c 97 4 [some (.ref x)] (st) ah Q = WP E c 97 5 [some (.ref x)] (.ref x :: st) ah Q := wp_s i97_4 rfl rfl rfl rfl
theorem i97_5 : insAt 97 5 = some (.iconst 20, 7) := by decide +kernel
theorem r97_5 {E : aEnv} {c : Nat} {ah : aHp} {st : List Value} {Q : Option Value → aHp → Prop} {a0 : Option Value} : WP E c 97 5 [a0] (st) ah Q = WP E c 97 7 [a0] (.int (20) :: st) ah Q := wp_s i97_5 rfl rfl rfl rfl
theorem i97_7 : insAt 97 7 = some (.newarray .long, 9) := by decide +kernel
theorem r97_7 {E : aEnv} {c : Nat} {ah : aHp} {st : List Value} {Q : Option Value → aHp → Prop} {a0 : Option Value} {x : Int32} : WP E c 97 7 [a0] (.int x :: st) ah Q = WPo (nR E ah 1 (.int x :: st)) (fun q9 => WP E c 97 9 [a0] q9.1 q9.2 Q) := wp_hw i97_7 rfl rfl rfl rfl rfl rfl rfl rfl
theorem i97_9 : insAt 97 9 = some (.putfield 7002, 12) := by decide +kernel
theorem r97_9 {E : aEnv} {c : Nat} {ah : aHp} {st : List Value} {Q : Option Value → aHp → Prop} {a0 : Option Value} {a : Nat} {v : Value} : WP E c 97 9 [a0] (v :: .ref a :: st) ah Q = WPo (oPF (hg E ah a) 7002 v) (fun e => WP E c 97 12 [a0] st (hs E ah a e) Q) := wp_putf i97_9
theorem i97_12 : insAt 97 12 = some (.aload 0, 13) := by decide +kernel
theorem r97_12 {E : aEnv} {c : Nat} {ah : aHp} {st : List Value} {Q : Option Value → aHp → Prop} {x : Nat} : WP E c 97 12 [some (.ref x)] (st) ah Q = WP E c 97 13 [some (.ref x)] (.ref x :: st) ah Q := wp_s i97_12 rfl rfl rfl rfl
theorem i97_13 : insAt 97 13 = some (.iconst 40, 15) := by decide +kernel
theorem r97_13 {E : aEnv} {c : Nat} {ah : aHp} {st : List Value} {Q : Option Value → aHp → Prop} {a0 : Option Value} : WP E c 97 13 [a0] (st) ah Q = WP E c 97 15 [a0] (.int (40) :: st) ah Q := wp_s i97_13 rfl rfl rfl rfl
theorem i97_15 : insAt 97 15 = some (.newarray .long, 17) := by decide +kernel
theorem r97_15 {E : aEnv} {c : Nat} {ah : aHp} {st : List Value} {Q : Option Value → aHp → Prop} {a0 : Option Value} {x : Int32} : WP E c 97 15 [a0] (.int x :: st) ah Q = WPo (nR E ah 1 (.int x :: st)) (fun q9 => WP E c 97 17 [a0] q9.1 q9.2 Q) := wp_hw i97_15 rfl rfl rfl rfl rfl rfl rfl rfl
theorem i97_17 : insAt 97 17 = some (.putfield 7012, 20) := by decide +kernel
theorem r97_17 {E : aEnv} {c : Nat} {ah : aHp} {st : List Value} {Q : Option Value → aHp → Prop} {a0 : Option Value} {a : Nat} {v : Value} : WP E c 97 17 [a0] (v :: .ref a :: st) ah Q = WPo (oPF (hg E ah a) 7012 v) (fun e => WP E c 97 20 [a0] st (hs E ah a e) Q) := wp_putf i97_17
theorem i97_20 : insAt 97 20 = some (.return_, 21) := by decide +kernel
theorem r97_20 {E : aEnv} {c : Nat} {ah : aHp} {Q : Option Value → aHp → Prop} {a0 : Option Value} : WP E c 97 20 [a0] ([]) ah Q = Q none ah := wp_rt i97_20 rfl
theorem e98 {E : aEnv} {c : Nat} {ah ahF : aHp} {r : Option Value} {p0 : Nat} (h : WP E c 98 0 [some (.ref p0)] [] ah (fun r1 x1 => r1 = r ∧ x1 = ahF)) : EV E c 98 [.ref p0] ah r ahF := EV.of (by rw [mr98.2.1]; exact h)
theorem i98_0 : insAt 98 0 = some (.aload 0, 1) := by decide +kernel
theorem r98_0 {E : aEnv} {c : Nat} {ah : aHp} {st : List Value} {Q : Option Value → aHp → Prop} {x : Nat} : WP E c 98 0 [some (.ref x)] (st) ah Q = WP E c 98 1 [some (.ref x)] (.ref x :: st) ah Q := wp_s i98_0 rfl rfl rfl rfl
theorem i98_1 : insAt 98 1 = some (.getfield 7033, 4) := by decide +kernel
theorem r98_1 {E : aEnv} {c : Nat} {ah : aHp} {st : List Value} {Q : Option Value → aHp → Prop} {a0 : Option Value} {a : Nat} : WP E c 98 1 [a0] (.ref a :: st) ah Q = WPo (oGF (hg E ah a) 7 3) (fun v => WP E c 98 4 [a0] (v :: st) ah Q) := wp_getf i98_1
theorem i98_4 : insAt 98 4 = some (.freturn, 5) := by decide +kernel
theorem r98_4 {E : aEnv} {c : Nat} {ah : aHp} {Q : Option Value → aHp → Prop} {a0 : Option Value} {x : Int32} (hx : x = 0 ∨ x = 1) : WP E c 98 4 [a0] ([.int x]) ah Q = Q (some (.int x)) ah := wp_rt i98_4 (by simp only [rtA, if_pos hx])
theorem e99 {E : aEnv} {c : Nat} {ah ahF : aHp} {r : Option Value} {p0 : Nat} (h : WP E c 99 0 [some (.ref p0)] [] ah (fun r1 x1 => r1 = r ∧ x1 = ahF)) : EV E c 99 [.ref p0] ah r ahF := EV.of (by rw [mr99.2.1]; exact h)
theorem i99_0 : insAt 99 0 = some (.aload 0, 1) := by decide +kernel
theorem r99_0 {E : aEnv} {c : Nat} {ah : aHp} {st : List Value} {Q : Option Value → aHp → Prop} {x : Nat} : WP E c 99 0 [some (.ref x)] (st) ah Q = WP E c 99 1 [some (.ref x)] (.ref x :: st) ah Q := wp_s i99_0 rfl rfl rfl rfl
theorem i99_1 : insAt 99 1 = some (.getfield 7020, 4) := by decide +kernel
theorem r99_1 {E : aEnv} {c : Nat} {ah : aHp} {st : List Value} {Q : Option Value → aHp → Prop} {a0 : Option Value} {a : Nat} : WP E c 99 1 [a0] (.ref a :: st) ah Q = WPo (oGF (hg E ah a) 7 2) (fun v => WP E c 99 4 [a0] (v :: st) ah Q) := wp_getf i99_1
theorem i99_4 : insAt 99 4 = some (.ireturn, 5) := by decide +kernel
theorem r99_4 {E : aEnv} {c : Nat} {ah : aHp} {Q : Option Value → aHp → Prop} {a0 : Option Value} {x : Int32} : WP E c 99 4 [a0] ([.int x]) ah Q = Q (some (.int x)) ah := wp_rt i99_4 rfl
theorem e100 {E : aEnv} {c : Nat} {ah ahF : aHp} {r : Option Value} {p0 : Nat} {p1 : Int32} (h : WP E c 100 0 [some (.ref p0), some (.int p1)] [] ah (fun r1 x1 => r1 = r ∧ x1 = ahF)) : EV E c 100 [.ref p0, .int p1] ah r ahF := EV.of (by rw [mr100.2.1]; exact h)
theorem i100_0 : insAt 100 0 = some (.iload 1, 1) := by decide +kernel
theorem r100_0 {E : aEnv} {c : Nat} {ah : aHp} {st : List Value} {Q : Option Value → aHp → Prop} {a0 : Option Value} {x : Int32} : WP E c 100 0 [a0, some (.int x)] (st) ah Q = WP E c 100 1 [a0, some (.int x)] (.int x :: st) ah Q := wp_s i100_0 rfl rfl rfl rfl
theorem i100_1 : insAt 100 1 = some (.ifCond .lt 21, 4) := by decide +kernel
theorem r100_1 {E : aEnv} {c : Nat} {ah : aHp} {st : List Value} {Q : Option Value → aHp → Prop} {a0 a1 : Option Value} {x : Int32} : WP E c 100 1 [a0, a1] (.int x :: st) ah Q = if x < 0 then WP E c 100 21 [a0, a1] st ah Q else WP E c 100 4 [a0, a1] st ah Q := wp_j i100_1 rfl rfl rfl rfl
theorem i100_4 : insAt 100 4 = some (.iload 1, 5) := by decide +kernel
theorem r100_4 {E : aEnv} {c : Nat} {ah : aHp} {st : List Value} {Q : Option Value → aHp → Prop} {a0 : Option Value} {x : Int32} : WP E c 100 4 [a0, some (.int x)] (st) ah Q = WP E c 100 5 [a0, some (.int x)] (.int x :: st) ah Q := wp_s i100_4 rfl rfl rfl rfl
theorem i100_5 : insAt 100 5 = some (.aload 0, 6) := by decide +kernel
theorem r100_5 {E : aEnv} {c : Nat} {ah : aHp} {st : List Value} {Q : Option Value → aHp → Prop} {a1 : Option Value} {x : Nat} : WP E c 100 5 [some (.ref x), a1] (st) ah Q = WP E c 100 6 [some (.ref x), a1] (.ref x :: st) ah Q := wp_s i100_5 rfl rfl rfl rfl
theorem i100_6 : insAt 100 6 = some (.getfield 7020, 9) := by decide +kernel
theorem r100_6 {E : aEnv} {c : Nat} {ah : aHp} {st : List Value} {Q : Option Value → aHp → Prop} {a0 a1 : Option Value} {a : Nat} : WP E c 100 6 [a0, a1] (.ref a :: st) ah Q = WPo (oGF (hg E ah a) 7 2) (fun v => WP E c 100 9 [a0, a1] (v :: st) ah Q) := wp_getf i100_6
theorem i100_9 : insAt 100 9 = some (.if_icmp .ge 21, 12) := by decide +kernel
theorem r100_9 {E : aEnv} {c : Nat} {ah : aHp} {st : List Value} {Q : Option Value → aHp → Prop} {a0 a1 : Option Value} {x y : Int32} : WP E c 100 9 [a0, a1] (.int y :: .int x :: st) ah Q = if y ≤ x then WP E c 100 21 [a0, a1] st ah Q else WP E c 100 12 [a0, a1] st ah Q := wp_j i100_9 rfl rfl rfl rfl
theorem i100_12 : insAt 100 12 = some (.aload 0, 13) := by decide +kernel
theorem r100_12 {E : aEnv} {c : Nat} {ah : aHp} {st : List Value} {Q : Option Value → aHp → Prop} {a1 : Option Value} {x : Nat} : WP E c 100 12 [some (.ref x), a1] (st) ah Q = WP E c 100 13 [some (.ref x), a1] (.ref x :: st) ah Q := wp_s i100_12 rfl rfl rfl rfl
theorem i100_13 : insAt 100 13 = some (.getfield 7012, 16) := by decide +kernel
theorem r100_13 {E : aEnv} {c : Nat} {ah : aHp} {st : List Value} {Q : Option Value → aHp → Prop} {a0 a1 : Option Value} {a : Nat} : WP E c 100 13 [a0, a1] (.ref a :: st) ah Q = WPo (oGF (hg E ah a) 7 1) (fun v => WP E c 100 16 [a0, a1] (v :: st) ah Q) := wp_getf i100_13
theorem i100_16 : insAt 100 16 = some (.iload 1, 17) := by decide +kernel
theorem r100_16 {E : aEnv} {c : Nat} {ah : aHp} {st : List Value} {Q : Option Value → aHp → Prop} {a0 : Option Value} {x : Int32} : WP E c 100 16 [a0, some (.int x)] (st) ah Q = WP E c 100 17 [a0, some (.int x)] (.int x :: st) ah Q := wp_s i100_16 rfl rfl rfl rfl
theorem i100_17 : insAt 100 17 = some (.laload, 18) := by decide +kernel
theorem r100_17 {E : aEnv} {c : Nat} {ah : aHp} {st : List Value} {Q : Option Value → aHp → Prop} {a0 a1 : Option Value} {i : Int32} {a : Nat} : WP E c 100 17 [a0, a1] (.int i :: .ref a :: st) ah Q = WPo (gL E ah (.int i :: .ref a :: st)) (fun s9 => WP E c 100 18 [a0, a1] s9 ah Q) := wp_hr i100_17 rfl rfl rfl rfl rfl rfl rfl rfl
theorem i100_18 : insAt 100 18 = some (.goto 24, 21) := by decide +kernel
theorem r100_18 {E : aEnv} {c : Nat} {ah : aHp} {st : List Value} {Q : Option Value → aHp → Prop} {a0 a1 : Option Value} : WP E c 100 18 [a0, a1] (st) ah Q = WP E c 100 24 [a0, a1] st ah Q := wp_s i100_18 rfl rfl rfl rfl
theorem i100_21 : insAt 100 21 = some (.jsr_w (-1), 24) := by decide +kernel
theorem r100_21 {E : aEnv} {c : Nat} {ah : aHp} {st : List Value} {Q : Option Value → aHp → Prop} {a0 a1 : Option Value} : WP E c 100 21 [a0, a1] (st) ah Q = WP E c 100 24 [a0, a1] (.long ((-1)) :: st) ah Q := wp_s i100_21 rfl rfl rfl rfl
theorem i100_24 : insAt 100 24 = some (.lreturn, 25) := by decide +kernel
theorem r100_24 {E : aEnv} {c : Nat} {ah : aHp} {Q : Option Value → aHp → Prop} {a0 a1 : Option Value} {x : Int64} : WP E c 100 24 [a0, a1] ([.long x]) ah Q = Q (some (.long x)) ah := wp_rt i100_24 rfl
theorem e101 {E : aEnv} {c : Nat} {ah ahF : aHp} {r : Option Value} {p0 : Nat} {p1 : Int32} (h : WP E c 101 0 [some (.ref p0), some (.int p1)] [] ah (fun r1 x1 => r1 = r ∧ x1 = ahF)) : EV E c 101 [.ref p0, .int p1] ah r ahF := EV.of (by rw [mr101.2.1]; exact h)
theorem i101_0 : insAt 101 0 = some (.iload 1, 1) := by decide +kernel
theorem r101_0 {E : aEnv} {c : Nat} {ah : aHp} {st : List Value} {Q : Option Value → aHp → Prop} {a0 : Option Value} {x : Int32} : WP E c 101 0 [a0, some (.int x)] (st) ah Q = WP E c 101 1 [a0, some (.int x)] (.int x :: st) ah Q := wp_s i101_0 rfl rfl rfl rfl
theorem i101_1 : insAt 101 1 = some (.ifCond .lt 19, 4) := by decide +kernel
theorem r101_1 {E : aEnv} {c : Nat} {ah : aHp} {st : List Value} {Q : Option Value → aHp → Prop} {a0 a1 : Option Value} {x : Int32} : WP E c 101 1 [a0, a1] (.int x :: st) ah Q = if x < 0 then WP E c 101 19 [a0, a1] st ah Q else WP E c 101 4 [a0, a1] st ah Q := wp_j i101_1 rfl rfl rfl rfl
theorem i101_4 : insAt 101 4 = some (.iload 1, 5) := by decide +kernel
theorem r101_4 {E : aEnv} {c : Nat} {ah : aHp} {st : List Value} {Q : Option Value → aHp → Prop} {a0 : Option Value} {x : Int32} : WP E c 101 4 [a0, some (.int x)] (st) ah Q = WP E c 101 5 [a0, some (.int x)] (.int x :: st) ah Q := wp_s i101_4 rfl rfl rfl rfl
theorem i101_5 : insAt 101 5 = some (.iconst 20, 7) := by decide +kernel
theorem r101_5 {E : aEnv} {c : Nat} {ah : aHp} {st : List Value} {Q : Option Value → aHp → Prop} {a0 a1 : Option Value} : WP E c 101 5 [a0, a1] (st) ah Q = WP E c 101 7 [a0, a1] (.int (20) :: st) ah Q := wp_s i101_5 rfl rfl rfl rfl
theorem i101_7 : insAt 101 7 = some (.if_icmp .ge 19, 10) := by decide +kernel
theorem r101_7 {E : aEnv} {c : Nat} {ah : aHp} {st : List Value} {Q : Option Value → aHp → Prop} {a0 a1 : Option Value} {x y : Int32} : WP E c 101 7 [a0, a1] (.int y :: .int x :: st) ah Q = if y ≤ x then WP E c 101 19 [a0, a1] st ah Q else WP E c 101 10 [a0, a1] st ah Q := wp_j i101_7 rfl rfl rfl rfl
theorem i101_10 : insAt 101 10 = some (.aload 0, 11) := by decide +kernel
theorem r101_10 {E : aEnv} {c : Nat} {ah : aHp} {st : List Value} {Q : Option Value → aHp → Prop} {a1 : Option Value} {x : Nat} : WP E c 101 10 [some (.ref x), a1] (st) ah Q = WP E c 101 11 [some (.ref x), a1] (.ref x :: st) ah Q := wp_s i101_10 rfl rfl rfl rfl
theorem i101_11 : insAt 101 11 = some (.getfield 7002, 14) := by decide +kernel
theorem r101_11 {E : aEnv} {c : Nat} {ah : aHp} {st : List Value} {Q : Option Value → aHp → Prop} {a0 a1 : Option Value} {a : Nat} : WP E c 101 11 [a0, a1] (.ref a :: st) ah Q = WPo (oGF (hg E ah a) 7 0) (fun v => WP E c 101 14 [a0, a1] (v :: st) ah Q) := wp_getf i101_11
theorem i101_14 : insAt 101 14 = some (.iload 1, 15) := by decide +kernel
theorem r101_14 {E : aEnv} {c : Nat} {ah : aHp} {st : List Value} {Q : Option Value → aHp → Prop} {a0 : Option Value} {x : Int32} : WP E c 101 14 [a0, some (.int x)] (st) ah Q = WP E c 101 15 [a0, some (.int x)] (.int x :: st) ah Q := wp_s i101_14 rfl rfl rfl rfl
theorem i101_15 : insAt 101 15 = some (.laload, 16) := by decide +kernel
theorem r101_15 {E : aEnv} {c : Nat} {ah : aHp} {st : List Value} {Q : Option Value → aHp → Prop} {a0 a1 : Option Value} {i : Int32} {a : Nat} : WP E c 101 15 [a0, a1] (.int i :: .ref a :: st) ah Q = WPo (gL E ah (.int i :: .ref a :: st)) (fun s9 => WP E c 101 16 [a0, a1] s9 ah Q) := wp_hr i101_15 rfl rfl rfl rfl rfl rfl rfl rfl
theorem i101_16 : insAt 101 16 = some (.goto 20, 19) := by decide +kernel
theorem r101_16 {E : aEnv} {c : Nat} {ah : aHp} {st : List Value} {Q : Option Value → aHp → Prop} {a0 a1 : Option Value} : WP E c 101 16 [a0, a1] (st) ah Q = WP E c 101 20 [a0, a1] st ah Q := wp_s i101_16 rfl rfl rfl rfl
theorem i101_19 : insAt 101 19 = some (.jsr_w 0, 20) := by decide +kernel
theorem r101_19 {E : aEnv} {c : Nat} {ah : aHp} {st : List Value} {Q : Option Value → aHp → Prop} {a0 a1 : Option Value} : WP E c 101 19 [a0, a1] (st) ah Q = WP E c 101 20 [a0, a1] (.long (0) :: st) ah Q := wp_s i101_19 rfl rfl rfl rfl
theorem i101_20 : insAt 101 20 = some (.lreturn, 21) := by decide +kernel
theorem r101_20 {E : aEnv} {c : Nat} {ah : aHp} {Q : Option Value → aHp → Prop} {a0 a1 : Option Value} {x : Int64} : WP E c 101 20 [a0, a1] ([.long x]) ah Q = Q (some (.long x)) ah := wp_rt i101_20 rfl
theorem e102 {E : aEnv} {c : Nat} {ah ahF : aHp} {r : Option Value} {p0 : Nat} {p1 : Int32} (h : WP E c 102 0 [some (.ref p0), some (.int p1)] [] ah (fun r1 x1 => r1 = r ∧ x1 = ahF)) : EV E c 102 [.ref p0, .int p1] ah r ahF := EV.of (by rw [mr102.2.1]; exact h)
theorem i102_0 : insAt 102 0 = some (.iload 1, 1) := by decide +kernel
theorem r102_0 {E : aEnv} {c : Nat} {ah : aHp} {st : List Value} {Q : Option Value → aHp → Prop} {a0 : Option Value} {x : Int32} : WP E c 102 0 [a0, some (.int x)] (st) ah Q = WP E c 102 1 [a0, some (.int x)] (.int x :: st) ah Q := wp_s i102_0 rfl rfl rfl rfl
theorem i102_1 : insAt 102 1 = some (.tableswitch 43 0 2 #[28, 33, 38], 28) := by decide +kernel
theorem r102_1_0 {E : aEnv} {c : Nat} {ah : aHp} {st : List Value} {Q : Option Value → aHp → Prop} {a0 a1 : Option Value} : WP E c 102 1 [a0, a1] (.int 0 :: st) ah Q = WP E c 102 28 [a0, a1] st ah Q := wp_s i102_1 rfl rfl rfl rfl
theorem r102_1_1 {E : aEnv} {c : Nat} {ah : aHp} {st : List Value} {Q : Option Value → aHp → Prop} {a0 a1 : Option Value} : WP E c 102 1 [a0, a1] (.int 1 :: st) ah Q = WP E c 102 33 [a0, a1] st ah Q := wp_s i102_1 rfl rfl rfl rfl
theorem r102_1_2 {E : aEnv} {c : Nat} {ah : aHp} {st : List Value} {Q : Option Value → aHp → Prop} {a0 a1 : Option Value} : WP E c 102 1 [a0, a1] (.int 2 :: st) ah Q = WP E c 102 38 [a0, a1] st ah Q := wp_s i102_1 rfl rfl rfl rfl
theorem r102_1_d {E : aEnv} {c : Nat} {ah : aHp} {st : List Value} {Q : Option Value → aHp → Prop} {a0 a1 : Option Value} {x : Int32} (hx : x.toInt < 0 ∨ 2 < x.toInt) : WP E c 102 1 [a0, a1] (.int x :: st) ah Q = WP E c 102 43 [a0, a1] st ah Q := wp_st (z := (43, [a0, a1], st, ah)) i102_1 rfl rfl rfl (by simp only [st1, skA, ldA, soA, jpA, jT, if_pos hx]; rfl)
theorem i102_28 : insAt 102 28 = some (.aload 0, 29) := by decide +kernel
theorem r102_28 {E : aEnv} {c : Nat} {ah : aHp} {st : List Value} {Q : Option Value → aHp → Prop} {a1 : Option Value} {x : Nat} : WP E c 102 28 [some (.ref x), a1] (st) ah Q = WP E c 102 29 [some (.ref x), a1] (.ref x :: st) ah Q := wp_s i102_28 rfl rfl rfl rfl
theorem i102_29 : insAt 102 29 = some (.getfield 7060, 32) := by decide +kernel
theorem r102_29 {E : aEnv} {c : Nat} {ah : aHp} {st : List Value} {Q : Option Value → aHp → Prop} {a0 a1 : Option Value} {a : Nat} : WP E c 102 29 [a0, a1] (.ref a :: st) ah Q = WPo (oGF (hg E ah a) 7 6) (fun v => WP E c 102 32 [a0, a1] (v :: st) ah Q) := wp_getf i102_29
theorem i102_32 : insAt 102 32 = some (.ireturn, 33) := by decide +kernel
theorem r102_32 {E : aEnv} {c : Nat} {ah : aHp} {Q : Option Value → aHp → Prop} {a0 a1 : Option Value} {x : Int32} : WP E c 102 32 [a0, a1] ([.int x]) ah Q = Q (some (.int x)) ah := wp_rt i102_32 rfl
theorem i102_33 : insAt 102 33 = some (.aload 0, 34) := by decide +kernel
theorem r102_33 {E : aEnv} {c : Nat} {ah : aHp} {st : List Value} {Q : Option Value → aHp → Prop} {a1 : Option Value} {x : Nat} : WP E c 102 33 [some (.ref x), a1] (st) ah Q = WP E c 102 34 [some (.ref x), a1] (.ref x :: st) ah Q := wp_s i102_33 rfl rfl rfl rfl
theorem i102_34 : insAt 102 34 = some (.getfield 7070, 37) := by decide +kernel
theorem r102_34 {E : aEnv} {c : Nat} {ah : aHp} {st : List Value} {Q : Option Value → aHp → Prop} {a0 a1 : Option Value} {a : Nat} : WP E c 102 34 [a0, a1] (.ref a :: st) ah Q = WPo (oGF (hg E ah a) 7 7) (fun v => WP E c 102 37 [a0, a1] (v :: st) ah Q) := wp_getf i102_34
theorem i102_37 : insAt 102 37 = some (.ireturn, 38) := by decide +kernel
theorem r102_37 {E : aEnv} {c : Nat} {ah : aHp} {Q : Option Value → aHp → Prop} {a0 a1 : Option Value} {x : Int32} : WP E c 102 37 [a0, a1] ([.int x]) ah Q = Q (some (.int x)) ah := wp_rt i102_37 rfl
theorem i102_38 : insAt 102 38 = some (.aload 0, 39) := by decide +kernel
theorem r102_38 {E : aEnv} {c : Nat} {ah : aHp} {st : List Value} {Q : Option Value → aHp → Prop} {a1 : Option Value} {x : Nat} : WP E c 102 38 [some (.ref x), a1] (st) ah Q = WP E c 102 39 [some (.ref x), a1] (.ref x :: st) ah Q := wp_s i102_38 rfl rfl rfl rfl
theorem i102_39 : insAt 102 39 = some (.getfield 7080, 42) := by decide +kernel
theorem r102_39 {E : aEnv} {c : Nat} {ah : aHp} {st : List Value} {Q : Option Value → aHp → Prop} {a0 a1 : Option Value} {a : Nat} : WP E c 102 39 [a0, a1] (.ref a :: st) ah Q = WPo (oGF (hg E ah a) 7 8) (fun v => WP E c 102 42 [a0, a1] (v :: st) ah Q) := wp_getf i102_39
theorem i102_42 : insAt 102 42 = some (.ireturn, 43) := by decide +kernel
theorem r102_42 {E : aEnv} {c : Nat} {ah : aHp} {Q : Option Value → aHp → Prop} {a0 a1 : Option Value} {x : Int32} : WP E c 102 42 [a0, a1] ([.int x]) ah Q = Q (some (.int x)) ah := wp_rt i102_42 rfl
theorem i102_43 : insAt 102 43 = some (.aload 0, 44) := by decide +kernel
theorem r102_43 {E : aEnv} {c : Nat} {ah : aHp} {st : List Value} {Q : Option Value → aHp → Prop} {a1 : Option Value} {x : Nat} : WP E c 102 43 [some (.ref x), a1] (st) ah Q = WP E c 102 44 [some (.ref x), a1] (.ref x :: st) ah Q := wp_s i102_43 rfl rfl rfl rfl
theorem i102_44 : insAt 102 44 = some (.getfield 7090, 47) := by decide +kernel
theorem r102_44 {E : aEnv} {c : Nat} {ah : aHp} {st : List Value} {Q : Option Value → aHp → Prop} {a0 a1 : Option Value} {a : Nat} : WP E c 102 44 [a0, a1] (.ref a :: st) ah Q = WPo (oGF (hg E ah a) 7 9) (fun v => WP E c 102 47 [a0, a1] (v :: st) ah Q) := wp_getf i102_44
theorem i102_47 : insAt 102 47 = some (.ireturn, 48) := by decide +kernel
theorem r102_47 {E : aEnv} {c : Nat} {ah : aHp} {Q : Option Value → aHp → Prop} {a0 a1 : Option Value} {x : Int32} : WP E c 102 47 [a0, a1] ([.int x]) ah Q = Q (some (.int x)) ah := wp_rt i102_47 rfl
theorem e103 {E : aEnv} {c : Nat} {ah ahF : aHp} {r : Option Value} {p0 : Nat} {p1 : Nat} (h : WP E c 103 0 [some (.ref p0), some (.ref p1), none] [] ah (fun r1 x1 => r1 = r ∧ x1 = ahF)) : EV E c 103 [.ref p0, .ref p1] ah r ahF := EV.of (by rw [mr103.2.1]; exact h)
theorem i103_0 : insAt 103 0 = some (.aload 0, 1) := by decide +kernel
theorem r103_0 {E : aEnv} {c : Nat} {ah : aHp} {st : List Value} {Q : Option Value → aHp → Prop} {a1 a2 : Option Value} {x : Nat} : WP E c 103 0 [some (.ref x), a1, a2] (st) ah Q = WP E c 103 1 [some (.ref x), a1, a2] (.ref x :: st) ah Q := wp_s i103_0 rfl rfl rfl rfl
theorem i103_1 : insAt 103 1 = some (.invokevirtual 104, 4) := by decide +kernel
theorem r103_1 {E : aEnv} {c : Nat} {ah ah1 : aHp} {r : Option Value} {st : List Value} {Q : Option Value → aHp → Prop} {a0 a1 a2 : Option Value} {p0 : Nat} (h : EV E c 104 [.ref p0] ah r ah1) (h2 : oCI (hg E ah p0) = 7) (h3 : wds st ≤ 8) : WP E (c + 1) 103 1 [a0, a1, a2] (.ref p0 :: st) ah Q = WP E (c + 1) 103 4 [a0, a1, a2] (r.toList ++ st) ah1 Q := wp_call (As := [.ref p0]) i103_1 (fun _ => rfl) rfl mr104.1 (rcv_1 h2 mr104.2.2 (by decide)) h3 (by rw [mr104.2.1]; exact Nat.le_of_ble_eq_true rfl) h
theorem i103_4 : insAt 103 4 = some (.iconst 0, 5) := by decide +kernel
theorem r103_4 {E : aEnv} {c : Nat} {ah : aHp} {st : List Value} {Q : Option Value → aHp → Prop} {a0 a1 a2 : Option Value} : WP E c 103 4 [a0, a1, a2] (st) ah Q = WP E c 103 5 [a0, a1, a2] (.int (0) :: st) ah Q := wp_s i103_4 rfl rfl rfl rfl
theorem i103_5 : insAt 103 5 = some (.istore 2, 6) := by decide +kernel
theorem r103_5 {E : aEnv} {c : Nat} {ah : aHp} {st : List Value} {Q : Option Value → aHp → Prop} {a0 a1 a2 : Option Value} {x : Int32} : WP E c 103 5 [a0, a1, a2] (.int x :: st) ah Q = WP E c 103 6 [a0, kil a1, some (.int x)] (st) ah Q := wp_s i103_5 rfl rfl rfl rfl
theorem i103_6 : insAt 103 6 = some (.iload 2, 7) := by decide +kernel
theorem r103_6 {E : aEnv} {c : Nat} {ah : aHp} {st : List Value} {Q : Option Value → aHp → Prop} {a0 a1 : Option Value} {x : Int32} : WP E c 103 6 [a0, a1, some (.int x)] (st) ah Q = WP E c 103 7 [a0, a1, some (.int x)] (.int x :: st) ah Q := wp_s i103_6 rfl rfl rfl rfl
theorem i103_7 : insAt 103 7 = some (.iconst 5000, 10) := by decide +kernel
theorem r103_7 {E : aEnv} {c : Nat} {ah : aHp} {st : List Value} {Q : Option Value → aHp → Prop} {a0 a1 a2 : Option Value} : WP E c 103 7 [a0, a1, a2] (st) ah Q = WP E c 103 10 [a0, a1, a2] (.int (5000) :: st) ah Q := wp_s i103_7 rfl rfl rfl rfl
theorem i103_10 : insAt 103 10 = some (.if_icmp .gt 88, 13) := by decide +kernel
theorem r103_10 {E : aEnv} {c : Nat} {ah : aHp} {st : List Value} {Q : Option Value → aHp → Prop} {a0 a1 a2 : Option Value} {x y : Int32} : WP E c 103 10 [a0, a1, a2] (.int y :: .int x :: st) ah Q = if y < x then WP E c 103 88 [a0, a1, a2] st ah Q else WP E c 103 13 [a0, a1, a2] st ah Q := wp_j i103_10 rfl rfl rfl rfl
theorem i103_13 : insAt 103 13 = some (.aload 0, 14) := by decide +kernel
theorem r103_13 {E : aEnv} {c : Nat} {ah : aHp} {st : List Value} {Q : Option Value → aHp → Prop} {a1 a2 : Option Value} {x : Nat} : WP E c 103 13 [some (.ref x), a1, a2] (st) ah Q = WP E c 103 14 [some (.ref x), a1, a2] (.ref x :: st) ah Q := wp_s i103_13 rfl rfl rfl rfl
theorem i103_14 : insAt 103 14 = some (.getfield 7070, 17) := by decide +kernel
theorem r103_14 {E : aEnv} {c : Nat} {ah : aHp} {st : List Value} {Q : Option Value → aHp → Prop} {a0 a1 a2 : Option Value} {a : Nat} : WP E c 103 14 [a0, a1, a2] (.ref a :: st) ah Q = WPo (oGF (hg E ah a) 7 7) (fun v => WP E c 103 17 [a0, a1, a2] (v :: st) ah Q) := wp_getf i103_14
theorem i103_17 : insAt 103 17 = some (.ifCond .ne 88, 20) := by decide +kernel
theorem r103_17 {E : aEnv} {c : Nat} {ah : aHp} {st : List Value} {Q : Option Value → aHp → Prop} {a0 a1 a2 : Option Value} {x : Int32} : WP E c 103 17 [a0, a1, a2] (.int x :: st) ah Q = if ¬ x = 0 then WP E c 103 88 [a0, a1, a2] st ah Q else WP E c 103 20 [a0, a1, a2] st ah Q := wp_j i103_17 rfl rfl rfl rfl
theorem i103_20 : insAt 103 20 = some (.aload 1, 21) := by decide +kernel
theorem r103_20 {E : aEnv} {c : Nat} {ah : aHp} {st : List Value} {Q : Option Value → aHp → Prop} {a0 a2 : Option Value} {x : Nat} : WP E c 103 20 [a0, some (.ref x), a2] (st) ah Q = WP E c 103 21 [a0, some (.ref x), a2] (.ref x :: st) ah Q := wp_s i103_20 rfl rfl rfl rfl
theorem r103_20n {E : aEnv} {c : Nat} {ah : aHp} {st : List Value} {Q : Option Value → aHp → Prop} {a0 a2 : Option Value} : WP E c 103 20 [a0, some .null, a2] (st) ah Q = WP E c 103 21 [a0, some .null, a2] (.null :: st) ah Q := wp_s i103_20 rfl rfl rfl rfl
theorem i103_21 : insAt 103 21 = some (.aload 0, 22) := by decide +kernel
theorem r103_21 {E : aEnv} {c : Nat} {ah : aHp} {st : List Value} {Q : Option Value → aHp → Prop} {a1 a2 : Option Value} {x : Nat} : WP E c 103 21 [some (.ref x), a1, a2] (st) ah Q = WP E c 103 22 [some (.ref x), a1, a2] (.ref x :: st) ah Q := wp_s i103_21 rfl rfl rfl rfl
theorem i103_22 : insAt 103 22 = some (.getfield 7050, 25) := by decide +kernel
theorem r103_22 {E : aEnv} {c : Nat} {ah : aHp} {st : List Value} {Q : Option Value → aHp → Prop} {a0 a1 a2 : Option Value} {a : Nat} : WP E c 103 22 [a0, a1, a2] (.ref a :: st) ah Q = WPo (oGF (hg E ah a) 7 5) (fun v => WP E c 103 25 [a0, a1, a2] (v :: st) ah Q) := wp_getf i103_22
theorem i103_25 : insAt 103 25 = some (.invokevirtual 18, 28) := by decide +kernel
theorem r103_25 {E : aEnv} {c : Nat} {ah ah1 : aHp} {r : Option Value} {st : List Value} {Q : Option Value → aHp → Prop} {a0 a1 a2 : Option Value} {p0 : Nat} {p1 : Int32} (h : EV E c 18 [.ref p0, .int p1] ah r ah1) (h2 : oCI (hg E ah p0) = 1) (h3 : wds st ≤ 8) : WP E (c + 1) 103 25 [a0, a1, a2] (.int p1 :: .ref p0 :: st) ah Q = WP E (c + 1) 103 28 [a0, a1, a2] (r.toList ++ st) ah1 Q := wp_call (As := [.ref p0, .int p1]) i103_25 (fun _ => rfl) rfl mr18.1 (rcv_1 h2 mr18.2.2 (by decide)) h3 (by rw [mr18.2.1]; exact Nat.le_of_ble_eq_true rfl) h
theorem i103_28 : insAt 103 28 = some (.ifCond .eq 88, 31) := by decide +kernel
theorem r103_28 {E : aEnv} {c : Nat} {ah : aHp} {st : List Value} {Q : Option Value → aHp → Prop} {a0 a1 a2 : Option Value} {x : Int32} : WP E c 103 28 [a0, a1, a2] (.int x :: st) ah Q = if x = 0 then WP E c 103 88 [a0, a1, a2] st ah Q else WP E c 103 31 [a0, a1, a2] st ah Q := wp_j i103_28 rfl rfl rfl rfl
theorem i103_31 : insAt 103 31 = some (.aload 0, 32) := by decide +kernel
theorem r103_31 {E : aEnv} {c : Nat} {ah : aHp} {st : List Value} {Q : Option Value → aHp → Prop} {a1 a2 : Option Value} {x : Nat} : WP E c 103 31 [some (.ref x), a1, a2] (st) ah Q = WP E c 103 32 [some (.ref x), a1, a2] (.ref x :: st) ah Q := wp_s i103_31 rfl rfl rfl rfl
theorem i103_32 : insAt 103 32 = some (.getfield 7090, 35) := by decide +kernel
theorem r103_32 {E : aEnv} {c : Nat} {ah : aHp} {st : List Value} {Q : Option Value → aHp → Prop} {a0 a1 a2 : Option Value} {a : Nat} : WP E c 103 32 [a0, a1, a2] (.ref a :: st) ah Q = WPo (oGF (hg E ah a) 7 9) (fun v => WP E c 103 35 [a0, a1, a2] (v :: st) ah Q) := wp_getf i103_32
theorem i103_35 : insAt 103 35 = some (.iconst 5000, 38) := by decide +kernel
theorem r103_35 {E : aEnv} {c : Nat} {ah : aHp} {st : List Value} {Q : Option Value → aHp → Prop} {a0 a1 a2 : Option Value} : WP E c 103 35 [a0, a1, a2] (st) ah Q = WP E c 103 38 [a0, a1, a2] (.int (5000) :: st) ah Q := wp_s i103_35 rfl rfl rfl rfl
theorem i103_38 : insAt 103 38 = some (.if_icmp .ne 49, 41) := by decide +kernel
theorem r103_38 {E : aEnv} {c : Nat} {ah : aHp} {st : List Value} {Q : Option Value → aHp → Prop} {a0 a1 a2 : Option Value} {x y : Int32} : WP E c 103 38 [a0, a1, a2] (.int y :: .int x :: st) ah Q = if ¬ x = y then WP E c 103 49 [a0, a1, a2] st ah Q else WP E c 103 41 [a0, a1, a2] st ah Q := wp_j i103_38 rfl rfl rfl rfl
theorem i103_41 : insAt 103 41 = some (.aload 0, 42) := by decide +kernel
theorem r103_41 {E : aEnv} {c : Nat} {ah : aHp} {st : List Value} {Q : Option Value → aHp → Prop} {a1 a2 : Option Value} {x : Nat} : WP E c 103 41 [some (.ref x), a1, a2] (st) ah Q = WP E c 103 42 [some (.ref x), a1, a2] (.ref x :: st) ah Q := wp_s i103_41 rfl rfl rfl rfl
theorem i103_42 : insAt 103 42 = some (.iconst 4, 43) := by decide +kernel
theorem r103_42 {E : aEnv} {c : Nat} {ah : aHp} {st : List Value} {Q : Option Value → aHp → Prop} {a0 a1 a2 : Option Value} : WP E c 103 42 [a0, a1, a2] (st) ah Q = WP E c 103 43 [a0, a1, a2] (.int (4) :: st) ah Q := wp_s i103_42 rfl rfl rfl rfl
theorem i103_43 : insAt 103 43 = some (.putfield 7070, 46) := by decide +kernel
theorem r103_43 {E : aEnv} {c : Nat} {ah : aHp} {st : List Value} {Q : Option Value → aHp → Prop} {a0 a1 a2 : Option Value} {a : Nat} {v : Value} : WP E c 103 43 [a0, a1, a2] (v :: .ref a :: st) ah Q = WPo (oPF (hg E ah a) 7070 v) (fun e => WP E c 103 46 [a0, a1, a2] st (hs E ah a e) Q) := wp_putf i103_43
theorem i103_46 : insAt 103 46 = some (.goto 54, 49) := by decide +kernel
theorem r103_46 {E : aEnv} {c : Nat} {ah : aHp} {st : List Value} {Q : Option Value → aHp → Prop} {a0 a1 a2 : Option Value} : WP E c 103 46 [a0, a1, a2] (st) ah Q = WP E c 103 54 [a0, a1, a2] st ah Q := wp_s i103_46 rfl rfl rfl rfl
theorem i103_49 : insAt 103 49 = some (.aload 0, 50) := by decide +kernel
theorem r103_49 {E : aEnv} {c : Nat} {ah : aHp} {st : List Value} {Q : Option Value → aHp → Prop} {a1 a2 : Option Value} {x : Nat} : WP E c 103 49 [some (.ref x), a1, a2] (st) ah Q = WP E c 103 50 [some (.ref x), a1, a2] (.ref x :: st) ah Q := wp_s i103_49 rfl rfl rfl rfl
theorem i103_50 : insAt 103 50 = some (.aload 1, 51) := by decide +kernel
theorem r103_50 {E : aEnv} {c : Nat} {ah : aHp} {st : List Value} {Q : Option Value → aHp → Prop} {a0 a2 : Option Value} {x : Nat} : WP E c 103 50 [a0, some (.ref x), a2] (st) ah Q = WP E c 103 51 [a0, some (.ref x), a2] (.ref x :: st) ah Q := wp_s i103_50 rfl rfl rfl rfl
theorem r103_50n {E : aEnv} {c : Nat} {ah : aHp} {st : List Value} {Q : Option Value → aHp → Prop} {a0 a2 : Option Value} : WP E c 103 50 [a0, some .null, a2] (st) ah Q = WP E c 103 51 [a0, some .null, a2] (.null :: st) ah Q := wp_s i103_50 rfl rfl rfl rfl
theorem i103_51 : insAt 103 51 = some (.invokevirtual 105, 54) := by decide +kernel
theorem r103_51 {E : aEnv} {c : Nat} {ah ah1 : aHp} {r : Option Value} {st : List Value} {Q : Option Value → aHp → Prop} {a0 a1 a2 : Option Value} {p0 : Nat} {p1 : Nat} (h : EV E c 105 [.ref p0, .ref p1] ah r ah1) (h2 : oCI (hg E ah p0) = 7) (h3 : wds st ≤ 8) : WP E (c + 1) 103 51 [a0, a1, a2] (.ref p1 :: .ref p0 :: st) ah Q = WP E (c + 1) 103 54 [a0, a1, a2] (r.toList ++ st) ah1 Q := wp_call (As := [.ref p0, .ref p1]) i103_51 (fun _ => rfl) rfl mr105.1 (rcv_1 h2 mr105.2.2 (by decide)) h3 (by rw [mr105.2.1]; exact Nat.le_of_ble_eq_true rfl) h
theorem i103_54 : insAt 103 54 = some (.aload 0, 55) := by decide +kernel
theorem r103_54 {E : aEnv} {c : Nat} {ah : aHp} {st : List Value} {Q : Option Value → aHp → Prop} {a1 a2 : Option Value} {x : Nat} : WP E c 103 54 [some (.ref x), a1, a2] (st) ah Q = WP E c 103 55 [some (.ref x), a1, a2] (.ref x :: st) ah Q := wp_s i103_54 rfl rfl rfl rfl
theorem i103_55 : insAt 103 55 = some (.getfield 7070, 58) := by decide +kernel
theorem r103_55 {E : aEnv} {c : Nat} {ah : aHp} {st : List Value} {Q : Option Value → aHp → Prop} {a0 a1 a2 : Option Value} {a : Nat} : WP E c 103 55 [a0, a1, a2] (.ref a :: st) ah Q = WPo (oGF (hg E ah a) 7 7) (fun v => WP E c 103 58 [a0, a1, a2] (v :: st) ah Q) := wp_getf i103_55
theorem i103_58 : insAt 103 58 = some (.ifCond .ne 74, 61) := by decide +kernel
theorem r103_58 {E : aEnv} {c : Nat} {ah : aHp} {st : List Value} {Q : Option Value → aHp → Prop} {a0 a1 a2 : Option Value} {x : Int32} : WP E c 103 58 [a0, a1, a2] (.int x :: st) ah Q = if ¬ x = 0 then WP E c 103 74 [a0, a1, a2] st ah Q else WP E c 103 61 [a0, a1, a2] st ah Q := wp_j i103_58 rfl rfl rfl rfl
theorem i103_61 : insAt 103 61 = some (.aload 0, 62) := by decide +kernel
theorem r103_61 {E : aEnv} {c : Nat} {ah : aHp} {st : List Value} {Q : Option Value → aHp → Prop} {a1 a2 : Option Value} {x : Nat} : WP E c 103 61 [some (.ref x), a1, a2] (st) ah Q = WP E c 103 62 [some (.ref x), a1, a2] (.ref x :: st) ah Q := wp_s i103_61 rfl rfl rfl rfl
theorem i103_62 : insAt 103 62 = some (.dup, 63) := by decide +kernel
theorem r103_62 {E : aEnv} {c : Nat} {ah : aHp} {st : List Value} {Q : Option Value → aHp → Prop} {a0 a1 a2 : Option Value} {x : Nat} : WP E c 103 62 [a0, a1, a2] (.ref x :: st) ah Q = WP E c 103 63 [a0, a1, a2] (.ref x :: .ref x :: st) ah Q := wp_s i103_62 rfl rfl rfl rfl
theorem r103_62i {E : aEnv} {c : Nat} {ah : aHp} {st : List Value} {Q : Option Value → aHp → Prop} {a0 a1 a2 : Option Value} {x : Int32} : WP E c 103 62 [a0, a1, a2] (.int x :: st) ah Q = WP E c 103 63 [a0, a1, a2] (.int x :: .int x :: st) ah Q := wp_s i103_62 rfl rfl rfl rfl
theorem i103_63 : insAt 103 63 = some (.getfield 7090, 66) := by decide +kernel
theorem r103_63 {E : aEnv} {c : Nat} {ah : aHp} {st : List Value} {Q : Option Value → aHp → Prop} {a0 a1 a2 : Option Value} {a : Nat} : WP E c 103 63 [a0, a1, a2] (.ref a :: st) ah Q = WPo (oGF (hg E ah a) 7 9) (fun v => WP E c 103 66 [a0, a1, a2] (v :: st) ah Q) := wp_getf i103_63
theorem i103_66 : insAt 103 66 = some (.iconst 1, 67) := by decide +kernel
theorem r103_66 {E : aEnv} {c : Nat} {ah : aHp} {st : List Value} {Q : Option Value → aHp → Prop} {a0 a1 a2 : Option Value} : WP E c 103 66 [a0, a1, a2] (st) ah Q = WP E c 103 67 [a0, a1, a2] (.int (1) :: st) ah Q := wp_s i103_66 rfl rfl rfl rfl
theorem i103_67 : insAt 103 67 = some (.iadd, 68) := by decide +kernel
theorem r103_67 {E : aEnv} {c : Nat} {ah : aHp} {st : List Value} {Q : Option Value → aHp → Prop} {a0 a1 a2 : Option Value} {x y : Int32} : WP E c 103 67 [a0, a1, a2] (.int y :: .int x :: st) ah Q = WP E c 103 68 [a0, a1, a2] (.int (x + y) :: st) ah Q := wp_s i103_67 rfl rfl rfl rfl
theorem i103_68 : insAt 103 68 = some (.putfield 7090, 71) := by decide +kernel
theorem r103_68 {E : aEnv} {c : Nat} {ah : aHp} {st : List Value} {Q : Option Value → aHp → Prop} {a0 a1 a2 : Option Value} {a : Nat} {v : Value} : WP E c 103 68 [a0, a1, a2] (v :: .ref a :: st) ah Q = WPo (oPF (hg E ah a) 7090 v) (fun e => WP E c 103 71 [a0, a1, a2] st (hs E ah a e) Q) := wp_putf i103_68
theorem i103_71 : insAt 103 71 = some (.goto 82, 74) := by decide +kernel
theorem r103_71 {E : aEnv} {c : Nat} {ah : aHp} {st : List Value} {Q : Option Value → aHp → Prop} {a0 a1 a2 : Option Value} : WP E c 103 71 [a0, a1, a2] (st) ah Q = WP E c 103 82 [a0, a1, a2] st ah Q := wp_s i103_71 rfl rfl rfl rfl
theorem i103_74 : insAt 103 74 = some (.aload 0, 75) := by decide +kernel
theorem r103_74 {E : aEnv} {c : Nat} {ah : aHp} {st : List Value} {Q : Option Value → aHp → Prop} {a1 a2 : Option Value} {x : Nat} : WP E c 103 74 [some (.ref x), a1, a2] (st) ah Q = WP E c 103 75 [some (.ref x), a1, a2] (.ref x :: st) ah Q := wp_s i103_74 rfl rfl rfl rfl
theorem i103_75 : insAt 103 75 = some (.aload 0, 76) := by decide +kernel
theorem r103_75 {E : aEnv} {c : Nat} {ah : aHp} {st : List Value} {Q : Option Value → aHp → Prop} {a1 a2 : Option Value} {x : Nat} : WP E c 103 75 [some (.ref x), a1, a2] (st) ah Q = WP E c 103 76 [some (.ref x), a1, a2] (.ref x :: st) ah Q := wp_s i103_75 rfl rfl rfl rfl
theorem i103_76 : insAt 103 76 = some (.getfield 7050, 79) := by decide +kernel
theorem r103_76 {E : aEnv} {c : Nat} {ah : aHp} {st : List Value} {Q : Option Value → aHp → Prop} {a0 a1 a2 : Option Value} {a : Nat} : WP E c 103 76 [a0, a1, a2] (.ref a :: st) ah Q = WPo (oGF (hg E ah a) 7 5) (fun v => WP E c 103 79 [a0, a1, a2] (v :: st) ah Q) := wp_getf i103_76
theorem i103_79 : insAt 103 79 = some (.putfield 7080, 82) := by decide +kernel
theorem r103_79 {E : aEnv} {c : Nat} {ah : aHp} {st : List Value} {Q : Option Value → aHp → Prop} {a0 a1 a2 : Option Value} {a : Nat} {v : Value} : WP E c 103 79 [a0, a1, a2] (v :: .ref a :: st) ah Q = WPo (oPF (hg E ah a) 7080 v) (fun e => WP E c 103 82 [a0, a1, a2] st (hs E ah a e) Q) := wp_putf i103_79
theorem i103_82 : insAt 103 82 = some (.iinc 2 1, 85) := by decide +kernel
theorem r103_82 {E : aEnv} {c : Nat} {ah : aHp} {st : List Value} {Q : Option Value → aHp → Prop} {a0 a1 : Option Value} {x : Int32} : WP E c 103 82 [a0, a1, some (.int x)] (st) ah Q = WP E c 103 85 [a0, kil a1, some (.int (x + 1))] (st) ah Q := wp_s i103_82 rfl rfl rfl rfl
theorem i103_85 : insAt 103 85 = some (.goto 6, 88) := by decide +kernel
theorem r103_85 {E : aEnv} {c : Nat} {ah : aHp} {st : List Value} {Q : Option Value → aHp → Prop} {a0 a1 a2 : Option Value} : WP E c 103 85 [a0, a1, a2] (st) ah Q = WP E c 103 6 [a0, a1, a2] st ah Q := wp_s i103_85 rfl rfl rfl rfl
theorem i103_88 : insAt 103 88 = some (.return_, 89) := by decide +kernel
theorem r103_88 {E : aEnv} {c : Nat} {ah : aHp} {Q : Option Value → aHp → Prop} {a0 a1 a2 : Option Value} : WP E c 103 88 [a0, a1, a2] ([]) ah Q = Q none ah := wp_rt i103_88 rfl
theorem e104 {E : aEnv} {c : Nat} {ah ahF : aHp} {r : Option Value} {p0 : Nat} (h : WP E c 104 0 [some (.ref p0)] [] ah (fun r1 x1 => r1 = r ∧ x1 = ahF)) : EV E c 104 [.ref p0] ah r ahF := EV.of (by rw [mr104.2.1]; exact h)
theorem i104_0 : insAt 104 0 = some (.aload 0, 1) := by decide +kernel
theorem r104_0 {E : aEnv} {c : Nat} {ah : aHp} {st : List Value} {Q : Option Value → aHp → Prop} {x : Nat} : WP E c 104 0 [some (.ref x)] (st) ah Q = WP E c 104 1 [some (.ref x)] (.ref x :: st) ah Q := wp_s i104_0 rfl rfl rfl rfl
theorem i104_1 : insAt 104 1 = some (.getfield 7002, 4) := by decide +kernel
theorem r104_1 {E : aEnv} {c : Nat} {ah : aHp} {st : List Value} {Q : Option Value → aHp → Prop} {a0 : Option Value} {a : Nat} : WP E c 104 1 [a0] (.ref a :: st) ah Q = WPo (oGF (hg E ah a) 7 0) (fun v => WP E c 104 4 [a0] (v :: st) ah Q) := wp_getf i104_1
theorem i104_4 : insAt 104 4 = some (.jsr_w 0, 5) := by decide +kernel
theorem r104_4 {E : aEnv} {c : Nat} {ah : aHp} {st : List Value} {Q : Option Value → aHp → Prop} {a0 : Option Value} : WP E c 104 4 [a0] (st) ah Q = WP E c 104 5 [a0] (.long (0) :: st) ah Q := wp_s i104_4 rfl rfl rfl rfl
theorem i104_5 : insAt 104 5 = some (.invokestatic 296, 8) := by decide +kernel
theorem r104_5 {E : aEnv} {c : Nat} {ah ah1 : aHp} {r : Option Value} {st : List Value} {Q : Option Value → aHp → Prop} {a0 : Option Value} {p0 : Nat} {p1 : Int64} (h : EV E c 296 [.ref p0, .long p1] ah r ah1) (h3 : wds st ≤ 8) : WP E (c + 1) 104 5 [a0] (.long p1 :: .ref p0 :: st) ah Q = WP E (c + 1) 104 8 [a0] (r.toList ++ st) ah1 Q := wp_call (As := [.ref p0, .long p1]) i104_5 (fun _ => rfl) rfl mr296.1 rfl h3 (by rw [mr296.2.1]; exact Nat.le_of_ble_eq_true rfl) h
theorem i104_8 : insAt 104 8 = some (.aload 0, 9) := by decide +kernel
theorem r104_8 {E : aEnv} {c : Nat} {ah : aHp} {st : List Value} {Q : Option Value → aHp → Prop} {x : Nat} : WP E c 104 8 [some (.ref x)] (st) ah Q = WP E c 104 9 [some (.ref x)] (.ref x :: st) ah Q := wp_s i104_8 rfl rfl rfl rfl
theorem i104_9 : insAt 104 9 = some (.iconst 1, 10) := by decide +kernel
theorem r104_9 {E : aEnv} {c : Nat} {ah : aHp} {st : List Value} {Q : Option Value → aHp → Prop} {a0 : Option Value} : WP E c 104 9 [a0] (st) ah Q = WP E c 104 10 [a0] (.int (1) :: st) ah Q := wp_s i104_9 rfl rfl rfl rfl
theorem i104_10 : insAt 104 10 = some (.putfield 7033, 13) := by decide +kernel
theorem r104_10 {E : aEnv} {c : Nat} {ah : aHp} {st : List Value} {Q : Option Value → aHp → Prop} {a0 : Option Value} {a : Nat} {v : Value} : WP E c 104 10 [a0] (v :: .ref a :: st) ah Q = WPo (oPF (hg E ah a) 7033 v) (fun e => WP E c 104 13 [a0] st (hs E ah a e) Q) := wp_putf i104_10
theorem i104_13 : insAt 104 13 = some (.aload 0, 14) := by decide +kernel
theorem r104_13 {E : aEnv} {c : Nat} {ah : aHp} {st : List Value} {Q : Option Value → aHp → Prop} {x : Nat} : WP E c 104 13 [some (.ref x)] (st) ah Q = WP E c 104 14 [some (.ref x)] (.ref x :: st) ah Q := wp_s i104_13 rfl rfl rfl rfl
theorem i104_14 : insAt 104 14 = some (.iconst 0, 15) := by decide +kernel
theorem r104_14 {E : aEnv} {c : Nat} {ah : aHp} {st : List Value} {Q : Option Value → aHp → Prop} {a0 : Option Value} : WP E c 104 14 [a0] (st) ah Q = WP E c 104 15 [a0] (.int (0) :: st) ah Q := wp_s i104_14 rfl rfl rfl rfl
theorem i104_15 : insAt 104 15 = some (.putfield 7020, 18) := by decide +kernel
theorem r104_15 {E : aEnv} {c : Nat} {ah : aHp} {st : List Value} {Q : Option Value → aHp → Prop} {a0 : Option Value} {a : Nat} {v : Value} : WP E c 104 15 [a0] (v :: .ref a :: st) ah Q = WPo (oPF (hg E ah a) 7020 v) (fun e => WP E c 104 18 [a0] st (hs E ah a e) Q) := wp_putf i104_15
theorem i104_18 : insAt 104 18 = some (.aload 0, 19) := by decide +kernel
theorem r104_18 {E : aEnv} {c : Nat} {ah : aHp} {st : List Value} {Q : Option Value → aHp → Prop} {x : Nat} : WP E c 104 18 [some (.ref x)] (st) ah Q = WP E c 104 19 [some (.ref x)] (.ref x :: st) ah Q := wp_s i104_18 rfl rfl rfl rfl
theorem i104_19 : insAt 104 19 = some (.iconst 0, 20) := by decide +kernel
theorem r104_19 {E : aEnv} {c : Nat} {ah : aHp} {st : List Value} {Q : Option Value → aHp → Prop} {a0 : Option Value} : WP E c 104 19 [a0] (st) ah Q = WP E c 104 20 [a0] (.int (0) :: st) ah Q := wp_s i104_19 rfl rfl rfl rfl
theorem i104_20 : insAt 104 20 = some (.putfield 7043, 23) := by decide +kernel
theorem r104_20 {E : aEnv} {c : Nat} {ah : aHp} {st : List Value} {Q : Option Value → aHp → Prop} {a0 : Option Value} {a : Nat} {v : Value} : WP E c 104 20 [a0] (v :: .ref a :: st) ah Q = WPo (oPF (hg E ah a) 7043 v) (fun e => WP E c 104 23 [a0] st (hs E ah a e) Q) := wp_putf i104_20
theorem i104_23 : insAt 104 23 = some (.aload 0, 24) := by decide +kernel
theorem r104_23 {E : aEnv} {c : Nat} {ah : aHp} {st : List Value} {Q : Option Value → aHp → Prop} {x : Nat} : WP E c 104 23 [some (.ref x)] (st) ah Q = WP E c 104 24 [some (.ref x)] (.ref x :: st) ah Q := wp_s i104_23 rfl rfl rfl rfl
theorem i104_24 : insAt 104 24 = some (.iconst 0, 25) := by decide +kernel
theorem r104_24 {E : aEnv} {c : Nat} {ah : aHp} {st : List Value} {Q : Option Value → aHp → Prop} {a0 : Option Value} : WP E c 104 24 [a0] (st) ah Q = WP E c 104 25 [a0] (.int (0) :: st) ah Q := wp_s i104_24 rfl rfl rfl rfl
theorem i104_25 : insAt 104 25 = some (.putfield 7050, 28) := by decide +kernel
theorem r104_25 {E : aEnv} {c : Nat} {ah : aHp} {st : List Value} {Q : Option Value → aHp → Prop} {a0 : Option Value} {a : Nat} {v : Value} : WP E c 104 25 [a0] (v :: .ref a :: st) ah Q = WPo (oPF (hg E ah a) 7050 v) (fun e => WP E c 104 28 [a0] st (hs E ah a e) Q) := wp_putf i104_25
theorem i104_28 : insAt 104 28 = some (.aload 0, 29) := by decide +kernel
theorem r104_28 {E : aEnv} {c : Nat} {ah : aHp} {st : List Value} {Q : Option Value → aHp → Prop} {x : Nat} : WP E c 104 28 [some (.ref x)] (st) ah Q = WP E c 104 29 [some (.ref x)] (.ref x :: st) ah Q := wp_s i104_28 rfl rfl rfl rfl
theorem i104_29 : insAt 104 29 = some (.iconst 0, 30) := by decide +kernel
theorem r104_29 {E : aEnv} {c : Nat} {ah : aHp} {st : List Value} {Q : Option Value → aHp → Prop} {a0 : Option Value} : WP E c 104 29 [a0] (st) ah Q = WP E c 104 30 [a0] (.int (0) :: st) ah Q := wp_s i104_29 rfl rfl rfl rfl
theorem i104_30 : insAt 104 30 = some (.putfield 7060, 33) := by decide +kernel
theorem r104_30 {E : aEnv} {c : Nat} {ah : aHp} {st : List Value} {Q : Option Value → aHp → Prop} {a0 : Option Value} {a : Nat} {v : Value} : WP E c 104 30 [a0] (v :: .ref a :: st) ah Q = WPo (oPF (hg E ah a) 7060 v) (fun e => WP E c 104 33 [a0] st (hs E ah a e) Q) := wp_putf i104_30
theorem i104_33 : insAt 104 33 = some (.aload 0, 34) := by decide +kernel
theorem r104_33 {E : aEnv} {c : Nat} {ah : aHp} {st : List Value} {Q : Option Value → aHp → Prop} {x : Nat} : WP E c 104 33 [some (.ref x)] (st) ah Q = WP E c 104 34 [some (.ref x)] (.ref x :: st) ah Q := wp_s i104_33 rfl rfl rfl rfl
theorem i104_34 : insAt 104 34 = some (.iconst 0, 35) := by decide +kernel
theorem r104_34 {E : aEnv} {c : Nat} {ah : aHp} {st : List Value} {Q : Option Value → aHp → Prop} {a0 : Option Value} : WP E c 104 34 [a0] (st) ah Q = WP E c 104 35 [a0] (.int (0) :: st) ah Q := wp_s i104_34 rfl rfl rfl rfl
theorem i104_35 : insAt 104 35 = some (.putfield 7070, 38) := by decide +kernel
theorem r104_35 {E : aEnv} {c : Nat} {ah : aHp} {st : List Value} {Q : Option Value → aHp → Prop} {a0 : Option Value} {a : Nat} {v : Value} : WP E c 104 35 [a0] (v :: .ref a :: st) ah Q = WPo (oPF (hg E ah a) 7070 v) (fun e => WP E c 104 38 [a0] st (hs E ah a e) Q) := wp_putf i104_35
theorem i104_38 : insAt 104 38 = some (.aload 0, 39) := by decide +kernel
theorem r104_38 {E : aEnv} {c : Nat} {ah : aHp} {st : List Value} {Q : Option Value → aHp → Prop} {x : Nat} : WP E c 104 38 [some (.ref x)] (st) ah Q = WP E c 104 39 [some (.ref x)] (.ref x :: st) ah Q := wp_s i104_38 rfl rfl rfl rfl
theorem i104_39 : insAt 104 39 = some (.iconst (-1), 40) := by decide +kernel
theorem r104_39 {E : aEnv} {c : Nat} {ah : aHp} {st : List Value} {Q : Option Value → aHp → Prop} {a0 : Option Value} : WP E c 104 39 [a0] (st) ah Q = WP E c 104 40 [a0] (.int ((-1)) :: st) ah Q := wp_s i104_39 rfl rfl rfl rfl
theorem i104_40 : insAt 104 40 = some (.putfield 7080, 43) := by decide +kernel
theorem r104_40 {E : aEnv} {c : Nat} {ah : aHp} {st : List Value} {Q : Option Value → aHp → Prop} {a0 : Option Value} {a : Nat} {v : Value} : WP E c 104 40 [a0] (v :: .ref a :: st) ah Q = WPo (oPF (hg E ah a) 7080 v) (fun e => WP E c 104 43 [a0] st (hs E ah a e) Q) := wp_putf i104_40
theorem i104_43 : insAt 104 43 = some (.aload 0, 44) := by decide +kernel
theorem r104_43 {E : aEnv} {c : Nat} {ah : aHp} {st : List Value} {Q : Option Value → aHp → Prop} {x : Nat} : WP E c 104 43 [some (.ref x)] (st) ah Q = WP E c 104 44 [some (.ref x)] (.ref x :: st) ah Q := wp_s i104_43 rfl rfl rfl rfl
theorem i104_44 : insAt 104 44 = some (.iconst 0, 45) := by decide +kernel
theorem r104_44 {E : aEnv} {c : Nat} {ah : aHp} {st : List Value} {Q : Option Value → aHp → Prop} {a0 : Option Value} : WP E c 104 44 [a0] (st) ah Q = WP E c 104 45 [a0] (.int (0) :: st) ah Q := wp_s i104_44 rfl rfl rfl rfl
theorem i104_45 : insAt 104 45 = some (.putfield 7090, 48) := by decide +kernel
theorem r104_45 {E : aEnv} {c : Nat} {ah : aHp} {st : List Value} {Q : Option Value → aHp → Prop} {a0 : Option Value} {a : Nat} {v : Value} : WP E c 104 45 [a0] (v :: .ref a :: st) ah Q = WPo (oPF (hg E ah a) 7090 v) (fun e => WP E c 104 48 [a0] st (hs E ah a e) Q) := wp_putf i104_45
theorem i104_48 : insAt 104 48 = some (.return_, 49) := by decide +kernel
theorem r104_48 {E : aEnv} {c : Nat} {ah : aHp} {Q : Option Value → aHp → Prop} {a0 : Option Value} : WP E c 104 48 [a0] ([]) ah Q = Q none ah := wp_rt i104_48 rfl
theorem e105 {E : aEnv} {c : Nat} {ah ahF : aHp} {r : Option Value} {p0 : Nat} {p1 : Nat} (h : WP E c 105 0 [some (.ref p0), some (.ref p1), none, none, none, none] [] ah (fun r1 x1 => r1 = r ∧ x1 = ahF)) : EV E c 105 [.ref p0, .ref p1] ah r ahF := EV.of (by rw [mr105.2.1]; exact h)
theorem i105_0 : insAt 105 0 = some (.aload 0, 1) := by decide +kernel
theorem r105_0 {E : aEnv} {c : Nat} {ah : aHp} {st : List Value} {Q : Option Value → aHp → Prop} {a1 a2 a3 a4 a5 : Option Value} {x : Nat} : WP E c 105 0 [some (.ref x), a1, a2, a3, a4, a5] (st) ah Q = WP E c 105 1 [some (.ref x), a1, a2, a3, a4, a5] (.ref x :: st) ah Q := wp_s i105_0 rfl rfl rfl rfl
theorem i105_1 : insAt 105 1 = some (.aload 1, 2) := by decide +kernel
theorem r105_1 {E : aEnv} {c : Nat} {ah : aHp} {st : List Value} {Q : Option Value → aHp → Prop} {a0 a2 a3 a4 a5 : Option Value} {x : Nat} : WP E c 105 1 [a0, some (.ref x), a2, a3, a4, a5] (st) ah Q = WP E c 105 2 [a0, some (.ref x), a2, a3, a4, a5] (.ref x :: st) ah Q := wp_s i105_1 rfl rfl rfl rfl
theorem r105_1n {E : aEnv} {c : Nat} {ah : aHp} {st : List Value} {Q : Option Value → aHp → Prop} {a0 a2 a3 a4 a5 : Option Value} : WP E c 105 1 [a0, some .null, a2, a3, a4, a5] (st) ah Q = WP E c 105 2 [a0, some .null, a2, a3, a4, a5] (.null :: st) ah Q := wp_s i105_1 rfl rfl rfl rfl
theorem i105_2 : insAt 105 2 = some (.aload 0, 3) := by decide +kernel
theorem r105_2 {E : aEnv} {c : Nat} {ah : aHp} {st : List Value} {Q : Option Value → aHp → Prop} {a1 a2 a3 a4 a5 : Option Value} {x : Nat} : WP E c 105 2 [some (.ref x), a1, a2, a3, a4, a5] (st) ah Q = WP E c 105 3 [some (.ref x), a1, a2, a3, a4, a5] (.ref x :: st) ah Q := wp_s i105_2 rfl rfl rfl rfl
theorem i105_3 : insAt 105 3 = some (.getfield 7050, 6) := by decide +kernel
theorem r105_3 {E : aEnv} {c : Nat} {ah : aHp} {st : List Value} {Q : Option Value → aHp → Prop} {a0 a1 a2 a3 a4 a5 : Option Value} {a : Nat} : WP E c 105 3 [a0, a1, a2, a3, a4, a5] (.ref a :: st) ah Q = WPo (oGF (hg E ah a) 7 5) (fun v => WP E c 105 6 [a0, a1, a2, a3, a4, a5] (v :: st) ah Q) := wp_getf i105_3
theorem i105_6 : insAt 105 6 = some (.iconst 0, 7) := by decide +kernel
theorem r105_6 {E : aEnv} {c : Nat} {ah : aHp} {st : List Value} {Q : Option Value → aHp → Prop} {a0 a1 a2 a3 a4 a5 : Option Value} : WP E c 105 6 [a0, a1, a2, a3, a4, a5] (st) ah Q = WP E c 105 7 [a0, a1, a2, a3, a4, a5] (.int (0) :: st) ah Q := wp_s i105_6 rfl rfl rfl rfl
theorem i105_7 : insAt 105 7 = some (.invokevirtual 22, 10) := by decide +kernel
theorem r105_7 {E : aEnv} {c : Nat} {ah ah1 : aHp} {r : Option Value} {st : List Value} {Q : Option Value → aHp → Prop} {a0 a1 a2 a3 a4 a5 : Option Value} {p0 : Nat} {p1 : Int32} {p2 : Int32} (h : EV E c 22 [.ref p0, .int p1, .int p2] ah r ah1) (h2 : oCI (hg E ah p0) = 1) (h3 : wds st ≤ 8) : WP E (c + 1) 105 7 [a0, a1, a2, a3, a4, a5] (.int p2 :: .int p1 :: .ref p0 :: st) ah Q = WP E (c + 1) 105 10 [a0, a1, a2, a3, a4, a5] (r.toList ++ st) ah1 Q := wp_call (As := [.ref p0, .int p1, .int p2]) i105_7 (fun _ => rfl) rfl mr22.1 (rcv_1 h2 mr22.2.2 (by decide)) h3 (by rw [mr22.2.1]; exact Nat.le_of_ble_eq_true rfl) h
theorem i105_10 : insAt 105 10 = some (.invokevirtual 101, 13) := by decide +kernel
theorem r105_10 {E : aEnv} {c : Nat} {ah ah1 : aHp} {r : Option Value} {st : List Value} {Q : Option Value → aHp → Prop} {a0 a1 a2 a3 a4 a5 : Option Value} {p0 : Nat} {p1 : Int32} (h : EV E c 101 [.ref p0, .int p1] ah r ah1) (h2 : oCI (hg E ah p0) = 7) (h3 : wds st ≤ 8) : WP E (c + 1) 105 10 [a0, a1, a2, a3, a4, a5] (.int p1 :: .ref p0 :: st) ah Q = WP E (c + 1) 105 13 [a0, a1, a2, a3, a4, a5] (r.toList ++ st) ah1 Q := wp_call (As := [.ref p0, .int p1]) i105_10 (fun _ => rfl) rfl mr101.1 (rcv_1 h2 mr101.2.2 (by decide)) h3 (by rw [mr101.2.1]; exact Nat.le_of_ble_eq_true rfl) h
theorem i105_13 : insAt 105 13 = some (.lstore 2, 14) := by decide +kernel
theorem r105_13 {E : aEnv} {c : Nat} {ah : aHp} {st : List Value} {Q : Option Value → aHp → Prop} {a0 a1 a2 a3 a4 a5 : Option Value} {x : Int64} : WP E c 105 13 [a0, a1, a2, a3, a4, a5] (.long x :: st) ah Q = WP E c 105 14 [a0, kil a1, some (.long x), none, a4, a5] (st) ah Q := wp_s i105_13 rfl rfl rfl rfl
theorem i105_14 : insAt 105 14 = some (.aload 0, 15) := by decide +kernel
theorem r105_14 {E : aEnv} {c : Nat} {ah : aHp} {st : List Value} {Q : Option Value → aHp → Prop} {a1 a2 a3 a4 a5 : Option Value} {x : Nat} : WP E c 105 14 [some (.ref x), a1, a2, a3, a4, a5] (st) ah Q = WP E c 105 15 [some (.ref x), a1, a2, a3, a4, a5] (.ref x :: st) ah Q := wp_s i105_14 rfl rfl rfl rfl
theorem i105_15 : insAt 105 15 = some (.aload 1, 16) := by decide +kernel
theorem r105_15 {E : aEnv} {c : Nat} {ah : aHp} {st : List Value} {Q : Option Value → aHp → Prop} {a0 a2 a3 a4 a5 : Option Value} {x : Nat} : WP E c 105 15 [a0, some (.ref x), a2, a3, a4, a5] (st) ah Q = WP E c 105 16 [a0, some (.ref x), a2, a3, a4, a5] (.ref x :: st) ah Q := wp_s i105_15 rfl rfl rfl rfl
theorem r105_15n {E : aEnv} {c : Nat} {ah : aHp} {st : List Value} {Q : Option Value → aHp → Prop} {a0 a2 a3 a4 a5 : Option Value} : WP E c 105 15 [a0, some .null, a2, a3, a4, a5] (st) ah Q = WP E c 105 16 [a0, some .null, a2, a3, a4, a5] (.null :: st) ah Q := wp_s i105_15 rfl rfl rfl rfl
theorem i105_16 : insAt 105 16 = some (.aload 0, 17) := by decide +kernel
theorem r105_16 {E : aEnv} {c : Nat} {ah : aHp} {st : List Value} {Q : Option Value → aHp → Prop} {a1 a2 a3 a4 a5 : Option Value} {x : Nat} : WP E c 105 16 [some (.ref x), a1, a2, a3, a4, a5] (st) ah Q = WP E c 105 17 [some (.ref x), a1, a2, a3, a4, a5] (.ref x :: st) ah Q := wp_s i105_16 rfl rfl rfl rfl
theorem i105_17 : insAt 105 17 = some (.getfield 7050, 20) := by decide +kernel
theorem r105_17 {E : aEnv} {c : Nat} {ah : aHp} {st : List Value} {Q : Option Value → aHp → Prop} {a0 a1 a2 a3 a4 a5 : Option Value} {a : Nat} : WP E c 105 17 [a0, a1, a2, a3, a4, a5] (.ref a :: st) ah Q = WPo (oGF (hg E ah a) 7 5) (fun v => WP E c 105 20 [a0, a1, a2, a3, a4, a5] (v :: st) ah Q) := wp_getf i105_17
theorem i105_20 : insAt 105 20 = some (.iconst 1, 21) := by decide +kernel
theorem r105_20 {E : aEnv} {c : Nat} {ah : aHp} {st : List Value} {Q : Option Value → aHp → Prop} {a0 a1 a2 a3 a4 a5 : Option Value} : WP E c 105 20 [a0, a1, a2, a3, a4, a5] (st) ah Q = WP E c 105 21 [a0, a1, a2, a3, a4, a5] (.int (1) :: st) ah Q := wp_s i105_20 rfl rfl rfl rfl
theorem i105_21 : insAt 105 21 = some (.invokevirtual 22, 24) := by decide +kernel
theorem r105_21 {E : aEnv} {c : Nat} {ah ah1 : aHp} {r : Option Value} {st : List Value} {Q : Option Value → aHp → Prop} {a0 a1 a2 a3 a4 a5 : Option Value} {p0 : Nat} {p1 : Int32} {p2 : Int32} (h : EV E c 22 [.ref p0, .int p1, .int p2] ah r ah1) (h2 : oCI (hg E ah p0) = 1) (h3 : wds st ≤ 8) : WP E (c + 1) 105 21 [a0, a1, a2, a3, a4, a5] (.int p2 :: .int p1 :: .ref p0 :: st) ah Q = WP E (c + 1) 105 24 [a0, a1, a2, a3, a4, a5] (r.toList ++ st) ah1 Q := wp_call (As := [.ref p0, .int p1, .int p2]) i105_21 (fun _ => rfl) rfl mr22.1 (rcv_1 h2 mr22.2.2 (by decide)) h3 (by rw [mr22.2.1]; exact Nat.le_of_ble_eq_true rfl) h
theorem i105_24 : insAt 105 24 = some (.invokevirtual 101, 27) := by decide +kernel
theorem r105_24 {E : aEnv} {c : Nat} {ah ah1 : aHp} {r : Option Value} {st : List Value} {Q : Option Value → aHp → Prop} {a0 a1 a2 a3 a4 a5 : Option Value} {p0 : Nat} {p1 : Int32} (h : EV E c 101 [.ref p0, .int p1] ah r ah1) (h2 : oCI (hg E ah p0) = 7) (h3 : wds st ≤ 8) : WP E (c + 1) 105 24 [a0, a1, a2, a3, a4, a5] (.int p1 :: .ref p0 :: st) ah Q = WP E (c + 1) 105 27 [a0, a1, a2, a3, a4, a5] (r.toList ++ st) ah1 Q := wp_call (As := [.ref p0, .int p1]) i105_24 (fun _ => rfl) rfl mr101.1 (rcv_1 h2 mr101.2.2 (by decide)) h3 (by rw [mr101.2.1]; exact Nat.le_of_ble_eq_true rfl) h
theorem i105_27 : insAt 105 27 = some (.lstore 4, 29) := by decide +kernel
theorem r105_27 {E : aEnv} {c : Nat} {ah : aHp} {st : List Value} {Q : Option Value → aHp → Prop} {a0 a1 a2 a3 a4 a5 : Option Value} {x : Int64} : WP E c 105 27 [a0, a1, a2, a3, a4, a5] (.long x :: st) ah Q = WP E c 105 29 [a0, a1, a2, kil a3, some (.long x), none] (st) ah Q := wp_s i105_27 rfl rfl rfl rfl
theorem i105_29 : insAt 105 29 = some (.aload 1, 30) := by decide +kernel
theorem r105_29 {E : aEnv} {c : Nat} {ah : aHp} {st : List Value} {Q : Option Value → aHp → Prop} {a0 a2 a3 a4 a5 : Option Value} {x : Nat} : WP E c 105 29 [a0, some (.ref x), a2, a3, a4, a5] (st) ah Q = WP E c 105 30 [a0, some (.ref x), a2, a3, a4, a5] (.ref x :: st) ah Q := wp_s i105_29 rfl rfl rfl rfl
theorem r105_29n {E : aEnv} {c : Nat} {ah : aHp} {st : List Value} {Q : Option Value → aHp → Prop} {a0 a2 a3 a4 a5 : Option Value} : WP E c 105 29 [a0, some .null, a2, a3, a4, a5] (st) ah Q = WP E c 105 30 [a0, some .null, a2, a3, a4, a5] (.null :: st) ah Q := wp_s i105_29 rfl rfl rfl rfl
theorem i105_30 : insAt 105 30 = some (.aload 0, 31) := by decide +kernel
theorem r105_30 {E : aEnv} {c : Nat} {ah : aHp} {st : List Value} {Q : Option Value → aHp → Prop} {a1 a2 a3 a4 a5 : Option Value} {x : Nat} : WP E c 105 30 [some (.ref x), a1, a2, a3, a4, a5] (st) ah Q = WP E c 105 31 [some (.ref x), a1, a2, a3, a4, a5] (.ref x :: st) ah Q := wp_s i105_30 rfl rfl rfl rfl
theorem i105_31 : insAt 105 31 = some (.getfield 7050, 34) := by decide +kernel
theorem r105_31 {E : aEnv} {c : Nat} {ah : aHp} {st : List Value} {Q : Option Value → aHp → Prop} {a0 a1 a2 a3 a4 a5 : Option Value} {a : Nat} : WP E c 105 31 [a0, a1, a2, a3, a4, a5] (.ref a :: st) ah Q = WPo (oGF (hg E ah a) 7 5) (fun v => WP E c 105 34 [a0, a1, a2, a3, a4, a5] (v :: st) ah Q) := wp_getf i105_31
theorem i105_34 : insAt 105 34 = some (.invokevirtual 19, 37) := by decide +kernel
theorem r105_34 {E : aEnv} {c : Nat} {ah ah1 : aHp} {r : Option Value} {st : List Value} {Q : Option Value → aHp → Prop} {a0 a1 a2 a3 a4 a5 : Option Value} {p0 : Nat} {p1 : Int32} (h : EV E c 19 [.ref p0, .int p1] ah r ah1) (h2 : oCI (hg E ah p0) = 1) (h3 : wds st ≤ 8) : WP E (c + 1) 105 34 [a0, a1, a2, a3, a4, a5] (.int p1 :: .ref p0 :: st) ah Q = WP E (c + 1) 105 37 [a0, a1, a2, a3, a4, a5] (r.toList ++ st) ah1 Q := wp_call (As := [.ref p0, .int p1]) i105_34 (fun _ => rfl) rfl mr19.1 (rcv_1 h2 mr19.2.2 (by decide)) h3 (by rw [mr19.2.1]; exact Nat.le_of_ble_eq_true rfl) h
theorem i105_37 : insAt 105 37 = some (.tableswitch 161 0 5 #[76, 105, 118, 131, 142, 153], 76) := by decide +kernel
theorem r105_37_0 {E : aEnv} {c : Nat} {ah : aHp} {st : List Value} {Q : Option Value → aHp → Prop} {a0 a1 a2 a3 a4 a5 : Option Value} : WP E c 105 37 [a0, a1, a2, a3, a4, a5] (.int 0 :: st) ah Q = WP E c 105 76 [a0, a1, a2, a3, a4, a5] st ah Q := wp_s i105_37 rfl rfl rfl rfl
theorem r105_37_1 {E : aEnv} {c : Nat} {ah : aHp} {st : List Value} {Q : Option Value → aHp → Prop} {a0 a1 a2 a3 a4 a5 : Option Value} : WP E c 105 37 [a0, a1, a2, a3, a4, a5] (.int 1 :: st) ah Q = WP E c 105 105 [a0, a1, a2, a3, a4, a5] st ah Q := wp_s i105_37 rfl rfl rfl rfl
theorem r105_37_2 {E : aEnv} {c : Nat} {ah : aHp} {st : List Value} {Q : Option Value → aHp → Prop} {a0 a1 a2 a3 a4 a5 : Option Value} : WP E c 105 37 [a0, a1, a2, a3, a4, a5] (.int 2 :: st) ah Q = WP E c 105 118 [a0, a1, a2, a3, a4, a5] st ah Q := wp_s i105_37 rfl rfl rfl rfl
theorem r105_37_3 {E : aEnv} {c : Nat} {ah : aHp} {st : List Value} {Q : Option Value → aHp → Prop} {a0 a1 a2 a3 a4 a5 : Option Value} : WP E c 105 37 [a0, a1, a2, a3, a4, a5] (.int 3 :: st) ah Q = WP E c 105 131 [a0, a1, a2, a3, a4, a5] st ah Q := wp_s i105_37 rfl rfl rfl rfl
theorem r105_37_4 {E : aEnv} {c : Nat} {ah : aHp} {st : List Value} {Q : Option Value → aHp → Prop} {a0 a1 a2 a3 a4 a5 : Option Value} : WP E c 105 37 [a0, a1, a2, a3, a4, a5] (.int 4 :: st) ah Q = WP E c 105 142 [a0, a1, a2, a3, a4, a5] st ah Q := wp_s i105_37 rfl rfl rfl rfl
theorem r105_37_5 {E : aEnv} {c : Nat} {ah : aHp} {st : List Value} {Q : Option Value → aHp → Prop} {a0 a1 a2 a3 a4 a5 : Option Value} : WP E c 105 37 [a0, a1, a2, a3, a4, a5] (.int 5 :: st) ah Q = WP E c 105 153 [a0, a1, a2, a3, a4, a5] st ah Q := wp_s i105_37 rfl rfl rfl rfl
theorem r105_37_d {E : aEnv} {c : Nat} {ah : aHp} {st : List Value} {Q : Option Value → aHp → Prop} {a0 a1 a2 a3 a4 a5 : Option Value} {x : Int32} (hx : x.toInt < 0 ∨ 5 < x.toInt) : WP E c 105 37 [a0, a1, a2, a3, a4, a5] (.int x :: st) ah Q = WP E c 105 161 [a0, a1, a2, a3, a4, a5] st ah Q := wp_st (z := (161, [a0, a1, a2, a3, a4, a5], st, ah)) i105_37 rfl rfl rfl (by simp only [st1, skA, ldA, soA, jpA, jT, if_pos hx]; rfl)
theorem i105_76 : insAt 105 76 = some (.aload 0, 77) := by decide +kernel
theorem r105_76 {E : aEnv} {c : Nat} {ah : aHp} {st : List Value} {Q : Option Value → aHp → Prop} {a1 a2 a3 a4 a5 : Option Value} {x : Nat} : WP E c 105 76 [some (.ref x), a1, a2, a3, a4, a5] (st) ah Q = WP E c 105 77 [some (.ref x), a1, a2, a3, a4, a5] (.ref x :: st) ah Q := wp_s i105_76 rfl rfl rfl rfl
theorem i105_77 : insAt 105 77 = some (.aload 1, 78) := by decide +kernel
theorem r105_77 {E : aEnv} {c : Nat} {ah : aHp} {st : List Value} {Q : Option Value → aHp → Prop} {a0 a2 a3 a4 a5 : Option Value} {x : Nat} : WP E c 105 77 [a0, some (.ref x), a2, a3, a4, a5] (st) ah Q = WP E c 105 78 [a0, some (.ref x), a2, a3, a4, a5] (.ref x :: st) ah Q := wp_s i105_77 rfl rfl rfl rfl
theorem r105_77n {E : aEnv} {c : Nat} {ah : aHp} {st : List Value} {Q : Option Value → aHp → Prop} {a0 a2 a3 a4 a5 : Option Value} : WP E c 105 77 [a0, some .null, a2, a3, a4, a5] (st) ah Q = WP E c 105 78 [a0, some .null, a2, a3, a4, a5] (.null :: st) ah Q := wp_s i105_77 rfl rfl rfl rfl
theorem i105_78 : insAt 105 78 = some (.aload 0, 79) := by decide +kernel
theorem r105_78 {E : aEnv} {c : Nat} {ah : aHp} {st : List Value} {Q : Option Value → aHp → Prop} {a1 a2 a3 a4 a5 : Option Value} {x : Nat} : WP E c 105 78 [some (.ref x), a1, a2, a3, a4, a5] (st) ah Q = WP E c 105 79 [some (.ref x), a1, a2, a3, a4, a5] (.ref x :: st) ah Q := wp_s i105_78 rfl rfl rfl rfl
theorem i105_79 : insAt 105 79 = some (.getfield 7050, 82) := by decide +kernel
theorem r105_79 {E : aEnv} {c : Nat} {ah : aHp} {st : List Value} {Q : Option Value → aHp → Prop} {a0 a1 a2 a3 a4 a5 : Option Value} {a : Nat} : WP E c 105 79 [a0, a1, a2, a3, a4, a5] (.ref a :: st) ah Q = WPo (oGF (hg E ah a) 7 5) (fun v => WP E c 105 82 [a0, a1, a2, a3, a4, a5] (v :: st) ah Q) := wp_getf i105_79
theorem i105_82 : insAt 105 82 = some (.iconst 0, 83) := by decide +kernel
theorem r105_82 {E : aEnv} {c : Nat} {ah : aHp} {st : List Value} {Q : Option Value → aHp → Prop} {a0 a1 a2 a3 a4 a5 : Option Value} : WP E c 105 82 [a0, a1, a2, a3, a4, a5] (st) ah Q = WP E c 105 83 [a0, a1, a2, a3, a4, a5] (.int (0) :: st) ah Q := wp_s i105_82 rfl rfl rfl rfl
theorem i105_83 : insAt 105 83 = some (.invokevirtual 22, 86) := by decide +kernel
theorem r105_83 {E : aEnv} {c : Nat} {ah ah1 : aHp} {r : Option Value} {st : List Value} {Q : Option Value → aHp → Prop} {a0 a1 a2 a3 a4 a5 : Option Value} {p0 : Nat} {p1 : Int32} {p2 : Int32} (h : EV E c 22 [.ref p0, .int p1, .int p2] ah r ah1) (h2 : oCI (hg E ah p0) = 1) (h3 : wds st ≤ 8) : WP E (c + 1) 105 83 [a0, a1, a2, a3, a4, a5] (.int p2 :: .int p1 :: .ref p0 :: st) ah Q = WP E (c + 1) 105 86 [a0, a1, a2, a3, a4, a5] (r.toList ++ st) ah1 Q := wp_call (As := [.ref p0, .int p1, .int p2]) i105_83 (fun _ => rfl) rfl mr22.1 (rcv_1 h2 mr22.2.2 (by decide)) h3 (by rw [mr22.2.1]; exact Nat.le_of_ble_eq_true rfl) h
theorem i105_86 : insAt 105 86 = some (.aload 1, 87) := by decide +kernel
theorem r105_86 {E : aEnv} {c : Nat} {ah : aHp} {st : List Value} {Q : Option Value → aHp → Prop} {a0 a2 a3 a4 a5 : Option Value} {x : Nat} : WP E c 105 86 [a0, some (.ref x), a2, a3, a4, a5] (st) ah Q = WP E c 105 87 [a0, some (.ref x), a2, a3, a4, a5] (.ref x :: st) ah Q := wp_s i105_86 rfl rfl rfl rfl
theorem r105_86n {E : aEnv} {c : Nat} {ah : aHp} {st : List Value} {Q : Option Value → aHp → Prop} {a0 a2 a3 a4 a5 : Option Value} : WP E c 105 86 [a0, some .null, a2, a3, a4, a5] (st) ah Q = WP E c 105 87 [a0, some .null, a2, a3, a4, a5] (.null :: st) ah Q := wp_s i105_86 rfl rfl rfl rfl
theorem i105_87 : insAt 105 87 = some (.aload 0, 88) := by decide +kernel
theorem r105_87 {E : aEnv} {c : Nat} {ah : aHp} {st : List Value} {Q : Option Value → aHp → Prop} {a1 a2 a3 a4 a5 : Option Value} {x : Nat} : WP E c 105 87 [some (.ref x), a1, a2, a3, a4, a5] (st) ah Q = WP E c 105 88 [some (.ref x), a1, a2, a3, a4, a5] (.ref x :: st) ah Q := wp_s i105_87 rfl rfl rfl rfl
theorem i105_88 : insAt 105 88 = some (.getfield 7050, 91) := by decide +kernel
theorem r105_88 {E : aEnv} {c : Nat} {ah : aHp} {st : List Value} {Q : Option Value → aHp → Prop} {a0 a1 a2 a3 a4 a5 : Option Value} {a : Nat} : WP E c 105 88 [a0, a1, a2, a3, a4, a5] (.ref a :: st) ah Q = WPo (oGF (hg E ah a) 7 5) (fun v => WP E c 105 91 [a0, a1, a2, a3, a4, a5] (v :: st) ah Q) := wp_getf i105_88
theorem i105_91 : insAt 105 91 = some (.invokevirtual 21, 94) := by decide +kernel
theorem r105_91 {E : aEnv} {c : Nat} {ah ah1 : aHp} {r : Option Value} {st : List Value} {Q : Option Value → aHp → Prop} {a0 a1 a2 a3 a4 a5 : Option Value} {p0 : Nat} {p1 : Int32} (h : EV E c 21 [.ref p0, .int p1] ah r ah1) (h2 : oCI (hg E ah p0) = 1) (h3 : wds st ≤ 8) : WP E (c + 1) 105 91 [a0, a1, a2, a3, a4, a5] (.int p1 :: .ref p0 :: st) ah Q = WP E (c + 1) 105 94 [a0, a1, a2, a3, a4, a5] (r.toList ++ st) ah1 Q := wp_call (As := [.ref p0, .int p1]) i105_91 (fun _ => rfl) rfl mr21.1 (rcv_1 h2 mr21.2.2 (by decide)) h3 (by rw [mr21.2.1]; exact Nat.le_of_ble_eq_true rfl) h
theorem i105_94 : insAt 105 94 = some (.invokevirtual 107, 97) := by decide +kernel
theorem r105_94 {E : aEnv} {c : Nat} {ah ah1 : aHp} {r : Option Value} {st : List Value} {Q : Option Value → aHp → Prop} {a0 a1 a2 a3 a4 a5 : Option Value} {p0 : Nat} {p1 : Int32} {p2 : Int64} (h : EV E c 107 [.ref p0, .int p1, .long p2] ah r ah1) (h2 : oCI (hg E ah p0) = 7) (h3 : wds st ≤ 8) : WP E (c + 1) 105 94 [a0, a1, a2, a3, a4, a5] (.long p2 :: .int p1 :: .ref p0 :: st) ah Q = WP E (c + 1) 105 97 [a0, a1, a2, a3, a4, a5] (r.toList ++ st) ah1 Q := wp_call (As := [.ref p0, .int p1, .long p2]) i105_94 (fun _ => rfl) rfl mr107.1 (rcv_1 h2 mr107.2.2 (by decide)) h3 (by rw [mr107.2.1]; exact Nat.le_of_ble_eq_true rfl) h
theorem i105_97 : insAt 105 97 = some (.aload 0, 98) := by decide +kernel
theorem r105_97 {E : aEnv} {c : Nat} {ah : aHp} {st : List Value} {Q : Option Value → aHp → Prop} {a1 a2 a3 a4 a5 : Option Value} {x : Nat} : WP E c 105 97 [some (.ref x), a1, a2, a3, a4, a5] (st) ah Q = WP E c 105 98 [some (.ref x), a1, a2, a3, a4, a5] (.ref x :: st) ah Q := wp_s i105_97 rfl rfl rfl rfl
theorem i105_98 : insAt 105 98 = some (.iconst 1, 99) := by decide +kernel
theorem r105_98 {E : aEnv} {c : Nat} {ah : aHp} {st : List Value} {Q : Option Value → aHp → Prop} {a0 a1 a2 a3 a4 a5 : Option Value} : WP E c 105 98 [a0, a1, a2, a3, a4, a5] (st) ah Q = WP E c 105 99 [a0, a1, a2, a3, a4, a5] (.int (1) :: st) ah Q := wp_s i105_98 rfl rfl rfl rfl
theorem i105_99 : insAt 105 99 = some (.invokevirtual 106, 102) := by decide +kernel
theorem r105_99 {E : aEnv} {c : Nat} {ah ah1 : aHp} {r : Option Value} {st : List Value} {Q : Option Value → aHp → Prop} {a0 a1 a2 a3 a4 a5 : Option Value} {p0 : Nat} {p1 : Int32} (h : EV E c 106 [.ref p0, .int p1] ah r ah1) (h2 : oCI (hg E ah p0) = 7) (h3 : wds st ≤ 8) : WP E (c + 1) 105 99 [a0, a1, a2, a3, a4, a5] (.int p1 :: .ref p0 :: st) ah Q = WP E (c + 1) 105 102 [a0, a1, a2, a3, a4, a5] (r.toList ++ st) ah1 Q := wp_call (As := [.ref p0, .int p1]) i105_99 (fun _ => rfl) rfl mr106.1 (rcv_1 h2 mr106.2.2 (by decide)) h3 (by rw [mr106.2.1]; exact Nat.le_of_ble_eq_true rfl) h
theorem i105_102 : insAt 105 102 = some (.goto 166, 105) := by decide +kernel
theorem r105_102 {E : aEnv} {c : Nat} {ah : aHp} {st : List Value} {Q : Option Value → aHp → Prop} {a0 a1 a2 a3 a4 a5 : Option Value} : WP E c 105 102 [a0, a1, a2, a3, a4, a5] (st) ah Q = WP E c 105 166 [a0, a1, a2, a3, a4, a5] st ah Q := wp_s i105_102 rfl rfl rfl rfl
theorem i105_105 : insAt 105 105 = some (.aload 0, 106) := by decide +kernel
theorem r105_105 {E : aEnv} {c : Nat} {ah : aHp} {st : List Value} {Q : Option Value → aHp → Prop} {a1 a2 a3 a4 a5 : Option Value} {x : Nat} : WP E c 105 105 [some (.ref x), a1, a2, a3, a4, a5] (st) ah Q = WP E c 105 106 [some (.ref x), a1, a2, a3, a4, a5] (.ref x :: st) ah Q := wp_s i105_105 rfl rfl rfl rfl
theorem i105_106 : insAt 105 106 = some (.aload 1, 107) := by decide +kernel
theorem r105_106 {E : aEnv} {c : Nat} {ah : aHp} {st : List Value} {Q : Option Value → aHp → Prop} {a0 a2 a3 a4 a5 : Option Value} {x : Nat} : WP E c 105 106 [a0, some (.ref x), a2, a3, a4, a5] (st) ah Q = WP E c 105 107 [a0, some (.ref x), a2, a3, a4, a5] (.ref x :: st) ah Q := wp_s i105_106 rfl rfl rfl rfl
theorem r105_106n {E : aEnv} {c : Nat} {ah : aHp} {st : List Value} {Q : Option Value → aHp → Prop} {a0 a2 a3 a4 a5 : Option Value} : WP E c 105 106 [a0, some .null, a2, a3, a4, a5] (st) ah Q = WP E c 105 107 [a0, some .null, a2, a3, a4, a5] (.null :: st) ah Q := wp_s i105_106 rfl rfl rfl rfl
theorem i105_107 : insAt 105 107 = some (.lload 2, 108) := by decide +kernel
theorem r105_107 {E : aEnv} {c : Nat} {ah : aHp} {st : List Value} {Q : Option Value → aHp → Prop} {a0 a1 a3 a4 a5 : Option Value} {x : Int64} : WP E c 105 107 [a0, a1, some (.long x), a3, a4, a5] (st) ah Q = WP E c 105 108 [a0, a1, some (.long x), a3, a4, a5] (.long x :: st) ah Q := wp_s i105_107 rfl rfl rfl rfl
theorem i105_108 : insAt 105 108 = some (.lload 4, 110) := by decide +kernel
theorem r105_108 {E : aEnv} {c : Nat} {ah : aHp} {st : List Value} {Q : Option Value → aHp → Prop} {a0 a1 a2 a3 a5 : Option Value} {x : Int64} : WP E c 105 108 [a0, a1, a2, a3, some (.long x), a5] (st) ah Q = WP E c 105 110 [a0, a1, a2, a3, some (.long x), a5] (.long x :: st) ah Q := wp_s i105_108 rfl rfl rfl rfl
theorem i105_110 : insAt 105 110 = some (.ladd, 111) := by decide +kernel
theorem r105_110 {E : aEnv} {c : Nat} {ah : aHp} {st : List Value} {Q : Option Value → aHp → Prop} {a0 a1 a2 a3 a4 a5 : Option Value} {x y : Int64} : WP E c 105 110 [a0, a1, a2, a3, a4, a5] (.long y :: .long x :: st) ah Q = WP E c 105 111 [a0, a1, a2, a3, a4, a5] (.long (x + y) :: st) ah Q := wp_s i105_110 rfl rfl rfl rfl
theorem i105_111 : insAt 105 111 = some (.iconst 2, 112) := by decide +kernel
theorem r105_111 {E : aEnv} {c : Nat} {ah : aHp} {st : List Value} {Q : Option Value → aHp → Prop} {a0 a1 a2 a3 a4 a5 : Option Value} : WP E c 105 111 [a0, a1, a2, a3, a4, a5] (st) ah Q = WP E c 105 112 [a0, a1, a2, a3, a4, a5] (.int (2) :: st) ah Q := wp_s i105_111 rfl rfl rfl rfl
theorem i105_112 : insAt 105 112 = some (.invokevirtual 112, 115) := by decide +kernel
theorem r105_112 {E : aEnv} {c : Nat} {ah ah1 : aHp} {r : Option Value} {st : List Value} {Q : Option Value → aHp → Prop} {a0 a1 a2 a3 a4 a5 : Option Value} {p0 : Nat} {p1 : Nat} {p2 : Int64} {p3 : Int32} (h : EV E c 112 [.ref p0, .ref p1, .long p2, .int p3] ah r ah1) (h2 : oCI (hg E ah p0) = 7) (h3 : wds st ≤ 8) : WP E (c + 1) 105 112 [a0, a1, a2, a3, a4, a5] (.int p3 :: .long p2 :: .ref p1 :: .ref p0 :: st) ah Q = WP E (c + 1) 105 115 [a0, a1, a2, a3, a4, a5] (r.toList ++ st) ah1 Q := wp_call (As := [.ref p0, .ref p1, .long p2, .int p3]) i105_112 (fun _ => rfl) rfl mr112.1 (rcv_1 h2 mr112.2.2 (by decide)) h3 (by rw [mr112.2.1]; exact Nat.le_of_ble_eq_true rfl) h
theorem i105_115 : insAt 105 115 = some (.goto 166, 118) := by decide +kernel
theorem r105_115 {E : aEnv} {c : Nat} {ah : aHp} {st : List Value} {Q : Option Value → aHp → Prop} {a0 a1 a2 a3 a4 a5 : Option Value} : WP E c 105 115 [a0, a1, a2, a3, a4, a5] (st) ah Q = WP E c 105 166 [a0, a1, a2, a3, a4, a5] st ah Q := wp_s i105_115 rfl rfl rfl rfl
theorem i105_118 : insAt 105 118 = some (.aload 0, 119) := by decide +kernel
theorem r105_118 {E : aEnv} {c : Nat} {ah : aHp} {st : List Value} {Q : Option Value → aHp → Prop} {a1 a2 a3 a4 a5 : Option Value} {x : Nat} : WP E c 105 118 [some (.ref x), a1, a2, a3, a4, a5] (st) ah Q = WP E c 105 119 [some (.ref x), a1, a2, a3, a4, a5] (.ref x :: st) ah Q := wp_s i105_118 rfl rfl rfl rfl
theorem i105_119 : insAt 105 119 = some (.aload 1, 120) := by decide +kernel
theorem r105_119 {E : aEnv} {c : Nat} {ah : aHp} {st : List Value} {Q : Option Value → aHp → Prop} {a0 a2 a3 a4 a5 : Option Value} {x : Nat} : WP E c 105 119 [a0, some (.ref x), a2, a3, a4, a5] (st) ah Q = WP E c 105 120 [a0, some (.ref x), a2, a3, a4, a5] (.ref x :: st) ah Q := wp_s i105_119 rfl rfl rfl rfl
theorem r105_119n {E : aEnv} {c : Nat} {ah : aHp} {st : List Value} {Q : Option Value → aHp → Prop} {a0 a2 a3 a4 a5 : Option Value} : WP E c 105 119 [a0, some .null, a2, a3, a4, a5] (st) ah Q = WP E c 105 120 [a0, some .null, a2, a3, a4, a5] (.null :: st) ah Q := wp_s i105_119 rfl rfl rfl rfl
theorem i105_120 : insAt 105 120 = some (.lload 2, 121) := by decide +kernel
theorem r105_120 {E : aEnv} {c : Nat} {ah : aHp} {st : List Value} {Q : Option Value → aHp → Prop} {a0 a1 a3 a4 a5 : Option Value} {x : Int64} : WP E c 105 120 [a0, a1, some (.long x), a3, a4, a5] (st) ah Q = WP E c 105 121 [a0, a1, some (.long x), a3, a4, a5] (.long x :: st) ah Q := wp_s i105_120 rfl rfl rfl rfl
theorem i105_121 : insAt 105 121 = some (.lload 4, 123) := by decide +kernel
theorem r105_121 {E : aEnv} {c : Nat} {ah : aHp} {st : List Value} {Q : Option Value → aHp → Prop} {a0 a1 a2 a3 a5 : Option Value} {x : Int64} : WP E c 105 121 [a0, a1, a2, a3, some (.long x), a5] (st) ah Q = WP E c 105 123 [a0, a1, a2, a3, some (.long x), a5] (.long x :: st) ah Q := wp_s i105_121 rfl rfl rfl rfl
theorem i105_123 : insAt 105 123 = some (.lsub, 124) := by decide +kernel
theorem r105_123 {E : aEnv} {c : Nat} {ah : aHp} {st : List Value} {Q : Option Value → aHp → Prop} {a0 a1 a2 a3 a4 a5 : Option Value} {x y : Int64} : WP E c 105 123 [a0, a1, a2, a3, a4, a5] (.long y :: .long x :: st) ah Q = WP E c 105 124 [a0, a1, a2, a3, a4, a5] (.long (x - y) :: st) ah Q := wp_s i105_123 rfl rfl rfl rfl
theorem i105_124 : insAt 105 124 = some (.iconst 2, 125) := by decide +kernel
theorem r105_124 {E : aEnv} {c : Nat} {ah : aHp} {st : List Value} {Q : Option Value → aHp → Prop} {a0 a1 a2 a3 a4 a5 : Option Value} : WP E c 105 124 [a0, a1, a2, a3, a4, a5] (st) ah Q = WP E c 105 125 [a0, a1, a2, a3, a4, a5] (.int (2) :: st) ah Q := wp_s i105_124 rfl rfl rfl rfl
theorem i105_125 : insAt 105 125 = some (.invokevirtual 112, 128) := by decide +kernel
theorem r105_125 {E : aEnv} {c : Nat} {ah ah1 : aHp} {r : Option Value} {st : List Value} {Q : Option Value → aHp → Prop} {a0 a1 a2 a3 a4 a5 : Option Value} {p0 : Nat} {p1 : Nat} {p2 : Int64} {p3 : Int32} (h : EV E c 112 [.ref p0, .ref p1, .long p2, .int p3] ah r ah1) (h2 : oCI (hg E ah p0) = 7) (h3 : wds st ≤ 8) : WP E (c + 1) 105 125 [a0, a1, a2, a3, a4, a5] (.int p3 :: .long p2 :: .ref p1 :: .ref p0 :: st) ah Q = WP E (c + 1) 105 128 [a0, a1, a2, a3, a4, a5] (r.toList ++ st) ah1 Q := wp_call (As := [.ref p0, .ref p1, .long p2, .int p3]) i105_125 (fun _ => rfl) rfl mr112.1 (rcv_1 h2 mr112.2.2 (by decide)) h3 (by rw [mr112.2.1]; exact Nat.le_of_ble_eq_true rfl) h
theorem i105_128 : insAt 105 128 = some (.goto 166, 131) := by decide +kernel
theorem r105_128 {E : aEnv} {c : Nat} {ah : aHp} {st : List Value} {Q : Option Value → aHp → Prop} {a0 a1 a2 a3 a4 a5 : Option Value} : WP E c 105 128 [a0, a1, a2, a3, a4, a5] (st) ah Q = WP E c 105 166 [a0, a1, a2, a3, a4, a5] st ah Q := wp_s i105_128 rfl rfl rfl rfl
theorem i105_131 : insAt 105 131 = some (.aload 0, 132) := by decide +kernel
theorem r105_131 {E : aEnv} {c : Nat} {ah : aHp} {st : List Value} {Q : Option Value → aHp → Prop} {a1 a2 a3 a4 a5 : Option Value} {x : Nat} : WP E c 105 131 [some (.ref x), a1, a2, a3, a4, a5] (st) ah Q = WP E c 105 132 [some (.ref x), a1, a2, a3, a4, a5] (.ref x :: st) ah Q := wp_s i105_131 rfl rfl rfl rfl
theorem i105_132 : insAt 105 132 = some (.aload 1, 133) := by decide +kernel
theorem r105_132 {E : aEnv} {c : Nat} {ah : aHp} {st : List Value} {Q : Option Value → aHp → Prop} {a0 a2 a3 a4 a5 : Option Value} {x : Nat} : WP E c 105 132 [a0, some (.ref x), a2, a3, a4, a5] (st) ah Q = WP E c 105 133 [a0, some (.ref x), a2, a3, a4, a5] (.ref x :: st) ah Q := wp_s i105_132 rfl rfl rfl rfl
theorem r105_132n {E : aEnv} {c : Nat} {ah : aHp} {st : List Value} {Q : Option Value → aHp → Prop} {a0 a2 a3 a4 a5 : Option Value} : WP E c 105 132 [a0, some .null, a2, a3, a4, a5] (st) ah Q = WP E c 105 133 [a0, some .null, a2, a3, a4, a5] (.null :: st) ah Q := wp_s i105_132 rfl rfl rfl rfl
theorem i105_133 : insAt 105 133 = some (.lload 2, 134) := by decide +kernel
theorem r105_133 {E : aEnv} {c : Nat} {ah : aHp} {st : List Value} {Q : Option Value → aHp → Prop} {a0 a1 a3 a4 a5 : Option Value} {x : Int64} : WP E c 105 133 [a0, a1, some (.long x), a3, a4, a5] (st) ah Q = WP E c 105 134 [a0, a1, some (.long x), a3, a4, a5] (.long x :: st) ah Q := wp_s i105_133 rfl rfl rfl rfl
theorem i105_134 : insAt 105 134 = some (.lload 4, 136) := by decide +kernel
theorem r105_134 {E : aEnv} {c : Nat} {ah : aHp} {st : List Value} {Q : Option Value → aHp → Prop} {a0 a1 a2 a3 a5 : Option Value} {x : Int64} : WP E c 105 134 [a0, a1, a2, a3, some (.long x), a5] (st) ah Q = WP E c 105 136 [a0, a1, a2, a3, some (.long x), a5] (.long x :: st) ah Q := wp_s i105_134 rfl rfl rfl rfl
theorem i105_136 : insAt 105 136 = some (.invokevirtual 110, 139) := by decide +kernel
theorem r105_136 {E : aEnv} {c : Nat} {ah ah1 : aHp} {r : Option Value} {st : List Value} {Q : Option Value → aHp → Prop} {a0 a1 a2 a3 a4 a5 : Option Value} {p0 : Nat} {p1 : Nat} {p2 : Int64} {p3 : Int64} (h : EV E c 110 [.ref p0, .ref p1, .long p2, .long p3] ah r ah1) (h2 : oCI (hg E ah p0) = 7) (h3 : wds st ≤ 8) : WP E (c + 1) 105 136 [a0, a1, a2, a3, a4, a5] (.long p3 :: .long p2 :: .ref p1 :: .ref p0 :: st) ah Q = WP E (c + 1) 105 139 [a0, a1, a2, a3, a4, a5] (r.toList ++ st) ah1 Q := wp_call (As := [.ref p0, .ref p1, .long p2, .long p3]) i105_136 (fun _ => rfl) rfl mr110.1 (rcv_1 h2 mr110.2.2 (by decide)) h3 (by rw [mr110.2.1]; exact Nat.le_of_ble_eq_true rfl) h
theorem i105_139 : insAt 105 139 = some (.goto 166, 142) := by decide +kernel
theorem r105_139 {E : aEnv} {c : Nat} {ah : aHp} {st : List Value} {Q : Option Value → aHp → Prop} {a0 a1 a2 a3 a4 a5 : Option Value} : WP E c 105 139 [a0, a1, a2, a3, a4, a5] (st) ah Q = WP E c 105 166 [a0, a1, a2, a3, a4, a5] st ah Q := wp_s i105_139 rfl rfl rfl rfl
theorem i105_142 : insAt 105 142 = some (.aload 0, 143) := by decide +kernel
theorem r105_142 {E : aEnv} {c : Nat} {ah : aHp} {st : List Value} {Q : Option Value → aHp → Prop} {a1 a2 a3 a4 a5 : Option Value} {x : Nat} : WP E c 105 142 [some (.ref x), a1, a2, a3, a4, a5] (st) ah Q = WP E c 105 143 [some (.ref x), a1, a2, a3, a4, a5] (.ref x :: st) ah Q := wp_s i105_142 rfl rfl rfl rfl
theorem i105_143 : insAt 105 143 = some (.aload 1, 144) := by decide +kernel
theorem r105_143 {E : aEnv} {c : Nat} {ah : aHp} {st : List Value} {Q : Option Value → aHp → Prop} {a0 a2 a3 a4 a5 : Option Value} {x : Nat} : WP E c 105 143 [a0, some (.ref x), a2, a3, a4, a5] (st) ah Q = WP E c 105 144 [a0, some (.ref x), a2, a3, a4, a5] (.ref x :: st) ah Q := wp_s i105_143 rfl rfl rfl rfl
theorem r105_143n {E : aEnv} {c : Nat} {ah : aHp} {st : List Value} {Q : Option Value → aHp → Prop} {a0 a2 a3 a4 a5 : Option Value} : WP E c 105 143 [a0, some .null, a2, a3, a4, a5] (st) ah Q = WP E c 105 144 [a0, some .null, a2, a3, a4, a5] (.null :: st) ah Q := wp_s i105_143 rfl rfl rfl rfl
theorem i105_144 : insAt 105 144 = some (.lload 2, 145) := by decide +kernel
theorem r105_144 {E : aEnv} {c : Nat} {ah : aHp} {st : List Value} {Q : Option Value → aHp → Prop} {a0 a1 a3 a4 a5 : Option Value} {x : Int64} : WP E c 105 144 [a0, a1, some (.long x), a3, a4, a5] (st) ah Q = WP E c 105 145 [a0, a1, some (.long x), a3, a4, a5] (.long x :: st) ah Q := wp_s i105_144 rfl rfl rfl rfl
theorem i105_145 : insAt 105 145 = some (.lload 4, 147) := by decide +kernel
theorem r105_145 {E : aEnv} {c : Nat} {ah : aHp} {st : List Value} {Q : Option Value → aHp → Prop} {a0 a1 a2 a3 a5 : Option Value} {x : Int64} : WP E c 105 145 [a0, a1, a2, a3, some (.long x), a5] (st) ah Q = WP E c 105 147 [a0, a1, a2, a3, some (.long x), a5] (.long x :: st) ah Q := wp_s i105_145 rfl rfl rfl rfl
theorem i105_147 : insAt 105 147 = some (.invokevirtual 111, 150) := by decide +kernel
theorem r105_147 {E : aEnv} {c : Nat} {ah ah1 : aHp} {r : Option Value} {st : List Value} {Q : Option Value → aHp → Prop} {a0 a1 a2 a3 a4 a5 : Option Value} {p0 : Nat} {p1 : Nat} {p2 : Int64} {p3 : Int64} (h : EV E c 111 [.ref p0, .ref p1, .long p2, .long p3] ah r ah1) (h2 : oCI (hg E ah p0) = 7) (h3 : wds st ≤ 8) : WP E (c + 1) 105 147 [a0, a1, a2, a3, a4, a5] (.long p3 :: .long p2 :: .ref p1 :: .ref p0 :: st) ah Q = WP E (c + 1) 105 150 [a0, a1, a2, a3, a4, a5] (r.toList ++ st) ah1 Q := wp_call (As := [.ref p0, .ref p1, .long p2, .long p3]) i105_147 (fun _ => rfl) rfl mr111.1 (rcv_1 h2 mr111.2.2 (by decide)) h3 (by rw [mr111.2.1]; exact Nat.le_of_ble_eq_true rfl) h
theorem i105_150 : insAt 105 150 = some (.goto 166, 153) := by decide +kernel
theorem r105_150 {E : aEnv} {c : Nat} {ah : aHp} {st : List Value} {Q : Option Value → aHp → Prop} {a0 a1 a2 a3 a4 a5 : Option Value} : WP E c 105 150 [a0, a1, a2, a3, a4, a5] (st) ah Q = WP E c 105 166 [a0, a1, a2, a3, a4, a5] st ah Q := wp_s i105_150 rfl rfl rfl rfl
theorem i105_153 : insAt 105 153 = some (.aload 0, 154) := by decide +kernel
theorem r105_153 {E : aEnv} {c : Nat} {ah : aHp} {st : List Value} {Q : Option Value → aHp → Prop} {a1 a2 a3 a4 a5 : Option Value} {x : Nat} : WP E c 105 153 [some (.ref x), a1, a2, a3, a4, a5] (st) ah Q = WP E c 105 154 [some (.ref x), a1, a2, a3, a4, a5] (.ref x :: st) ah Q := wp_s i105_153 rfl rfl rfl rfl
theorem i105_154 : insAt 105 154 = some (.lload 2, 155) := by decide +kernel
theorem r105_154 {E : aEnv} {c : Nat} {ah : aHp} {st : List Value} {Q : Option Value → aHp → Prop} {a0 a1 a3 a4 a5 : Option Value} {x : Int64} : WP E c 105 154 [a0, a1, some (.long x), a3, a4, a5] (st) ah Q = WP E c 105 155 [a0, a1, some (.long x), a3, a4, a5] (.long x :: st) ah Q := wp_s i105_154 rfl rfl rfl rfl
theorem i105_155 : insAt 105 155 = some (.invokevirtual 108, 158) := by decide +kernel
theorem r105_155 {E : aEnv} {c : Nat} {ah ah1 : aHp} {r : Option Value} {st : List Value} {Q : Option Value → aHp → Prop} {a0 a1 a2 a3 a4 a5 : Option Value} {p0 : Nat} {p1 : Int64} (h : EV E c 108 [.ref p0, .long p1] ah r ah1) (h2 : oCI (hg E ah p0) = 7) (h3 : wds st ≤ 8) : WP E (c + 1) 105 155 [a0, a1, a2, a3, a4, a5] (.long p1 :: .ref p0 :: st) ah Q = WP E (c + 1) 105 158 [a0, a1, a2, a3, a4, a5] (r.toList ++ st) ah1 Q := wp_call (As := [.ref p0, .long p1]) i105_155 (fun _ => rfl) rfl mr108.1 (rcv_1 h2 mr108.2.2 (by decide)) h3 (by rw [mr108.2.1]; exact Nat.le_of_ble_eq_true rfl) h
theorem i105_158 : insAt 105 158 = some (.goto 166, 161) := by decide +kernel
theorem r105_158 {E : aEnv} {c : Nat} {ah : aHp} {st : List Value} {Q : Option Value → aHp → Prop} {a0 a1 a2 a3 a4 a5 : Option Value} : WP E c 105 158 [a0, a1, a2, a3, a4, a5] (st) ah Q = WP E c 105 166 [a0, a1, a2, a3, a4, a5] st ah Q := wp_s i105_158 rfl rfl rfl rfl
theorem i105_161 : insAt 105 161 = some (.aload 0, 162) := by decide +kernel
theorem r105_161 {E : aEnv} {c : Nat} {ah : aHp} {st : List Value} {Q : Option Value → aHp → Prop} {a1 a2 a3 a4 a5 : Option Value} {x : Nat} : WP E c 105 161 [some (.ref x), a1, a2, a3, a4, a5] (st) ah Q = WP E c 105 162 [some (.ref x), a1, a2, a3, a4, a5] (.ref x :: st) ah Q := wp_s i105_161 rfl rfl rfl rfl
theorem i105_162 : insAt 105 162 = some (.aload 1, 163) := by decide +kernel
theorem r105_162 {E : aEnv} {c : Nat} {ah : aHp} {st : List Value} {Q : Option Value → aHp → Prop} {a0 a2 a3 a4 a5 : Option Value} {x : Nat} : WP E c 105 162 [a0, some (.ref x), a2, a3, a4, a5] (st) ah Q = WP E c 105 163 [a0, some (.ref x), a2, a3, a4, a5] (.ref x :: st) ah Q := wp_s i105_162 rfl rfl rfl rfl
theorem r105_162n {E : aEnv} {c : Nat} {ah : aHp} {st : List Value} {Q : Option Value → aHp → Prop} {a0 a2 a3 a4 a5 : Option Value} : WP E c 105 162 [a0, some .null, a2, a3, a4, a5] (st) ah Q = WP E c 105 163 [a0, some .null, a2, a3, a4, a5] (.null :: st) ah Q := wp_s i105_162 rfl rfl rfl rfl
theorem i105_163 : insAt 105 163 = some (.invokevirtual 109, 166) := by decide +kernel
theorem r105_163 {E : aEnv} {c : Nat} {ah ah1 : aHp} {r : Option Value} {st : List Value} {Q : Option Value → aHp → Prop} {a0 a1 a2 a3 a4 a5 : Option Value} {p0 : Nat} {p1 : Nat} (h : EV E c 109 [.ref p0, .ref p1] ah r ah1) (h2 : oCI (hg E ah p0) = 7) (h3 : wds st ≤ 8) : WP E (c + 1) 105 163 [a0, a1, a2, a3, a4, a5] (.ref p1 :: .ref p0 :: st) ah Q = WP E (c + 1) 105 166 [a0, a1, a2, a3, a4, a5] (r.toList ++ st) ah1 Q := wp_call (As := [.ref p0, .ref p1]) i105_163 (fun _ => rfl) rfl mr109.1 (rcv_1 h2 mr109.2.2 (by decide)) h3 (by rw [mr109.2.1]; exact Nat.le_of_ble_eq_true rfl) h
theorem i105_166 : insAt 105 166 = some (.return_, 167) := by decide +kernel
theorem r105_166 {E : aEnv} {c : Nat} {ah : aHp} {Q : Option Value → aHp → Prop} {a0 a1 a2 a3 a4 a5 : Option Value} : WP E c 105 166 [a0, a1, a2, a3, a4, a5] ([]) ah Q = Q none ah := wp_rt i105_166 rfl
theorem e106 {E : aEnv} {c : Nat} {ah ahF : aHp} {r : Option Value} {p0 : Nat} {p1 : Int32} (h : WP E c 106 0 [some (.ref p0), some (.int p1)] [] ah (fun r1 x1 => r1 = r ∧ x1 = ahF)) : EV E c 106 [.ref p0, .int p1] ah r ahF := EV.of (by rw [mr106.2.1]; exact h)
theorem i106_0 : insAt 106 0 = some (.aload 0, 1) := by decide +kernel
theorem r106_0 {E : aEnv} {c : Nat} {ah : aHp} {st : List Value} {Q : Option Value → aHp → Prop} {a1 : Option Value} {x : Nat} : WP E c 106 0 [some (.ref x), a1] (st) ah Q = WP E c 106 1 [some (.ref x), a1] (.ref x :: st) ah Q := wp_s i106_0 rfl rfl rfl rfl
theorem i106_1 : insAt 106 1 = some (.dup, 2) := by decide +kernel
theorem r106_1 {E : aEnv} {c : Nat} {ah : aHp} {st : List Value} {Q : Option Value → aHp → Prop} {a0 a1 : Option Value} {x : Nat} : WP E c 106 1 [a0, a1] (.ref x :: st) ah Q = WP E c 106 2 [a0, a1] (.ref x :: .ref x :: st) ah Q := wp_s i106_1 rfl rfl rfl rfl
theorem r106_1i {E : aEnv} {c : Nat} {ah : aHp} {st : List Value} {Q : Option Value → aHp → Prop} {a0 a1 : Option Value} {x : Int32} : WP E c 106 1 [a0, a1] (.int x :: st) ah Q = WP E c 106 2 [a0, a1] (.int x :: .int x :: st) ah Q := wp_s i106_1 rfl rfl rfl rfl
theorem i106_2 : insAt 106 2 = some (.getfield 7060, 5) := by decide +kernel
theorem r106_2 {E : aEnv} {c : Nat} {ah : aHp} {st : List Value} {Q : Option Value → aHp → Prop} {a0 a1 : Option Value} {a : Nat} : WP E c 106 2 [a0, a1] (.ref a :: st) ah Q = WPo (oGF (hg E ah a) 7 6) (fun v => WP E c 106 5 [a0, a1] (v :: st) ah Q) := wp_getf i106_2
theorem i106_5 : insAt 106 5 = some (.iload 1, 6) := by decide +kernel
theorem r106_5 {E : aEnv} {c : Nat} {ah : aHp} {st : List Value} {Q : Option Value → aHp → Prop} {a0 : Option Value} {x : Int32} : WP E c 106 5 [a0, some (.int x)] (st) ah Q = WP E c 106 6 [a0, some (.int x)] (.int x :: st) ah Q := wp_s i106_5 rfl rfl rfl rfl
theorem i106_6 : insAt 106 6 = some (.iadd, 7) := by decide +kernel
theorem r106_6 {E : aEnv} {c : Nat} {ah : aHp} {st : List Value} {Q : Option Value → aHp → Prop} {a0 a1 : Option Value} {x y : Int32} : WP E c 106 6 [a0, a1] (.int y :: .int x :: st) ah Q = WP E c 106 7 [a0, a1] (.int (x + y) :: st) ah Q := wp_s i106_6 rfl rfl rfl rfl
theorem i106_7 : insAt 106 7 = some (.putfield 7060, 10) := by decide +kernel
theorem r106_7 {E : aEnv} {c : Nat} {ah : aHp} {st : List Value} {Q : Option Value → aHp → Prop} {a0 a1 : Option Value} {a : Nat} {v : Value} : WP E c 106 7 [a0, a1] (v :: .ref a :: st) ah Q = WPo (oPF (hg E ah a) 7060 v) (fun e => WP E c 106 10 [a0, a1] st (hs E ah a e) Q) := wp_putf i106_7
theorem i106_10 : insAt 106 10 = some (.aload 0, 11) := by decide +kernel
theorem r106_10 {E : aEnv} {c : Nat} {ah : aHp} {st : List Value} {Q : Option Value → aHp → Prop} {a1 : Option Value} {x : Nat} : WP E c 106 10 [some (.ref x), a1] (st) ah Q = WP E c 106 11 [some (.ref x), a1] (.ref x :: st) ah Q := wp_s i106_10 rfl rfl rfl rfl
theorem i106_11 : insAt 106 11 = some (.dup, 12) := by decide +kernel
theorem r106_11 {E : aEnv} {c : Nat} {ah : aHp} {st : List Value} {Q : Option Value → aHp → Prop} {a0 a1 : Option Value} {x : Nat} : WP E c 106 11 [a0, a1] (.ref x :: st) ah Q = WP E c 106 12 [a0, a1] (.ref x :: .ref x :: st) ah Q := wp_s i106_11 rfl rfl rfl rfl
theorem r106_11i {E : aEnv} {c : Nat} {ah : aHp} {st : List Value} {Q : Option Value → aHp → Prop} {a0 a1 : Option Value} {x : Int32} : WP E c 106 11 [a0, a1] (.int x :: st) ah Q = WP E c 106 12 [a0, a1] (.int x :: .int x :: st) ah Q := wp_s i106_11 rfl rfl rfl rfl
theorem i106_12 : insAt 106 12 = some (.getfield 7050, 15) := by decide +kernel
theorem r106_12 {E : aEnv} {c : Nat} {ah : aHp} {st : List Value} {Q : Option Value → aHp → Prop} {a0 a1 : Option Value} {a : Nat} : WP E c 106 12 [a0, a1] (.ref a :: st) ah Q = WPo (oGF (hg E ah a) 7 5) (fun v => WP E c 106 15 [a0, a1] (v :: st) ah Q) := wp_getf i106_12
theorem i106_15 : insAt 106 15 = some (.iconst 1, 16) := by decide +kernel
theorem r106_15 {E : aEnv} {c : Nat} {ah : aHp} {st : List Value} {Q : Option Value → aHp → Prop} {a0 a1 : Option Value} : WP E c 106 15 [a0, a1] (st) ah Q = WP E c 106 16 [a0, a1] (.int (1) :: st) ah Q := wp_s i106_15 rfl rfl rfl rfl
theorem i106_16 : insAt 106 16 = some (.iadd, 17) := by decide +kernel
theorem r106_16 {E : aEnv} {c : Nat} {ah : aHp} {st : List Value} {Q : Option Value → aHp → Prop} {a0 a1 : Option Value} {x y : Int32} : WP E c 106 16 [a0, a1] (.int y :: .int x :: st) ah Q = WP E c 106 17 [a0, a1] (.int (x + y) :: st) ah Q := wp_s i106_16 rfl rfl rfl rfl
theorem i106_17 : insAt 106 17 = some (.putfield 7050, 20) := by decide +kernel
theorem r106_17 {E : aEnv} {c : Nat} {ah : aHp} {st : List Value} {Q : Option Value → aHp → Prop} {a0 a1 : Option Value} {a : Nat} {v : Value} : WP E c 106 17 [a0, a1] (v :: .ref a :: st) ah Q = WPo (oPF (hg E ah a) 7050 v) (fun e => WP E c 106 20 [a0, a1] st (hs E ah a e) Q) := wp_putf i106_17
theorem i106_20 : insAt 106 20 = some (.return_, 21) := by decide +kernel
theorem r106_20 {E : aEnv} {c : Nat} {ah : aHp} {Q : Option Value → aHp → Prop} {a0 a1 : Option Value} : WP E c 106 20 [a0, a1] ([]) ah Q = Q none ah := wp_rt i106_20 rfl
theorem e107 {E : aEnv} {c : Nat} {ah ahF : aHp} {r : Option Value} {p0 : Nat} {p1 : Int32} {p2 : Int64} (h : WP E c 107 0 [some (.ref p0), some (.int p1), some (.long p2), none] [] ah (fun r1 x1 => r1 = r ∧ x1 = ahF)) : EV E c 107 [.ref p0, .int p1, .long p2] ah r ahF := EV.of (by rw [mr107.2.1]; exact h)
theorem i107_0 : insAt 107 0 = some (.iload 1, 1) := by decide +kernel
theorem r107_0 {E : aEnv} {c : Nat} {ah : aHp} {st : List Value} {Q : Option Value → aHp → Prop} {a0 a2 a3 : Option Value} {x : Int32} : WP E c 107 0 [a0, some (.int x), a2, a3] (st) ah Q = WP E c 107 1 [a0, some (.int x), a2, a3] (.int x :: st) ah Q := wp_s i107_0 rfl rfl rfl rfl
theorem i107_1 : insAt 107 1 = some (.ifCond .lt 17, 4) := by decide +kernel
theorem r107_1 {E : aEnv} {c : Nat} {ah : aHp} {st : List Value} {Q : Option Value → aHp → Prop} {a0 a1 a2 a3 : Option Value} {x : Int32} : WP E c 107 1 [a0, a1, a2, a3] (.int x :: st) ah Q = if x < 0 then WP E c 107 17 [a0, a1, a2, a3] st ah Q else WP E c 107 4 [a0, a1, a2, a3] st ah Q := wp_j i107_1 rfl rfl rfl rfl
theorem i107_4 : insAt 107 4 = some (.iload 1, 5) := by decide +kernel
theorem r107_4 {E : aEnv} {c : Nat} {ah : aHp} {st : List Value} {Q : Option Value → aHp → Prop} {a0 a2 a3 : Option Value} {x : Int32} : WP E c 107 4 [a0, some (.int x), a2, a3] (st) ah Q = WP E c 107 5 [a0, some (.int x), a2, a3] (.int x :: st) ah Q := wp_s i107_4 rfl rfl rfl rfl
theorem i107_5 : insAt 107 5 = some (.iconst 20, 7) := by decide +kernel
theorem r107_5 {E : aEnv} {c : Nat} {ah : aHp} {st : List Value} {Q : Option Value → aHp → Prop} {a0 a1 a2 a3 : Option Value} : WP E c 107 5 [a0, a1, a2, a3] (st) ah Q = WP E c 107 7 [a0, a1, a2, a3] (.int (20) :: st) ah Q := wp_s i107_5 rfl rfl rfl rfl
theorem i107_7 : insAt 107 7 = some (.if_icmp .ge 17, 10) := by decide +kernel
theorem r107_7 {E : aEnv} {c : Nat} {ah : aHp} {st : List Value} {Q : Option Value → aHp → Prop} {a0 a1 a2 a3 : Option Value} {x y : Int32} : WP E c 107 7 [a0, a1, a2, a3] (.int y :: .int x :: st) ah Q = if y ≤ x then WP E c 107 17 [a0, a1, a2, a3] st ah Q else WP E c 107 10 [a0, a1, a2, a3] st ah Q := wp_j i107_7 rfl rfl rfl rfl
theorem i107_10 : insAt 107 10 = some (.aload 0, 11) := by decide +kernel
theorem r107_10 {E : aEnv} {c : Nat} {ah : aHp} {st : List Value} {Q : Option Value → aHp → Prop} {a1 a2 a3 : Option Value} {x : Nat} : WP E c 107 10 [some (.ref x), a1, a2, a3] (st) ah Q = WP E c 107 11 [some (.ref x), a1, a2, a3] (.ref x :: st) ah Q := wp_s i107_10 rfl rfl rfl rfl
theorem i107_11 : insAt 107 11 = some (.getfield 7002, 14) := by decide +kernel
theorem r107_11 {E : aEnv} {c : Nat} {ah : aHp} {st : List Value} {Q : Option Value → aHp → Prop} {a0 a1 a2 a3 : Option Value} {a : Nat} : WP E c 107 11 [a0, a1, a2, a3] (.ref a :: st) ah Q = WPo (oGF (hg E ah a) 7 0) (fun v => WP E c 107 14 [a0, a1, a2, a3] (v :: st) ah Q) := wp_getf i107_11
theorem i107_14 : insAt 107 14 = some (.iload 1, 15) := by decide +kernel
theorem r107_14 {E : aEnv} {c : Nat} {ah : aHp} {st : List Value} {Q : Option Value → aHp → Prop} {a0 a2 a3 : Option Value} {x : Int32} : WP E c 107 14 [a0, some (.int x), a2, a3] (st) ah Q = WP E c 107 15 [a0, some (.int x), a2, a3] (.int x :: st) ah Q := wp_s i107_14 rfl rfl rfl rfl
theorem i107_15 : insAt 107 15 = some (.lload 2, 16) := by decide +kernel
theorem r107_15 {E : aEnv} {c : Nat} {ah : aHp} {st : List Value} {Q : Option Value → aHp → Prop} {a0 a1 a3 : Option Value} {x : Int64} : WP E c 107 15 [a0, a1, some (.long x), a3] (st) ah Q = WP E c 107 16 [a0, a1, some (.long x), a3] (.long x :: st) ah Q := wp_s i107_15 rfl rfl rfl rfl
theorem i107_16 : insAt 107 16 = some (.lastore, 17) := by decide +kernel
theorem r107_16 {E : aEnv} {c : Nat} {ah : aHp} {st : List Value} {Q : Option Value → aHp → Prop} {a0 a1 a2 a3 : Option Value} {x : Int64} {i : Int32} {a : Nat} : WP E c 107 16 [a0, a1, a2, a3] (.long x :: .int i :: .ref a :: st) ah Q = WPo (pL E ah (.long x :: .int i :: .ref a :: st)) (fun q9 => WP E c 107 17 [a0, a1, a2, a3] q9.1 q9.2 Q) := wp_hw i107_16 rfl rfl rfl rfl rfl rfl rfl rfl
theorem i107_17 : insAt 107 17 = some (.return_, 18) := by decide +kernel
theorem r107_17 {E : aEnv} {c : Nat} {ah : aHp} {Q : Option Value → aHp → Prop} {a0 a1 a2 a3 : Option Value} : WP E c 107 17 [a0, a1, a2, a3] ([]) ah Q = Q none ah := wp_rt i107_17 rfl
theorem e108 {E : aEnv} {c : Nat} {ah ahF : aHp} {r : Option Value} {p0 : Nat} {p1 : Int64} (h : WP E c 108 0 [some (.ref p0), some (.long p1), none] [] ah (fun r1 x1 => r1 = r ∧ x1 = ahF)) : EV E c 108 [.ref p0, .long p1] ah r ahF := EV.of (by rw [mr108.2.1]; exact h)
theorem i108_0 : insAt 108 0 = some (.aload 0, 1) := by decide +kernel
theorem r108_0 {E : aEnv} {c : Nat} {ah : aHp} {st : List Value} {Q : Option Value → aHp → Prop} {a1 a2 : Option Value} {x : Nat} : WP E c 108 0 [some (.ref x), a1, a2] (st) ah Q = WP E c 108 1 [some (.ref x), a1, a2] (.ref x :: st) ah Q := wp_s i108_0 rfl rfl rfl rfl
theorem i108_1 : insAt 108 1 = some (.getfield 7020, 4) := by decide +kernel
theorem r108_1 {E : aEnv} {c : Nat} {ah : aHp} {st : List Value} {Q : Option Value → aHp → Prop} {a0 a1 a2 : Option Value} {a : Nat} : WP E c 108 1 [a0, a1, a2] (.ref a :: st) ah Q = WPo (oGF (hg E ah a) 7 2) (fun v => WP E c 108 4 [a0, a1, a2] (v :: st) ah Q) := wp_getf i108_1
theorem i108_4 : insAt 108 4 = some (.iconst 40, 6) := by decide +kernel
theorem r108_4 {E : aEnv} {c : Nat} {ah : aHp} {st : List Value} {Q : Option Value → aHp → Prop} {a0 a1 a2 : Option Value} : WP E c 108 4 [a0, a1, a2] (st) ah Q = WP E c 108 6 [a0, a1, a2] (.int (40) :: st) ah Q := wp_s i108_4 rfl rfl rfl rfl
theorem i108_6 : insAt 108 6 = some (.if_icmp .lt 15, 9) := by decide +kernel
theorem r108_6 {E : aEnv} {c : Nat} {ah : aHp} {st : List Value} {Q : Option Value → aHp → Prop} {a0 a1 a2 : Option Value} {x y : Int32} : WP E c 108 6 [a0, a1, a2] (.int y :: .int x :: st) ah Q = if x < y then WP E c 108 15 [a0, a1, a2] st ah Q else WP E c 108 9 [a0, a1, a2] st ah Q := wp_j i108_6 rfl rfl rfl rfl
theorem i108_9 : insAt 108 9 = some (.aload 0, 10) := by decide +kernel
theorem r108_9 {E : aEnv} {c : Nat} {ah : aHp} {st : List Value} {Q : Option Value → aHp → Prop} {a1 a2 : Option Value} {x : Nat} : WP E c 108 9 [some (.ref x), a1, a2] (st) ah Q = WP E c 108 10 [some (.ref x), a1, a2] (.ref x :: st) ah Q := wp_s i108_9 rfl rfl rfl rfl
theorem i108_10 : insAt 108 10 = some (.iconst 3, 11) := by decide +kernel
theorem r108_10 {E : aEnv} {c : Nat} {ah : aHp} {st : List Value} {Q : Option Value → aHp → Prop} {a0 a1 a2 : Option Value} : WP E c 108 10 [a0, a1, a2] (st) ah Q = WP E c 108 11 [a0, a1, a2] (.int (3) :: st) ah Q := wp_s i108_10 rfl rfl rfl rfl
theorem i108_11 : insAt 108 11 = some (.putfield 7070, 14) := by decide +kernel
theorem r108_11 {E : aEnv} {c : Nat} {ah : aHp} {st : List Value} {Q : Option Value → aHp → Prop} {a0 a1 a2 : Option Value} {a : Nat} {v : Value} : WP E c 108 11 [a0, a1, a2] (v :: .ref a :: st) ah Q = WPo (oPF (hg E ah a) 7070 v) (fun e => WP E c 108 14 [a0, a1, a2] st (hs E ah a e) Q) := wp_putf i108_11
theorem i108_14 : insAt 108 14 = some (.return_, 15) := by decide +kernel
theorem r108_14 {E : aEnv} {c : Nat} {ah : aHp} {Q : Option Value → aHp → Prop} {a0 a1 a2 : Option Value} : WP E c 108 14 [a0, a1, a2] ([]) ah Q = Q none ah := wp_rt i108_14 rfl
theorem i108_15 : insAt 108 15 = some (.aload 0, 16) := by decide +kernel
theorem r108_15 {E : aEnv} {c : Nat} {ah : aHp} {st : List Value} {Q : Option Value → aHp → Prop} {a1 a2 : Option Value} {x : Nat} : WP E c 108 15 [some (.ref x), a1, a2] (st) ah Q = WP E c 108 16 [some (.ref x), a1, a2] (.ref x :: st) ah Q := wp_s i108_15 rfl rfl rfl rfl
theorem i108_16 : insAt 108 16 = some (.getfield 7012, 19) := by decide +kernel
theorem r108_16 {E : aEnv} {c : Nat} {ah : aHp} {st : List Value} {Q : Option Value → aHp → Prop} {a0 a1 a2 : Option Value} {a : Nat} : WP E c 108 16 [a0, a1, a2] (.ref a :: st) ah Q = WPo (oGF (hg E ah a) 7 1) (fun v => WP E c 108 19 [a0, a1, a2] (v :: st) ah Q) := wp_getf i108_16
theorem i108_19 : insAt 108 19 = some (.aload 0, 20) := by decide +kernel
theorem r108_19 {E : aEnv} {c : Nat} {ah : aHp} {st : List Value} {Q : Option Value → aHp → Prop} {a1 a2 : Option Value} {x : Nat} : WP E c 108 19 [some (.ref x), a1, a2] (st) ah Q = WP E c 108 20 [some (.ref x), a1, a2] (.ref x :: st) ah Q := wp_s i108_19 rfl rfl rfl rfl
theorem i108_20 : insAt 108 20 = some (.getfield 7020, 23) := by decide +kernel
theorem r108_20 {E : aEnv} {c : Nat} {ah : aHp} {st : List Value} {Q : Option Value → aHp → Prop} {a0 a1 a2 : Option Value} {a : Nat} : WP E c 108 20 [a0, a1, a2] (.ref a :: st) ah Q = WPo (oGF (hg E ah a) 7 2) (fun v => WP E c 108 23 [a0, a1, a2] (v :: st) ah Q) := wp_getf i108_20
theorem i108_23 : insAt 108 23 = some (.lload 1, 24) := by decide +kernel
theorem r108_23 {E : aEnv} {c : Nat} {ah : aHp} {st : List Value} {Q : Option Value → aHp → Prop} {a0 a2 : Option Value} {x : Int64} : WP E c 108 23 [a0, some (.long x), a2] (st) ah Q = WP E c 108 24 [a0, some (.long x), a2] (.long x :: st) ah Q := wp_s i108_23 rfl rfl rfl rfl
theorem i108_24 : insAt 108 24 = some (.lastore, 25) := by decide +kernel
theorem r108_24 {E : aEnv} {c : Nat} {ah : aHp} {st : List Value} {Q : Option Value → aHp → Prop} {a0 a1 a2 : Option Value} {x : Int64} {i : Int32} {a : Nat} : WP E c 108 24 [a0, a1, a2] (.long x :: .int i :: .ref a :: st) ah Q = WPo (pL E ah (.long x :: .int i :: .ref a :: st)) (fun q9 => WP E c 108 25 [a0, a1, a2] q9.1 q9.2 Q) := wp_hw i108_24 rfl rfl rfl rfl rfl rfl rfl rfl
theorem i108_25 : insAt 108 25 = some (.aload 0, 26) := by decide +kernel
theorem r108_25 {E : aEnv} {c : Nat} {ah : aHp} {st : List Value} {Q : Option Value → aHp → Prop} {a1 a2 : Option Value} {x : Nat} : WP E c 108 25 [some (.ref x), a1, a2] (st) ah Q = WP E c 108 26 [some (.ref x), a1, a2] (.ref x :: st) ah Q := wp_s i108_25 rfl rfl rfl rfl
theorem i108_26 : insAt 108 26 = some (.dup, 27) := by decide +kernel
theorem r108_26 {E : aEnv} {c : Nat} {ah : aHp} {st : List Value} {Q : Option Value → aHp → Prop} {a0 a1 a2 : Option Value} {x : Nat} : WP E c 108 26 [a0, a1, a2] (.ref x :: st) ah Q = WP E c 108 27 [a0, a1, a2] (.ref x :: .ref x :: st) ah Q := wp_s i108_26 rfl rfl rfl rfl
theorem r108_26i {E : aEnv} {c : Nat} {ah : aHp} {st : List Value} {Q : Option Value → aHp → Prop} {a0 a1 a2 : Option Value} {x : Int32} : WP E c 108 26 [a0, a1, a2] (.int x :: st) ah Q = WP E c 108 27 [a0, a1, a2] (.int x :: .int x :: st) ah Q := wp_s i108_26 rfl rfl rfl rfl
theorem i108_27 : insAt 108 27 = some (.getfield 7020, 30) := by decide +kernel
theorem r108_27 {E : aEnv} {c : Nat} {ah : aHp} {st : List Value} {Q : Option Value → aHp → Prop} {a0 a1 a2 : Option Value} {a : Nat} : WP E c 108 27 [a0, a1, a2] (.ref a :: st) ah Q = WPo (oGF (hg E ah a) 7 2) (fun v => WP E c 108 30 [a0, a1, a2] (v :: st) ah Q) := wp_getf i108_27
theorem i108_30 : insAt 108 30 = some (.iconst 1, 31) := by decide +kernel
theorem r108_30 {E : aEnv} {c : Nat} {ah : aHp} {st : List Value} {Q : Option Value → aHp → Prop} {a0 a1 a2 : Option Value} : WP E c 108 30 [a0, a1, a2] (st) ah Q = WP E c 108 31 [a0, a1, a2] (.int (1) :: st) ah Q := wp_s i108_30 rfl rfl rfl rfl
theorem i108_31 : insAt 108 31 = some (.iadd, 32) := by decide +kernel
theorem r108_31 {E : aEnv} {c : Nat} {ah : aHp} {st : List Value} {Q : Option Value → aHp → Prop} {a0 a1 a2 : Option Value} {x y : Int32} : WP E c 108 31 [a0, a1, a2] (.int y :: .int x :: st) ah Q = WP E c 108 32 [a0, a1, a2] (.int (x + y) :: st) ah Q := wp_s i108_31 rfl rfl rfl rfl
theorem i108_32 : insAt 108 32 = some (.putfield 7020, 35) := by decide +kernel
theorem r108_32 {E : aEnv} {c : Nat} {ah : aHp} {st : List Value} {Q : Option Value → aHp → Prop} {a0 a1 a2 : Option Value} {a : Nat} {v : Value} : WP E c 108 32 [a0, a1, a2] (v :: .ref a :: st) ah Q = WPo (oPF (hg E ah a) 7020 v) (fun e => WP E c 108 35 [a0, a1, a2] st (hs E ah a e) Q) := wp_putf i108_32
theorem i108_35 : insAt 108 35 = some (.aload 0, 36) := by decide +kernel
theorem r108_35 {E : aEnv} {c : Nat} {ah : aHp} {st : List Value} {Q : Option Value → aHp → Prop} {a1 a2 : Option Value} {x : Nat} : WP E c 108 35 [some (.ref x), a1, a2] (st) ah Q = WP E c 108 36 [some (.ref x), a1, a2] (.ref x :: st) ah Q := wp_s i108_35 rfl rfl rfl rfl
theorem i108_36 : insAt 108 36 = some (.iconst 1, 37) := by decide +kernel
theorem r108_36 {E : aEnv} {c : Nat} {ah : aHp} {st : List Value} {Q : Option Value → aHp → Prop} {a0 a1 a2 : Option Value} : WP E c 108 36 [a0, a1, a2] (st) ah Q = WP E c 108 37 [a0, a1, a2] (.int (1) :: st) ah Q := wp_s i108_36 rfl rfl rfl rfl
theorem i108_37 : insAt 108 37 = some (.invokevirtual 106, 40) := by decide +kernel
theorem r108_37 {E : aEnv} {c : Nat} {ah ah1 : aHp} {r : Option Value} {st : List Value} {Q : Option Value → aHp → Prop} {a0 a1 a2 : Option Value} {p0 : Nat} {p1 : Int32} (h : EV E c 106 [.ref p0, .int p1] ah r ah1) (h2 : oCI (hg E ah p0) = 7) (h3 : wds st ≤ 8) : WP E (c + 1) 108 37 [a0, a1, a2] (.int p1 :: .ref p0 :: st) ah Q = WP E (c + 1) 108 40 [a0, a1, a2] (r.toList ++ st) ah1 Q := wp_call (As := [.ref p0, .int p1]) i108_37 (fun _ => rfl) rfl mr106.1 (rcv_1 h2 mr106.2.2 (by decide)) h3 (by rw [mr106.2.1]; exact Nat.le_of_ble_eq_true rfl) h
theorem i108_40 : insAt 108 40 = some (.return_, 41) := by decide +kernel
theorem r108_40 {E : aEnv} {c : Nat} {ah : aHp} {Q : Option Value → aHp → Prop} {a0 a1 a2 : Option Value} : WP E c 108 40 [a0, a1, a2] ([]) ah Q = Q none ah := wp_rt i108_40 rfl
theorem e109 {E : aEnv} {c : Nat} {ah ahF : aHp} {r : Option Value} {p0 : Nat} {p1 : Nat} (h : WP E c 109 0 [some (.ref p0), some (.ref p1), none, none] [] ah (fun r1 x1 => r1 = r ∧ x1 = ahF)) : EV E c 109 [.ref p0, .ref p1] ah r ahF := EV.of (by rw [mr109.2.1]; exact h)
theorem i109_0 : insAt 109 0 = some (.aload 1, 1) := by decide +kernel
theorem r109_0 {E : aEnv} {c : Nat} {ah : aHp} {st : List Value} {Q : Option Value → aHp → Prop} {a0 a2 a3 : Option Value} {x : Nat} : WP E c 109 0 [a0, some (.ref x), a2, a3] (st) ah Q = WP E c 109 1 [a0, some (.ref x), a2, a3] (.ref x :: st) ah Q := wp_s i109_0 rfl rfl rfl rfl
theorem r109_0n {E : aEnv} {c : Nat} {ah : aHp} {st : List Value} {Q : Option Value → aHp → Prop} {a0 a2 a3 : Option Value} : WP E c 109 0 [a0, some .null, a2, a3] (st) ah Q = WP E c 109 1 [a0, some .null, a2, a3] (.null :: st) ah Q := wp_s i109_0 rfl rfl rfl rfl
theorem i109_1 : insAt 109 1 = some (.aload 0, 2) := by decide +kernel
theorem r109_1 {E : aEnv} {c : Nat} {ah : aHp} {st : List Value} {Q : Option Value → aHp → Prop} {a1 a2 a3 : Option Value} {x : Nat} : WP E c 109 1 [some (.ref x), a1, a2, a3] (st) ah Q = WP E c 109 2 [some (.ref x), a1, a2, a3] (.ref x :: st) ah Q := wp_s i109_1 rfl rfl rfl rfl
theorem i109_2 : insAt 109 2 = some (.getfield 7050, 5) := by decide +kernel
theorem r109_2 {E : aEnv} {c : Nat} {ah : aHp} {st : List Value} {Q : Option Value → aHp → Prop} {a0 a1 a2 a3 : Option Value} {a : Nat} : WP E c 109 2 [a0, a1, a2, a3] (.ref a :: st) ah Q = WPo (oGF (hg E ah a) 7 5) (fun v => WP E c 109 5 [a0, a1, a2, a3] (v :: st) ah Q) := wp_getf i109_2
theorem i109_5 : insAt 109 5 = some (.invokevirtual 20, 8) := by decide +kernel
theorem r109_5 {E : aEnv} {c : Nat} {ah ah1 : aHp} {r : Option Value} {st : List Value} {Q : Option Value → aHp → Prop} {a0 a1 a2 a3 : Option Value} {p0 : Nat} {p1 : Int32} (h : EV E c 20 [.ref p0, .int p1] ah r ah1) (h2 : oCI (hg E ah p0) = 1) (h3 : wds st ≤ 8) : WP E (c + 1) 109 5 [a0, a1, a2, a3] (.int p1 :: .ref p0 :: st) ah Q = WP E (c + 1) 109 8 [a0, a1, a2, a3] (r.toList ++ st) ah1 Q := wp_call (As := [.ref p0, .int p1]) i109_5 (fun _ => rfl) rfl mr20.1 (rcv_1 h2 mr20.2.2 (by decide)) h3 (by rw [mr20.2.1]; exact Nat.le_of_ble_eq_true rfl) h
theorem i109_8 : insAt 109 8 = some (.istore 2, 9) := by decide +kernel
theorem r109_8 {E : aEnv} {c : Nat} {ah : aHp} {st : List Value} {Q : Option Value → aHp → Prop} {a0 a1 a2 a3 : Option Value} {x : Int32} : WP E c 109 8 [a0, a1, a2, a3] (.int x :: st) ah Q = WP E c 109 9 [a0, kil a1, some (.int x), a3] (st) ah Q := wp_s i109_8 rfl rfl rfl rfl
theorem i109_9 : insAt 109 9 = some (.iload 2, 10) := by decide +kernel
theorem r109_9 {E : aEnv} {c : Nat} {ah : aHp} {st : List Value} {Q : Option Value → aHp → Prop} {a0 a1 a3 : Option Value} {x : Int32} : WP E c 109 9 [a0, a1, some (.int x), a3] (st) ah Q = WP E c 109 10 [a0, a1, some (.int x), a3] (.int x :: st) ah Q := wp_s i109_9 rfl rfl rfl rfl
theorem i109_10 : insAt 109 10 = some (.iconst 1, 11) := by decide +kernel
theorem r109_10 {E : aEnv} {c : Nat} {ah : aHp} {st : List Value} {Q : Option Value → aHp → Prop} {a0 a1 a2 a3 : Option Value} : WP E c 109 10 [a0, a1, a2, a3] (st) ah Q = WP E c 109 11 [a0, a1, a2, a3] (.int (1) :: st) ah Q := wp_s i109_10 rfl rfl rfl rfl
theorem i109_11 : insAt 109 11 = some (.if_icmp .ne 21, 14) := by decide +kernel
theorem r109_11 {E : aEnv} {c : Nat} {ah : aHp} {st : List Value} {Q : Option Value → aHp → Prop} {a0 a1 a2 a3 : Option Value} {x y : Int32} : WP E c 109 11 [a0, a1, a2, a3] (.int y :: .int x :: st) ah Q = if ¬ x = y then WP E c 109 21 [a0, a1, a2, a3] st ah Q else WP E c 109 14 [a0, a1, a2, a3] st ah Q := wp_j i109_11 rfl rfl rfl rfl
theorem i109_14 : insAt 109 14 = some (.aload 0, 15) := by decide +kernel
theorem r109_14 {E : aEnv} {c : Nat} {ah : aHp} {st : List Value} {Q : Option Value → aHp → Prop} {a1 a2 a3 : Option Value} {x : Nat} : WP E c 109 14 [some (.ref x), a1, a2, a3] (st) ah Q = WP E c 109 15 [some (.ref x), a1, a2, a3] (.ref x :: st) ah Q := wp_s i109_14 rfl rfl rfl rfl
theorem i109_15 : insAt 109 15 = some (.getfield 7043, 18) := by decide +kernel
theorem r109_15 {E : aEnv} {c : Nat} {ah : aHp} {st : List Value} {Q : Option Value → aHp → Prop} {a0 a1 a2 a3 : Option Value} {a : Nat} : WP E c 109 15 [a0, a1, a2, a3] (.ref a :: st) ah Q = WPo (oGF (hg E ah a) 7 4) (fun v => WP E c 109 18 [a0, a1, a2, a3] (v :: st) ah Q) := wp_getf i109_15
theorem i109_18 : insAt 109 18 = some (.ifCond .eq 33, 21) := by decide +kernel
theorem r109_18 {E : aEnv} {c : Nat} {ah : aHp} {st : List Value} {Q : Option Value → aHp → Prop} {a0 a1 a2 a3 : Option Value} {x : Int32} : WP E c 109 18 [a0, a1, a2, a3] (.int x :: st) ah Q = if x = 0 then WP E c 109 33 [a0, a1, a2, a3] st ah Q else WP E c 109 21 [a0, a1, a2, a3] st ah Q := wp_j i109_18 rfl rfl rfl rfl
theorem i109_21 : insAt 109 21 = some (.iload 2, 22) := by decide +kernel
theorem r109_21 {E : aEnv} {c : Nat} {ah : aHp} {st : List Value} {Q : Option Value → aHp → Prop} {a0 a1 a3 : Option Value} {x : Int32} : WP E c 109 21 [a0, a1, some (.int x), a3] (st) ah Q = WP E c 109 22 [a0, a1, some (.int x), a3] (.int x :: st) ah Q := wp_s i109_21 rfl rfl rfl rfl
theorem i109_22 : insAt 109 22 = some (.iconst 2, 23) := by decide +kernel
theorem r109_22 {E : aEnv} {c : Nat} {ah : aHp} {st : List Value} {Q : Option Value → aHp → Prop} {a0 a1 a2 a3 : Option Value} : WP E c 109 22 [a0, a1, a2, a3] (st) ah Q = WP E c 109 23 [a0, a1, a2, a3] (.int (2) :: st) ah Q := wp_s i109_22 rfl rfl rfl rfl
theorem i109_23 : insAt 109 23 = some (.if_icmp .ne 37, 26) := by decide +kernel
theorem r109_23 {E : aEnv} {c : Nat} {ah : aHp} {st : List Value} {Q : Option Value → aHp → Prop} {a0 a1 a2 a3 : Option Value} {x y : Int32} : WP E c 109 23 [a0, a1, a2, a3] (.int y :: .int x :: st) ah Q = if ¬ x = y then WP E c 109 37 [a0, a1, a2, a3] st ah Q else WP E c 109 26 [a0, a1, a2, a3] st ah Q := wp_j i109_23 rfl rfl rfl rfl
theorem i109_26 : insAt 109 26 = some (.aload 0, 27) := by decide +kernel
theorem r109_26 {E : aEnv} {c : Nat} {ah : aHp} {st : List Value} {Q : Option Value → aHp → Prop} {a1 a2 a3 : Option Value} {x : Nat} : WP E c 109 26 [some (.ref x), a1, a2, a3] (st) ah Q = WP E c 109 27 [some (.ref x), a1, a2, a3] (.ref x :: st) ah Q := wp_s i109_26 rfl rfl rfl rfl
theorem i109_27 : insAt 109 27 = some (.getfield 7043, 30) := by decide +kernel
theorem r109_27 {E : aEnv} {c : Nat} {ah : aHp} {st : List Value} {Q : Option Value → aHp → Prop} {a0 a1 a2 a3 : Option Value} {a : Nat} : WP E c 109 27 [a0, a1, a2, a3] (.ref a :: st) ah Q = WPo (oGF (hg E ah a) 7 4) (fun v => WP E c 109 30 [a0, a1, a2, a3] (v :: st) ah Q) := wp_getf i109_27
theorem i109_30 : insAt 109 30 = some (.ifCond .eq 37, 33) := by decide +kernel
theorem r109_30 {E : aEnv} {c : Nat} {ah : aHp} {st : List Value} {Q : Option Value → aHp → Prop} {a0 a1 a2 a3 : Option Value} {x : Int32} : WP E c 109 30 [a0, a1, a2, a3] (.int x :: st) ah Q = if x = 0 then WP E c 109 37 [a0, a1, a2, a3] st ah Q else WP E c 109 33 [a0, a1, a2, a3] st ah Q := wp_j i109_30 rfl rfl rfl rfl
theorem i109_33 : insAt 109 33 = some (.iconst 1, 34) := by decide +kernel
theorem r109_33 {E : aEnv} {c : Nat} {ah : aHp} {st : List Value} {Q : Option Value → aHp → Prop} {a0 a1 a2 a3 : Option Value} : WP E c 109 33 [a0, a1, a2, a3] (st) ah Q = WP E c 109 34 [a0, a1, a2, a3] (.int (1) :: st) ah Q := wp_s i109_33 rfl rfl rfl rfl
theorem i109_34 : insAt 109 34 = some (.goto 38, 37) := by decide +kernel
theorem r109_34 {E : aEnv} {c : Nat} {ah : aHp} {st : List Value} {Q : Option Value → aHp → Prop} {a0 a1 a2 a3 : Option Value} : WP E c 109 34 [a0, a1, a2, a3] (st) ah Q = WP E c 109 38 [a0, a1, a2, a3] st ah Q := wp_s i109_34 rfl rfl rfl rfl
theorem i109_37 : insAt 109 37 = some (.iconst 0, 38) := by decide +kernel
theorem r109_37 {E : aEnv} {c : Nat} {ah : aHp} {st : List Value} {Q : Option Value → aHp → Prop} {a0 a1 a2 a3 : Option Value} : WP E c 109 37 [a0, a1, a2, a3] (st) ah Q = WP E c 109 38 [a0, a1, a2, a3] (.int (0) :: st) ah Q := wp_s i109_37 rfl rfl rfl rfl
theorem i109_38 : insAt 109 38 = some (.istore 3, 39) := by decide +kernel
theorem r109_38 {E : aEnv} {c : Nat} {ah : aHp} {st : List Value} {Q : Option Value → aHp → Prop} {a0 a1 a2 a3 : Option Value} {x : Int32} : WP E c 109 38 [a0, a1, a2, a3] (.int x :: st) ah Q = WP E c 109 39 [a0, a1, kil a2, some (.int x)] (st) ah Q := wp_s i109_38 rfl rfl rfl rfl
theorem i109_39 : insAt 109 39 = some (.iload 3, 40) := by decide +kernel
theorem r109_39 {E : aEnv} {c : Nat} {ah : aHp} {st : List Value} {Q : Option Value → aHp → Prop} {a0 a1 a2 : Option Value} {x : Int32} : WP E c 109 39 [a0, a1, a2, some (.int x)] (st) ah Q = WP E c 109 40 [a0, a1, a2, some (.int x)] (.int x :: st) ah Q := wp_s i109_39 rfl rfl rfl rfl
theorem i109_40 : insAt 109 40 = some (.ifCond .eq 54, 43) := by decide +kernel
theorem r109_40 {E : aEnv} {c : Nat} {ah : aHp} {st : List Value} {Q : Option Value → aHp → Prop} {a0 a1 a2 a3 : Option Value} {x : Int32} : WP E c 109 40 [a0, a1, a2, a3] (.int x :: st) ah Q = if x = 0 then WP E c 109 54 [a0, a1, a2, a3] st ah Q else WP E c 109 43 [a0, a1, a2, a3] st ah Q := wp_j i109_40 rfl rfl rfl rfl
theorem i109_43 : insAt 109 43 = some (.aload 0, 44) := by decide +kernel
theorem r109_43 {E : aEnv} {c : Nat} {ah : aHp} {st : List Value} {Q : Option Value → aHp → Prop} {a1 a2 a3 : Option Value} {x : Nat} : WP E c 109 43 [some (.ref x), a1, a2, a3] (st) ah Q = WP E c 109 44 [some (.ref x), a1, a2, a3] (.ref x :: st) ah Q := wp_s i109_43 rfl rfl rfl rfl
theorem i109_44 : insAt 109 44 = some (.dup, 45) := by decide +kernel
theorem r109_44 {E : aEnv} {c : Nat} {ah : aHp} {st : List Value} {Q : Option Value → aHp → Prop} {a0 a1 a2 a3 : Option Value} {x : Nat} : WP E c 109 44 [a0, a1, a2, a3] (.ref x :: st) ah Q = WP E c 109 45 [a0, a1, a2, a3] (.ref x :: .ref x :: st) ah Q := wp_s i109_44 rfl rfl rfl rfl
theorem r109_44i {E : aEnv} {c : Nat} {ah : aHp} {st : List Value} {Q : Option Value → aHp → Prop} {a0 a1 a2 a3 : Option Value} {x : Int32} : WP E c 109 44 [a0, a1, a2, a3] (.int x :: st) ah Q = WP E c 109 45 [a0, a1, a2, a3] (.int x :: .int x :: st) ah Q := wp_s i109_44 rfl rfl rfl rfl
theorem i109_45 : insAt 109 45 = some (.getfield 7050, 48) := by decide +kernel
theorem r109_45 {E : aEnv} {c : Nat} {ah : aHp} {st : List Value} {Q : Option Value → aHp → Prop} {a0 a1 a2 a3 : Option Value} {a : Nat} : WP E c 109 45 [a0, a1, a2, a3] (.ref a :: st) ah Q = WPo (oGF (hg E ah a) 7 5) (fun v => WP E c 109 48 [a0, a1, a2, a3] (v :: st) ah Q) := wp_getf i109_45
theorem i109_48 : insAt 109 48 = some (.iconst 1, 49) := by decide +kernel
theorem r109_48 {E : aEnv} {c : Nat} {ah : aHp} {st : List Value} {Q : Option Value → aHp → Prop} {a0 a1 a2 a3 : Option Value} : WP E c 109 48 [a0, a1, a2, a3] (st) ah Q = WP E c 109 49 [a0, a1, a2, a3] (.int (1) :: st) ah Q := wp_s i109_48 rfl rfl rfl rfl
theorem i109_49 : insAt 109 49 = some (.iadd, 50) := by decide +kernel
theorem r109_49 {E : aEnv} {c : Nat} {ah : aHp} {st : List Value} {Q : Option Value → aHp → Prop} {a0 a1 a2 a3 : Option Value} {x y : Int32} : WP E c 109 49 [a0, a1, a2, a3] (.int y :: .int x :: st) ah Q = WP E c 109 50 [a0, a1, a2, a3] (.int (x + y) :: st) ah Q := wp_s i109_49 rfl rfl rfl rfl
theorem i109_50 : insAt 109 50 = some (.putfield 7050, 53) := by decide +kernel
theorem r109_50 {E : aEnv} {c : Nat} {ah : aHp} {st : List Value} {Q : Option Value → aHp → Prop} {a0 a1 a2 a3 : Option Value} {a : Nat} {v : Value} : WP E c 109 50 [a0, a1, a2, a3] (v :: .ref a :: st) ah Q = WPo (oPF (hg E ah a) 7050 v) (fun e => WP E c 109 53 [a0, a1, a2, a3] st (hs E ah a e) Q) := wp_putf i109_50
theorem i109_53 : insAt 109 53 = some (.return_, 54) := by decide +kernel
theorem r109_53 {E : aEnv} {c : Nat} {ah : aHp} {Q : Option Value → aHp → Prop} {a0 a1 a2 a3 : Option Value} : WP E c 109 53 [a0, a1, a2, a3] ([]) ah Q = Q none ah := wp_rt i109_53 rfl
theorem i109_54 : insAt 109 54 = some (.aload 1, 55) := by decide +kernel
theorem r109_54 {E : aEnv} {c : Nat} {ah : aHp} {st : List Value} {Q : Option Value → aHp → Prop} {a0 a2 a3 : Option Value} {x : Nat} : WP E c 109 54 [a0, some (.ref x), a2, a3] (st) ah Q = WP E c 109 55 [a0, some (.ref x), a2, a3] (.ref x :: st) ah Q := wp_s i109_54 rfl rfl rfl rfl
theorem r109_54n {E : aEnv} {c : Nat} {ah : aHp} {st : List Value} {Q : Option Value → aHp → Prop} {a0 a2 a3 : Option Value} : WP E c 109 54 [a0, some .null, a2, a3] (st) ah Q = WP E c 109 55 [a0, some .null, a2, a3] (.null :: st) ah Q := wp_s i109_54 rfl rfl rfl rfl
theorem i109_55 : insAt 109 55 = some (.aload 0, 56) := by decide +kernel
theorem r109_55 {E : aEnv} {c : Nat} {ah : aHp} {st : List Value} {Q : Option Value → aHp → Prop} {a1 a2 a3 : Option Value} {x : Nat} : WP E c 109 55 [some (.ref x), a1, a2, a3] (st) ah Q = WP E c 109 56 [some (.ref x), a1, a2, a3] (.ref x :: st) ah Q := wp_s i109_55 rfl rfl rfl rfl
theorem i109_56 : insAt 109 56 = some (.getfield 7050, 59) := by decide +kernel
theorem r109_56 {E : aEnv} {c : Nat} {ah : aHp} {st : List Value} {Q : Option Value → aHp → Prop} {a0 a1 a2 a3 : Option Value} {a : Nat} : WP E c 109 56 [a0, a1, a2, a3] (.ref a :: st) ah Q = WPo (oGF (hg E ah a) 7 5) (fun v => WP E c 109 59 [a0, a1, a2, a3] (v :: st) ah Q) := wp_getf i109_56
theorem i109_59 : insAt 109 59 = some (.invokevirtual 19, 62) := by decide +kernel
theorem r109_59 {E : aEnv} {c : Nat} {ah ah1 : aHp} {r : Option Value} {st : List Value} {Q : Option Value → aHp → Prop} {a0 a1 a2 a3 : Option Value} {p0 : Nat} {p1 : Int32} (h : EV E c 19 [.ref p0, .int p1] ah r ah1) (h2 : oCI (hg E ah p0) = 1) (h3 : wds st ≤ 8) : WP E (c + 1) 109 59 [a0, a1, a2, a3] (.int p1 :: .ref p0 :: st) ah Q = WP E (c + 1) 109 62 [a0, a1, a2, a3] (r.toList ++ st) ah1 Q := wp_call (As := [.ref p0, .int p1]) i109_59 (fun _ => rfl) rfl mr19.1 (rcv_1 h2 mr19.2.2 (by decide)) h3 (by rw [mr19.2.1]; exact Nat.le_of_ble_eq_true rfl) h
theorem i109_62 : insAt 109 62 = some (.iconst 6, 64) := by decide +kernel
theorem r109_62 {E : aEnv} {c : Nat} {ah : aHp} {st : List Value} {Q : Option Value → aHp → Prop} {a0 a1 a2 a3 : Option Value} : WP E c 109 62 [a0, a1, a2, a3] (st) ah Q = WP E c 109 64 [a0, a1, a2, a3] (.int (6) :: st) ah Q := wp_s i109_62 rfl rfl rfl rfl
theorem i109_64 : insAt 109 64 = some (.if_icmp .ne 85, 67) := by decide +kernel
theorem r109_64 {E : aEnv} {c : Nat} {ah : aHp} {st : List Value} {Q : Option Value → aHp → Prop} {a0 a1 a2 a3 : Option Value} {x y : Int32} : WP E c 109 64 [a0, a1, a2, a3] (.int y :: .int x :: st) ah Q = if ¬ x = y then WP E c 109 85 [a0, a1, a2, a3] st ah Q else WP E c 109 67 [a0, a1, a2, a3] st ah Q := wp_j i109_64 rfl rfl rfl rfl
theorem i109_67 : insAt 109 67 = some (.aload 0, 68) := by decide +kernel
theorem r109_67 {E : aEnv} {c : Nat} {ah : aHp} {st : List Value} {Q : Option Value → aHp → Prop} {a1 a2 a3 : Option Value} {x : Nat} : WP E c 109 67 [some (.ref x), a1, a2, a3] (st) ah Q = WP E c 109 68 [some (.ref x), a1, a2, a3] (.ref x :: st) ah Q := wp_s i109_67 rfl rfl rfl rfl
theorem i109_68 : insAt 109 68 = some (.dup, 69) := by decide +kernel
theorem r109_68 {E : aEnv} {c : Nat} {ah : aHp} {st : List Value} {Q : Option Value → aHp → Prop} {a0 a1 a2 a3 : Option Value} {x : Nat} : WP E c 109 68 [a0, a1, a2, a3] (.ref x :: st) ah Q = WP E c 109 69 [a0, a1, a2, a3] (.ref x :: .ref x :: st) ah Q := wp_s i109_68 rfl rfl rfl rfl
theorem r109_68i {E : aEnv} {c : Nat} {ah : aHp} {st : List Value} {Q : Option Value → aHp → Prop} {a0 a1 a2 a3 : Option Value} {x : Int32} : WP E c 109 68 [a0, a1, a2, a3] (.int x :: st) ah Q = WP E c 109 69 [a0, a1, a2, a3] (.int x :: .int x :: st) ah Q := wp_s i109_68 rfl rfl rfl rfl
theorem i109_69 : insAt 109 69 = some (.getfield 7060, 72) := by decide +kernel
theorem r109_69 {E : aEnv} {c : Nat} {ah : aHp} {st : List Value} {Q : Option Value → aHp → Prop} {a0 a1 a2 a3 : Option Value} {a : Nat} : WP E c 109 69 [a0, a1, a2, a3] (.ref a :: st) ah Q = WPo (oGF (hg E ah a) 7 6) (fun v => WP E c 109 72 [a0, a1, a2, a3] (v :: st) ah Q) := wp_getf i109_69
theorem i109_72 : insAt 109 72 = some (.aload 1, 73) := by decide +kernel
theorem r109_72 {E : aEnv} {c : Nat} {ah : aHp} {st : List Value} {Q : Option Value → aHp → Prop} {a0 a2 a3 : Option Value} {x : Nat} : WP E c 109 72 [a0, some (.ref x), a2, a3] (st) ah Q = WP E c 109 73 [a0, some (.ref x), a2, a3] (.ref x :: st) ah Q := wp_s i109_72 rfl rfl rfl rfl
theorem r109_72n {E : aEnv} {c : Nat} {ah : aHp} {st : List Value} {Q : Option Value → aHp → Prop} {a0 a2 a3 : Option Value} : WP E c 109 72 [a0, some .null, a2, a3] (st) ah Q = WP E c 109 73 [a0, some .null, a2, a3] (.null :: st) ah Q := wp_s i109_72 rfl rfl rfl rfl
theorem i109_73 : insAt 109 73 = some (.aload 0, 74) := by decide +kernel
theorem r109_73 {E : aEnv} {c : Nat} {ah : aHp} {st : List Value} {Q : Option Value → aHp → Prop} {a1 a2 a3 : Option Value} {x : Nat} : WP E c 109 73 [some (.ref x), a1, a2, a3] (st) ah Q = WP E c 109 74 [some (.ref x), a1, a2, a3] (.ref x :: st) ah Q := wp_s i109_73 rfl rfl rfl rfl
theorem i109_74 : insAt 109 74 = some (.getfield 7050, 77) := by decide +kernel
theorem r109_74 {E : aEnv} {c : Nat} {ah : aHp} {st : List Value} {Q : Option Value → aHp → Prop} {a0 a1 a2 a3 : Option Value} {a : Nat} : WP E c 109 74 [a0, a1, a2, a3] (.ref a :: st) ah Q = WPo (oGF (hg E ah a) 7 5) (fun v => WP E c 109 77 [a0, a1, a2, a3] (v :: st) ah Q) := wp_getf i109_74
theorem i109_77 : insAt 109 77 = some (.iconst 0, 78) := by decide +kernel
theorem r109_77 {E : aEnv} {c : Nat} {ah : aHp} {st : List Value} {Q : Option Value → aHp → Prop} {a0 a1 a2 a3 : Option Value} : WP E c 109 77 [a0, a1, a2, a3] (st) ah Q = WP E c 109 78 [a0, a1, a2, a3] (.int (0) :: st) ah Q := wp_s i109_77 rfl rfl rfl rfl
theorem i109_78 : insAt 109 78 = some (.invokevirtual 22, 81) := by decide +kernel
theorem r109_78 {E : aEnv} {c : Nat} {ah ah1 : aHp} {r : Option Value} {st : List Value} {Q : Option Value → aHp → Prop} {a0 a1 a2 a3 : Option Value} {p0 : Nat} {p1 : Int32} {p2 : Int32} (h : EV E c 22 [.ref p0, .int p1, .int p2] ah r ah1) (h2 : oCI (hg E ah p0) = 1) (h3 : wds st ≤ 8) : WP E (c + 1) 109 78 [a0, a1, a2, a3] (.int p2 :: .int p1 :: .ref p0 :: st) ah Q = WP E (c + 1) 109 81 [a0, a1, a2, a3] (r.toList ++ st) ah1 Q := wp_call (As := [.ref p0, .int p1, .int p2]) i109_78 (fun _ => rfl) rfl mr22.1 (rcv_1 h2 mr22.2.2 (by decide)) h3 (by rw [mr22.2.1]; exact Nat.le_of_ble_eq_true rfl) h
theorem i109_81 : insAt 109 81 = some (.iadd, 82) := by decide +kernel
theorem r109_81 {E : aEnv} {c : Nat} {ah : aHp} {st : List Value} {Q : Option Value → aHp → Prop} {a0 a1 a2 a3 : Option Value} {x y : Int32} : WP E c 109 81 [a0, a1, a2, a3] (.int y :: .int x :: st) ah Q = WP E c 109 82 [a0, a1, a2, a3] (.int (x + y) :: st) ah Q := wp_s i109_81 rfl rfl rfl rfl
theorem i109_82 : insAt 109 82 = some (.putfield 7060, 85) := by decide +kernel
theorem r109_82 {E : aEnv} {c : Nat} {ah : aHp} {st : List Value} {Q : Option Value → aHp → Prop} {a0 a1 a2 a3 : Option Value} {a : Nat} {v : Value} : WP E c 109 82 [a0, a1, a2, a3] (v :: .ref a :: st) ah Q = WPo (oPF (hg E ah a) 7060 v) (fun e => WP E c 109 85 [a0, a1, a2, a3] st (hs E ah a e) Q) := wp_putf i109_82
theorem i109_85 : insAt 109 85 = some (.aload 0, 86) := by decide +kernel
theorem r109_85 {E : aEnv} {c : Nat} {ah : aHp} {st : List Value} {Q : Option Value → aHp → Prop} {a1 a2 a3 : Option Value} {x : Nat} : WP E c 109 85 [some (.ref x), a1, a2, a3] (st) ah Q = WP E c 109 86 [some (.ref x), a1, a2, a3] (.ref x :: st) ah Q := wp_s i109_85 rfl rfl rfl rfl
theorem i109_86 : insAt 109 86 = some (.aload 1, 87) := by decide +kernel
theorem r109_86 {E : aEnv} {c : Nat} {ah : aHp} {st : List Value} {Q : Option Value → aHp → Prop} {a0 a2 a3 : Option Value} {x : Nat} : WP E c 109 86 [a0, some (.ref x), a2, a3] (st) ah Q = WP E c 109 87 [a0, some (.ref x), a2, a3] (.ref x :: st) ah Q := wp_s i109_86 rfl rfl rfl rfl
theorem r109_86n {E : aEnv} {c : Nat} {ah : aHp} {st : List Value} {Q : Option Value → aHp → Prop} {a0 a2 a3 : Option Value} : WP E c 109 86 [a0, some .null, a2, a3] (st) ah Q = WP E c 109 87 [a0, some .null, a2, a3] (.null :: st) ah Q := wp_s i109_86 rfl rfl rfl rfl
theorem i109_87 : insAt 109 87 = some (.aload 0, 88) := by decide +kernel
theorem r109_87 {E : aEnv} {c : Nat} {ah : aHp} {st : List Value} {Q : Option Value → aHp → Prop} {a1 a2 a3 : Option Value} {x : Nat} : WP E c 109 87 [some (.ref x), a1, a2, a3] (st) ah Q = WP E c 109 88 [some (.ref x), a1, a2, a3] (.ref x :: st) ah Q := wp_s i109_87 rfl rfl rfl rfl
theorem i109_88 : insAt 109 88 = some (.getfield 7050, 91) := by decide +kernel
theorem r109_88 {E : aEnv} {c : Nat} {ah : aHp} {st : List Value} {Q : Option Value → aHp → Prop} {a0 a1 a2 a3 : Option Value} {a : Nat} : WP E c 109 88 [a0, a1, a2, a3] (.ref a :: st) ah Q = WPo (oGF (hg E ah a) 7 5) (fun v => WP E c 109 91 [a0, a1, a2, a3] (v :: st) ah Q) := wp_getf i109_88
theorem i109_91 : insAt 109 91 = some (.invokevirtual 25, 94) := by decide +kernel
theorem r109_91 {E : aEnv} {c : Nat} {ah ah1 : aHp} {r : Option Value} {st : List Value} {Q : Option Value → aHp → Prop} {a0 a1 a2 a3 : Option Value} {p0 : Nat} {p1 : Int32} (h : EV E c 25 [.ref p0, .int p1] ah r ah1) (h2 : oCI (hg E ah p0) = 1) (h3 : wds st ≤ 8) : WP E (c + 1) 109 91 [a0, a1, a2, a3] (.int p1 :: .ref p0 :: st) ah Q = WP E (c + 1) 109 94 [a0, a1, a2, a3] (r.toList ++ st) ah1 Q := wp_call (As := [.ref p0, .int p1]) i109_91 (fun _ => rfl) rfl mr25.1 (rcv_1 h2 mr25.2.2 (by decide)) h3 (by rw [mr25.2.1]; exact Nat.le_of_ble_eq_true rfl) h
theorem i109_94 : insAt 109 94 = some (.putfield 7050, 97) := by decide +kernel
theorem r109_94 {E : aEnv} {c : Nat} {ah : aHp} {st : List Value} {Q : Option Value → aHp → Prop} {a0 a1 a2 a3 : Option Value} {a : Nat} {v : Value} : WP E c 109 94 [a0, a1, a2, a3] (v :: .ref a :: st) ah Q = WPo (oPF (hg E ah a) 7050 v) (fun e => WP E c 109 97 [a0, a1, a2, a3] st (hs E ah a e) Q) := wp_putf i109_94
theorem i109_97 : insAt 109 97 = some (.return_, 98) := by decide +kernel
theorem r109_97 {E : aEnv} {c : Nat} {ah : aHp} {Q : Option Value → aHp → Prop} {a0 a1 a2 a3 : Option Value} : WP E c 109 97 [a0, a1, a2, a3] ([]) ah Q = Q none ah := wp_rt i109_97 rfl
theorem e110 {E : aEnv} {c : Nat} {ah ahF : aHp} {r : Option Value} {p0 : Nat} {p1 : Nat} {p2 : Int64} {p3 : Int64} (h : WP E c 110 0 [some (.ref p0), some (.ref p1), some (.long p2), none, some (.long p3), none, none, none] [] ah (fun r1 x1 => r1 = r ∧ x1 = ahF)) : EV E c 110 [.ref p0, .ref p1, .long p2, .long p3] ah r ahF := EV.of (by rw [mr110.2.1]; exact h)
theorem i110_0 : insAt 110 0 = some (.lload 2, 1) := by decide +kernel
theorem r110_0 {E : aEnv} {c : Nat} {ah : aHp} {st : List Value} {Q : Option Value → aHp → Prop} {a0 a1 a3 a4 a5 a6 a7 : Option Value} {x : Int64} : WP E c 110 0 [a0, a1, some (.long x), a3, a4, a5, a6, a7] (st) ah Q = WP E c 110 1 [a0, a1, some (.long x), a3, a4, a5, a6, a7] (.long x :: st) ah Q := wp_s i110_0 rfl rfl rfl rfl
theorem i110_1 : insAt 110 1 = some (.invokestatic 291, 4) := by decide +kernel
theorem r110_1 {E : aEnv} {c : Nat} {ah ah1 : aHp} {r : Option Value} {st : List Value} {Q : Option Value → aHp → Prop} {a0 a1 a2 a3 a4 a5 a6 a7 : Option Value} {p0 : Int64} (h : EV E c 291 [.long p0] ah r ah1) (h3 : wds st ≤ 8) : WP E (c + 1) 110 1 [a0, a1, a2, a3, a4, a5, a6, a7] (.long p0 :: st) ah Q = WP E (c + 1) 110 4 [a0, a1, a2, a3, a4, a5, a6, a7] (r.toList ++ st) ah1 Q := wp_call (As := [.long p0]) i110_1 (fun _ => rfl) rfl mr291.1 rfl h3 (by rw [mr291.2.1]; exact Nat.le_of_ble_eq_true rfl) h
theorem i110_4 : insAt 110 4 = some (.lstore 6, 6) := by decide +kernel
theorem r110_4 {E : aEnv} {c : Nat} {ah : aHp} {st : List Value} {Q : Option Value → aHp → Prop} {a0 a1 a2 a3 a4 a5 a6 a7 : Option Value} {x : Int64} : WP E c 110 4 [a0, a1, a2, a3, a4, a5, a6, a7] (.long x :: st) ah Q = WP E c 110 6 [a0, a1, a2, a3, a4, kil a5, some (.long x), none] (st) ah Q := wp_s i110_4 rfl rfl rfl rfl
theorem i110_6 : insAt 110 6 = some (.lload 6, 8) := by decide +kernel
theorem r110_6 {E : aEnv} {c : Nat} {ah : aHp} {st : List Value} {Q : Option Value → aHp → Prop} {a0 a1 a2 a3 a4 a5 a7 : Option Value} {x : Int64} : WP E c 110 6 [a0, a1, a2, a3, a4, a5, some (.long x), a7] (st) ah Q = WP E c 110 8 [a0, a1, a2, a3, a4, a5, some (.long x), a7] (.long x :: st) ah Q := wp_s i110_6 rfl rfl rfl rfl
theorem i110_8 : insAt 110 8 = some (.jsr_w 0, 9) := by decide +kernel
theorem r110_8 {E : aEnv} {c : Nat} {ah : aHp} {st : List Value} {Q : Option Value → aHp → Prop} {a0 a1 a2 a3 a4 a5 a6 a7 : Option Value} : WP E c 110 8 [a0, a1, a2, a3, a4, a5, a6, a7] (st) ah Q = WP E c 110 9 [a0, a1, a2, a3, a4, a5, a6, a7] (.long (0) :: st) ah Q := wp_s i110_8 rfl rfl rfl rfl
theorem i110_9 : insAt 110 9 = some (.lcmp, 10) := by decide +kernel
theorem r110_9 {E : aEnv} {c : Nat} {ah : aHp} {st : List Value} {Q : Option Value → aHp → Prop} {a0 a1 a2 a3 a4 a5 a6 a7 : Option Value} {x y : Int64} : WP E c 110 9 [a0, a1, a2, a3, a4, a5, a6, a7] (.long y :: .long x :: st) ah Q = WP E c 110 10 [a0, a1, a2, a3, a4, a5, a6, a7] (.int (lg_cmp x y) :: st) ah Q := wp_s i110_9 rfl rfl rfl rfl
theorem i110_10 : insAt 110 10 = some (.ifCond .le 36, 13) := by decide +kernel
theorem r110_10 {E : aEnv} {c : Nat} {ah : aHp} {st : List Value} {Q : Option Value → aHp → Prop} {a0 a1 a2 a3 a4 a5 a6 a7 : Option Value} {x : Int32} : WP E c 110 10 [a0, a1, a2, a3, a4, a5, a6, a7] (.int x :: st) ah Q = if x ≤ 0 then WP E c 110 36 [a0, a1, a2, a3, a4, a5, a6, a7] st ah Q else WP E c 110 13 [a0, a1, a2, a3, a4, a5, a6, a7] st ah Q := wp_j i110_10 rfl rfl rfl rfl
theorem i110_13 : insAt 110 13 = some (.lload 4, 15) := by decide +kernel
theorem r110_13 {E : aEnv} {c : Nat} {ah : aHp} {st : List Value} {Q : Option Value → aHp → Prop} {a0 a1 a2 a3 a5 a6 a7 : Option Value} {x : Int64} : WP E c 110 13 [a0, a1, a2, a3, some (.long x), a5, a6, a7] (st) ah Q = WP E c 110 15 [a0, a1, a2, a3, some (.long x), a5, a6, a7] (.long x :: st) ah Q := wp_s i110_13 rfl rfl rfl rfl
theorem i110_15 : insAt 110 15 = some (.invokestatic 291, 18) := by decide +kernel
theorem r110_15 {E : aEnv} {c : Nat} {ah ah1 : aHp} {r : Option Value} {st : List Value} {Q : Option Value → aHp → Prop} {a0 a1 a2 a3 a4 a5 a6 a7 : Option Value} {p0 : Int64} (h : EV E c 291 [.long p0] ah r ah1) (h3 : wds st ≤ 8) : WP E (c + 1) 110 15 [a0, a1, a2, a3, a4, a5, a6, a7] (.long p0 :: st) ah Q = WP E (c + 1) 110 18 [a0, a1, a2, a3, a4, a5, a6, a7] (r.toList ++ st) ah1 Q := wp_call (As := [.long p0]) i110_15 (fun _ => rfl) rfl mr291.1 rfl h3 (by rw [mr291.2.1]; exact Nat.le_of_ble_eq_true rfl) h
theorem i110_18 : insAt 110 18 = some (.jsr_w 999999999999, 21) := by decide +kernel
theorem r110_18 {E : aEnv} {c : Nat} {ah : aHp} {st : List Value} {Q : Option Value → aHp → Prop} {a0 a1 a2 a3 a4 a5 a6 a7 : Option Value} : WP E c 110 18 [a0, a1, a2, a3, a4, a5, a6, a7] (st) ah Q = WP E c 110 21 [a0, a1, a2, a3, a4, a5, a6, a7] (.long (999999999999) :: st) ah Q := wp_s i110_18 rfl rfl rfl rfl
theorem i110_21 : insAt 110 21 = some (.lload 6, 23) := by decide +kernel
theorem r110_21 {E : aEnv} {c : Nat} {ah : aHp} {st : List Value} {Q : Option Value → aHp → Prop} {a0 a1 a2 a3 a4 a5 a7 : Option Value} {x : Int64} : WP E c 110 21 [a0, a1, a2, a3, a4, a5, some (.long x), a7] (st) ah Q = WP E c 110 23 [a0, a1, a2, a3, a4, a5, some (.long x), a7] (.long x :: st) ah Q := wp_s i110_21 rfl rfl rfl rfl
theorem i110_23 : insAt 110 23 = some (.ldiv, 24) := by decide +kernel
theorem r110_23 {E : aEnv} {c : Nat} {ah : aHp} {st : List Value} {Q : Option Value → aHp → Prop} {a0 a1 a2 a3 a4 a5 a6 a7 : Option Value} {x y : Int64} (hy : ¬ y = 0) : WP E c 110 23 [a0, a1, a2, a3, a4, a5, a6, a7] (.long y :: .long x :: st) ah Q = WP E c 110 24 [a0, a1, a2, a3, a4, a5, a6, a7] (.long (x / y) :: st) ah Q := wp_st (z := (24, [a0, a1, a2, a3, a4, a5, a6, a7], .long (x / y) :: st, ah)) i110_23 rfl rfl rfl (by simp [st1, skA, tD, hy])
theorem i110_24 : insAt 110 24 = some (.lcmp, 25) := by decide +kernel
theorem r110_24 {E : aEnv} {c : Nat} {ah : aHp} {st : List Value} {Q : Option Value → aHp → Prop} {a0 a1 a2 a3 a4 a5 a6 a7 : Option Value} {x y : Int64} : WP E c 110 24 [a0, a1, a2, a3, a4, a5, a6, a7] (.long y :: .long x :: st) ah Q = WP E c 110 25 [a0, a1, a2, a3, a4, a5, a6, a7] (.int (lg_cmp x y) :: st) ah Q := wp_s i110_24 rfl rfl rfl rfl
theorem i110_25 : insAt 110 25 = some (.ifCond .le 36, 28) := by decide +kernel
theorem r110_25 {E : aEnv} {c : Nat} {ah : aHp} {st : List Value} {Q : Option Value → aHp → Prop} {a0 a1 a2 a3 a4 a5 a6 a7 : Option Value} {x : Int32} : WP E c 110 25 [a0, a1, a2, a3, a4, a5, a6, a7] (.int x :: st) ah Q = if x ≤ 0 then WP E c 110 36 [a0, a1, a2, a3, a4, a5, a6, a7] st ah Q else WP E c 110 28 [a0, a1, a2, a3, a4, a5, a6, a7] st ah Q := wp_j i110_25 rfl rfl rfl rfl
theorem i110_28 : insAt 110 28 = some (.aload 0, 29) := by decide +kernel
theorem r110_28 {E : aEnv} {c : Nat} {ah : aHp} {st : List Value} {Q : Option Value → aHp → Prop} {a1 a2 a3 a4 a5 a6 a7 : Option Value} {x : Nat} : WP E c 110 28 [some (.ref x), a1, a2, a3, a4, a5, a6, a7] (st) ah Q = WP E c 110 29 [some (.ref x), a1, a2, a3, a4, a5, a6, a7] (.ref x :: st) ah Q := wp_s i110_28 rfl rfl rfl rfl
theorem i110_29 : insAt 110 29 = some (.iconst 1, 30) := by decide +kernel
theorem r110_29 {E : aEnv} {c : Nat} {ah : aHp} {st : List Value} {Q : Option Value → aHp → Prop} {a0 a1 a2 a3 a4 a5 a6 a7 : Option Value} : WP E c 110 29 [a0, a1, a2, a3, a4, a5, a6, a7] (st) ah Q = WP E c 110 30 [a0, a1, a2, a3, a4, a5, a6, a7] (.int (1) :: st) ah Q := wp_s i110_29 rfl rfl rfl rfl
theorem i110_30 : insAt 110 30 = some (.putfield 7070, 33) := by decide +kernel
theorem r110_30 {E : aEnv} {c : Nat} {ah : aHp} {st : List Value} {Q : Option Value → aHp → Prop} {a0 a1 a2 a3 a4 a5 a6 a7 : Option Value} {a : Nat} {v : Value} : WP E c 110 30 [a0, a1, a2, a3, a4, a5, a6, a7] (v :: .ref a :: st) ah Q = WPo (oPF (hg E ah a) 7070 v) (fun e => WP E c 110 33 [a0, a1, a2, a3, a4, a5, a6, a7] st (hs E ah a e) Q) := wp_putf i110_30
theorem i110_33 : insAt 110 33 = some (.goto 52, 36) := by decide +kernel
theorem r110_33 {E : aEnv} {c : Nat} {ah : aHp} {st : List Value} {Q : Option Value → aHp → Prop} {a0 a1 a2 a3 a4 a5 a6 a7 : Option Value} : WP E c 110 33 [a0, a1, a2, a3, a4, a5, a6, a7] (st) ah Q = WP E c 110 52 [a0, a1, a2, a3, a4, a5, a6, a7] st ah Q := wp_s i110_33 rfl rfl rfl rfl
theorem i110_36 : insAt 110 36 = some (.aload 0, 37) := by decide +kernel
theorem r110_36 {E : aEnv} {c : Nat} {ah : aHp} {st : List Value} {Q : Option Value → aHp → Prop} {a1 a2 a3 a4 a5 a6 a7 : Option Value} {x : Nat} : WP E c 110 36 [some (.ref x), a1, a2, a3, a4, a5, a6, a7] (st) ah Q = WP E c 110 37 [some (.ref x), a1, a2, a3, a4, a5, a6, a7] (.ref x :: st) ah Q := wp_s i110_36 rfl rfl rfl rfl
theorem i110_37 : insAt 110 37 = some (.aload 1, 38) := by decide +kernel
theorem r110_37 {E : aEnv} {c : Nat} {ah : aHp} {st : List Value} {Q : Option Value → aHp → Prop} {a0 a2 a3 a4 a5 a6 a7 : Option Value} {x : Nat} : WP E c 110 37 [a0, some (.ref x), a2, a3, a4, a5, a6, a7] (st) ah Q = WP E c 110 38 [a0, some (.ref x), a2, a3, a4, a5, a6, a7] (.ref x :: st) ah Q := wp_s i110_37 rfl rfl rfl rfl
theorem r110_37n {E : aEnv} {c : Nat} {ah : aHp} {st : List Value} {Q : Option Value → aHp → Prop} {a0 a2 a3 a4 a5 a6 a7 : Option Value} : WP E c 110 37 [a0, some .null, a2, a3, a4, a5, a6, a7] (st) ah Q = WP E c 110 38 [a0, some .null, a2, a3, a4, a5, a6, a7] (.null :: st) ah Q := wp_s i110_37 rfl rfl rfl rfl
theorem i110_38 : insAt 110 38 = some (.lload 2, 39) := by decide +kernel
theorem r110_38 {E : aEnv} {c : Nat} {ah : aHp} {st : List Value} {Q : Option Value → aHp → Prop} {a0 a1 a3 a4 a5 a6 a7 : Option Value} {x : Int64} : WP E c 110 38 [a0, a1, some (.long x), a3, a4, a5, a6, a7] (st) ah Q = WP E c 110 39 [a0, a1, some (.long x), a3, a4, a5, a6, a7] (.long x :: st) ah Q := wp_s i110_38 rfl rfl rfl rfl
theorem i110_39 : insAt 110 39 = some (.lload 4, 41) := by decide +kernel
theorem r110_39 {E : aEnv} {c : Nat} {ah : aHp} {st : List Value} {Q : Option Value → aHp → Prop} {a0 a1 a2 a3 a5 a6 a7 : Option Value} {x : Int64} : WP E c 110 39 [a0, a1, a2, a3, some (.long x), a5, a6, a7] (st) ah Q = WP E c 110 41 [a0, a1, a2, a3, some (.long x), a5, a6, a7] (.long x :: st) ah Q := wp_s i110_39 rfl rfl rfl rfl
theorem i110_41 : insAt 110 41 = some (.lmul, 42) := by decide +kernel
theorem r110_41 {E : aEnv} {c : Nat} {ah : aHp} {st : List Value} {Q : Option Value → aHp → Prop} {a0 a1 a2 a3 a4 a5 a6 a7 : Option Value} {x y : Int64} : WP E c 110 41 [a0, a1, a2, a3, a4, a5, a6, a7] (.long y :: .long x :: st) ah Q = WP E c 110 42 [a0, a1, a2, a3, a4, a5, a6, a7] (.long (x * y) :: st) ah Q := wp_s i110_41 rfl rfl rfl rfl
theorem i110_42 : insAt 110 42 = some (.iconst 2, 43) := by decide +kernel
theorem r110_42 {E : aEnv} {c : Nat} {ah : aHp} {st : List Value} {Q : Option Value → aHp → Prop} {a0 a1 a2 a3 a4 a5 a6 a7 : Option Value} : WP E c 110 42 [a0, a1, a2, a3, a4, a5, a6, a7] (st) ah Q = WP E c 110 43 [a0, a1, a2, a3, a4, a5, a6, a7] (.int (2) :: st) ah Q := wp_s i110_42 rfl rfl rfl rfl
theorem i110_43 : insAt 110 43 = some (.lload 6, 45) := by decide +kernel
theorem r110_43 {E : aEnv} {c : Nat} {ah : aHp} {st : List Value} {Q : Option Value → aHp → Prop} {a0 a1 a2 a3 a4 a5 a7 : Option Value} {x : Int64} : WP E c 110 43 [a0, a1, a2, a3, a4, a5, some (.long x), a7] (st) ah Q = WP E c 110 45 [a0, a1, a2, a3, a4, a5, some (.long x), a7] (.long x :: st) ah Q := wp_s i110_43 rfl rfl rfl rfl
theorem i110_45 : insAt 110 45 = some (.invokestatic 113, 48) := by decide +kernel
theorem r110_45 {E : aEnv} {c : Nat} {ah ah1 : aHp} {r : Option Value} {st : List Value} {Q : Option Value → aHp → Prop} {a0 a1 a2 a3 a4 a5 a6 a7 : Option Value} {p0 : Int64} (h : EV E c 113 [.long p0] ah r ah1) (h3 : wds st ≤ 8) : WP E (c + 1) 110 45 [a0, a1, a2, a3, a4, a5, a6, a7] (.long p0 :: st) ah Q = WP E (c + 1) 110 48 [a0, a1, a2, a3, a4, a5, a6, a7] (r.toList ++ st) ah1 Q := wp_call (As := [.long p0]) i110_45 (fun _ => rfl) rfl mr113.1 rfl h3 (by rw [mr113.2.1]; exact Nat.le_of_ble_eq_true rfl) h
theorem i110_48 : insAt 110 48 = some (.iadd, 49) := by decide +kernel
theorem r110_48 {E : aEnv} {c : Nat} {ah : aHp} {st : List Value} {Q : Option Value → aHp → Prop} {a0 a1 a2 a3 a4 a5 a6 a7 : Option Value} {x y : Int32} : WP E c 110 48 [a0, a1, a2, a3, a4, a5, a6, a7] (.int y :: .int x :: st) ah Q = WP E c 110 49 [a0, a1, a2, a3, a4, a5, a6, a7] (.int (x + y) :: st) ah Q := wp_s i110_48 rfl rfl rfl rfl
theorem i110_49 : insAt 110 49 = some (.invokevirtual 112, 52) := by decide +kernel
theorem r110_49 {E : aEnv} {c : Nat} {ah ah1 : aHp} {r : Option Value} {st : List Value} {Q : Option Value → aHp → Prop} {a0 a1 a2 a3 a4 a5 a6 a7 : Option Value} {p0 : Nat} {p1 : Nat} {p2 : Int64} {p3 : Int32} (h : EV E c 112 [.ref p0, .ref p1, .long p2, .int p3] ah r ah1) (h2 : oCI (hg E ah p0) = 7) (h3 : wds st ≤ 8) : WP E (c + 1) 110 49 [a0, a1, a2, a3, a4, a5, a6, a7] (.int p3 :: .long p2 :: .ref p1 :: .ref p0 :: st) ah Q = WP E (c + 1) 110 52 [a0, a1, a2, a3, a4, a5, a6, a7] (r.toList ++ st) ah1 Q := wp_call (As := [.ref p0, .ref p1, .long p2, .int p3]) i110_49 (fun _ => rfl) rfl mr112.1 (rcv_1 h2 mr112.2.2 (by decide)) h3 (by rw [mr112.2.1]; exact Nat.le_of_ble_eq_true rfl) h
theorem i110_52 : insAt 110 52 = some (.return_, 53) := by decide +kernel
theorem r110_52 {E : aEnv} {c : Nat} {ah : aHp} {Q : Option Value → aHp → Prop} {a0 a1 a2 a3 a4 a5 a6 a7 : Option Value} : WP E c 110 52 [a0, a1, a2, a3, a4, a5, a6, a7] ([]) ah Q = Q none ah := wp_rt i110_52 rfl
theorem e111 {E : aEnv} {c : Nat} {ah ahF : aHp} {r : Option Value} {p0 : Nat} {p1 : Nat} {p2 : Int64} {p3 : Int64} (h : WP E c 111 0 [some (.ref p0), some (.ref p1), some (.long p2), none, some (.long p3), none, none, none, none] [] ah (fun r1 x1 => r1 = r ∧ x1 = ahF)) : EV E c 111 [.ref p0, .ref p1, .long p2, .long p3] ah r ahF := EV.of (by rw [mr111.2.1]; exact h)
theorem i111_0 : insAt 111 0 = some (.lload 4, 2) := by decide +kernel
theorem r111_0 {E : aEnv} {c : Nat} {ah : aHp} {st : List Value} {Q : Option Value → aHp → Prop} {a0 a1 a2 a3 a5 a6 a7 a8 : Option Value} {x : Int64} : WP E c 111 0 [a0, a1, a2, a3, some (.long x), a5, a6, a7, a8] (st) ah Q = WP E c 111 2 [a0, a1, a2, a3, some (.long x), a5, a6, a7, a8] (.long x :: st) ah Q := wp_s i111_0 rfl rfl rfl rfl
theorem i111_2 : insAt 111 2 = some (.jsr_w 0, 3) := by decide +kernel
theorem r111_2 {E : aEnv} {c : Nat} {ah : aHp} {st : List Value} {Q : Option Value → aHp → Prop} {a0 a1 a2 a3 a4 a5 a6 a7 a8 : Option Value} : WP E c 111 2 [a0, a1, a2, a3, a4, a5, a6, a7, a8] (st) ah Q = WP E c 111 3 [a0, a1, a2, a3, a4, a5, a6, a7, a8] (.long (0) :: st) ah Q := wp_s i111_2 rfl rfl rfl rfl
theorem i111_3 : insAt 111 3 = some (.lcmp, 4) := by decide +kernel
theorem r111_3 {E : aEnv} {c : Nat} {ah : aHp} {st : List Value} {Q : Option Value → aHp → Prop} {a0 a1 a2 a3 a4 a5 a6 a7 a8 : Option Value} {x y : Int64} : WP E c 111 3 [a0, a1, a2, a3, a4, a5, a6, a7, a8] (.long y :: .long x :: st) ah Q = WP E c 111 4 [a0, a1, a2, a3, a4, a5, a6, a7, a8] (.int (lg_cmp x y) :: st) ah Q := wp_s i111_3 rfl rfl rfl rfl
theorem i111_4 : insAt 111 4 = some (.ifCond .ne 13, 7) := by decide +kernel
theorem r111_4 {E : aEnv} {c : Nat} {ah : aHp} {st : List Value} {Q : Option Value → aHp → Prop} {a0 a1 a2 a3 a4 a5 a6 a7 a8 : Option Value} {x : Int32} : WP E c 111 4 [a0, a1, a2, a3, a4, a5, a6, a7, a8] (.int x :: st) ah Q = if ¬ x = 0 then WP E c 111 13 [a0, a1, a2, a3, a4, a5, a6, a7, a8] st ah Q else WP E c 111 7 [a0, a1, a2, a3, a4, a5, a6, a7, a8] st ah Q := wp_j i111_4 rfl rfl rfl rfl
theorem i111_7 : insAt 111 7 = some (.aload 0, 8) := by decide +kernel
theorem r111_7 {E : aEnv} {c : Nat} {ah : aHp} {st : List Value} {Q : Option Value → aHp → Prop} {a1 a2 a3 a4 a5 a6 a7 a8 : Option Value} {x : Nat} : WP E c 111 7 [some (.ref x), a1, a2, a3, a4, a5, a6, a7, a8] (st) ah Q = WP E c 111 8 [some (.ref x), a1, a2, a3, a4, a5, a6, a7, a8] (.ref x :: st) ah Q := wp_s i111_7 rfl rfl rfl rfl
theorem i111_8 : insAt 111 8 = some (.iconst 2, 9) := by decide +kernel
theorem r111_8 {E : aEnv} {c : Nat} {ah : aHp} {st : List Value} {Q : Option Value → aHp → Prop} {a0 a1 a2 a3 a4 a5 a6 a7 a8 : Option Value} : WP E c 111 8 [a0, a1, a2, a3, a4, a5, a6, a7, a8] (st) ah Q = WP E c 111 9 [a0, a1, a2, a3, a4, a5, a6, a7, a8] (.int (2) :: st) ah Q := wp_s i111_8 rfl rfl rfl rfl
theorem i111_9 : insAt 111 9 = some (.putfield 7070, 12) := by decide +kernel
theorem r111_9 {E : aEnv} {c : Nat} {ah : aHp} {st : List Value} {Q : Option Value → aHp → Prop} {a0 a1 a2 a3 a4 a5 a6 a7 a8 : Option Value} {a : Nat} {v : Value} : WP E c 111 9 [a0, a1, a2, a3, a4, a5, a6, a7, a8] (v :: .ref a :: st) ah Q = WPo (oPF (hg E ah a) 7070 v) (fun e => WP E c 111 12 [a0, a1, a2, a3, a4, a5, a6, a7, a8] st (hs E ah a e) Q) := wp_putf i111_9
theorem i111_12 : insAt 111 12 = some (.return_, 13) := by decide +kernel
theorem r111_12 {E : aEnv} {c : Nat} {ah : aHp} {Q : Option Value → aHp → Prop} {a0 a1 a2 a3 a4 a5 a6 a7 a8 : Option Value} : WP E c 111 12 [a0, a1, a2, a3, a4, a5, a6, a7, a8] ([]) ah Q = Q none ah := wp_rt i111_12 rfl
theorem i111_13 : insAt 111 13 = some (.aload 1, 14) := by decide +kernel
theorem r111_13 {E : aEnv} {c : Nat} {ah : aHp} {st : List Value} {Q : Option Value → aHp → Prop} {a0 a2 a3 a4 a5 a6 a7 a8 : Option Value} {x : Nat} : WP E c 111 13 [a0, some (.ref x), a2, a3, a4, a5, a6, a7, a8] (st) ah Q = WP E c 111 14 [a0, some (.ref x), a2, a3, a4, a5, a6, a7, a8] (.ref x :: st) ah Q := wp_s i111_13 rfl rfl rfl rfl
theorem r111_13n {E : aEnv} {c : Nat} {ah : aHp} {st : List Value} {Q : Option Value → aHp → Prop} {a0 a2 a3 a4 a5 a6 a7 a8 : Option Value} : WP E c 111 13 [a0, some .null, a2, a3, a4, a5, a6, a7, a8] (st) ah Q = WP E c 111 14 [a0, some .null, a2, a3, a4, a5, a6, a7, a8] (.null :: st) ah Q := wp_s i111_13 rfl rfl rfl rfl
theorem i111_14 : insAt 111 14 = some (.aload 0, 15) := by decide +kernel
theorem r111_14 {E : aEnv} {c : Nat} {ah : aHp} {st : List Value} {Q : Option Value → aHp → Prop} {a1 a2 a3 a4 a5 a6 a7 a8 : Option Value} {x : Nat} : WP E c 111 14 [some (.ref x), a1, a2, a3, a4, a5, a6, a7, a8] (st) ah Q = WP E c 111 15 [some (.ref x), a1, a2, a3, a4, a5, a6, a7, a8] (.ref x :: st) ah Q := wp_s i111_14 rfl rfl rfl rfl
theorem i111_15 : insAt 111 15 = some (.getfield 7050, 18) := by decide +kernel
theorem r111_15 {E : aEnv} {c : Nat} {ah : aHp} {st : List Value} {Q : Option Value → aHp → Prop} {a0 a1 a2 a3 a4 a5 a6 a7 a8 : Option Value} {a : Nat} : WP E c 111 15 [a0, a1, a2, a3, a4, a5, a6, a7, a8] (.ref a :: st) ah Q = WPo (oGF (hg E ah a) 7 5) (fun v => WP E c 111 18 [a0, a1, a2, a3, a4, a5, a6, a7, a8] (v :: st) ah Q) := wp_getf i111_15
theorem i111_18 : insAt 111 18 = some (.iconst 3, 19) := by decide +kernel
theorem r111_18 {E : aEnv} {c : Nat} {ah : aHp} {st : List Value} {Q : Option Value → aHp → Prop} {a0 a1 a2 a3 a4 a5 a6 a7 a8 : Option Value} : WP E c 111 18 [a0, a1, a2, a3, a4, a5, a6, a7, a8] (st) ah Q = WP E c 111 19 [a0, a1, a2, a3, a4, a5, a6, a7, a8] (.int (3) :: st) ah Q := wp_s i111_18 rfl rfl rfl rfl
theorem i111_19 : insAt 111 19 = some (.invokevirtual 22, 22) := by decide +kernel
theorem r111_19 {E : aEnv} {c : Nat} {ah ah1 : aHp} {r : Option Value} {st : List Value} {Q : Option Value → aHp → Prop} {a0 a1 a2 a3 a4 a5 a6 a7 a8 : Option Value} {p0 : Nat} {p1 : Int32} {p2 : Int32} (h : EV E c 22 [.ref p0, .int p1, .int p2] ah r ah1) (h2 : oCI (hg E ah p0) = 1) (h3 : wds st ≤ 8) : WP E (c + 1) 111 19 [a0, a1, a2, a3, a4, a5, a6, a7, a8] (.int p2 :: .int p1 :: .ref p0 :: st) ah Q = WP E (c + 1) 111 22 [a0, a1, a2, a3, a4, a5, a6, a7, a8] (r.toList ++ st) ah1 Q := wp_call (As := [.ref p0, .int p1, .int p2]) i111_19 (fun _ => rfl) rfl mr22.1 (rcv_1 h2 mr22.2.2 (by decide)) h3 (by rw [mr22.2.1]; exact Nat.le_of_ble_eq_true rfl) h
theorem i111_22 : insAt 111 22 = some (.istore 6, 24) := by decide +kernel
theorem r111_22 {E : aEnv} {c : Nat} {ah : aHp} {st : List Value} {Q : Option Value → aHp → Prop} {a0 a1 a2 a3 a4 a5 a6 a7 a8 : Option Value} {x : Int32} : WP E c 111 22 [a0, a1, a2, a3, a4, a5, a6, a7, a8] (.int x :: st) ah Q = WP E c 111 24 [a0, a1, a2, a3, a4, kil a5, some (.int x), a7, a8] (st) ah Q := wp_s i111_22 rfl rfl rfl rfl
theorem i111_24 : insAt 111 24 = some (.lload 2, 25) := by decide +kernel
theorem r111_24 {E : aEnv} {c : Nat} {ah : aHp} {st : List Value} {Q : Option Value → aHp → Prop} {a0 a1 a3 a4 a5 a6 a7 a8 : Option Value} {x : Int64} : WP E c 111 24 [a0, a1, some (.long x), a3, a4, a5, a6, a7, a8] (st) ah Q = WP E c 111 25 [a0, a1, some (.long x), a3, a4, a5, a6, a7, a8] (.long x :: st) ah Q := wp_s i111_24 rfl rfl rfl rfl
theorem i111_25 : insAt 111 25 = some (.lload 4, 27) := by decide +kernel
theorem r111_25 {E : aEnv} {c : Nat} {ah : aHp} {st : List Value} {Q : Option Value → aHp → Prop} {a0 a1 a2 a3 a5 a6 a7 a8 : Option Value} {x : Int64} : WP E c 111 25 [a0, a1, a2, a3, some (.long x), a5, a6, a7, a8] (st) ah Q = WP E c 111 27 [a0, a1, a2, a3, some (.long x), a5, a6, a7, a8] (.long x :: st) ah Q := wp_s i111_25 rfl rfl rfl rfl
theorem i111_27 : insAt 111 27 = some (.ldiv, 28) := by decide +kernel
theorem r111_27 {E : aEnv} {c : Nat} {ah : aHp} {st : List Value} {Q : Option Value → aHp → Prop} {a0 a1 a2 a3 a4 a5 a6 a7 a8 : Option Value} {x y : Int64} (hy : ¬ y = 0) : WP E c 111 27 [a0, a1, a2, a3, a4, a5, a6, a7, a8] (.long y :: .long x :: st) ah Q = WP E c 111 28 [a0, a1, a2, a3, a4, a5, a6, a7, a8] (.long (x / y) :: st) ah Q := wp_st (z := (28, [a0, a1, a2, a3, a4, a5, a6, a7, a8], .long (x / y) :: st, ah)) i111_27 rfl rfl rfl (by simp [st1, skA, tD, hy])
theorem i111_28 : insAt 111 28 = some (.lstore 7, 30) := by decide +kernel
theorem r111_28 {E : aEnv} {c : Nat} {ah : aHp} {st : List Value} {Q : Option Value → aHp → Prop} {a0 a1 a2 a3 a4 a5 a6 a7 a8 : Option Value} {x : Int64} : WP E c 111 28 [a0, a1, a2, a3, a4, a5, a6, a7, a8] (.long x :: st) ah Q = WP E c 111 30 [a0, a1, a2, a3, a4, a5, kil a6, some (.long x), none] (st) ah Q := wp_s i111_28 rfl rfl rfl rfl
theorem i111_30 : insAt 111 30 = some (.aload 0, 31) := by decide +kernel
theorem r111_30 {E : aEnv} {c : Nat} {ah : aHp} {st : List Value} {Q : Option Value → aHp → Prop} {a1 a2 a3 a4 a5 a6 a7 a8 : Option Value} {x : Nat} : WP E c 111 30 [some (.ref x), a1, a2, a3, a4, a5, a6, a7, a8] (st) ah Q = WP E c 111 31 [some (.ref x), a1, a2, a3, a4, a5, a6, a7, a8] (.ref x :: st) ah Q := wp_s i111_30 rfl rfl rfl rfl
theorem i111_31 : insAt 111 31 = some (.aload 1, 32) := by decide +kernel
theorem r111_31 {E : aEnv} {c : Nat} {ah : aHp} {st : List Value} {Q : Option Value → aHp → Prop} {a0 a2 a3 a4 a5 a6 a7 a8 : Option Value} {x : Nat} : WP E c 111 31 [a0, some (.ref x), a2, a3, a4, a5, a6, a7, a8] (st) ah Q = WP E c 111 32 [a0, some (.ref x), a2, a3, a4, a5, a6, a7, a8] (.ref x :: st) ah Q := wp_s i111_31 rfl rfl rfl rfl
theorem r111_31n {E : aEnv} {c : Nat} {ah : aHp} {st : List Value} {Q : Option Value → aHp → Prop} {a0 a2 a3 a4 a5 a6 a7 a8 : Option Value} : WP E c 111 31 [a0, some .null, a2, a3, a4, a5, a6, a7, a8] (st) ah Q = WP E c 111 32 [a0, some .null, a2, a3, a4, a5, a6, a7, a8] (.null :: st) ah Q := wp_s i111_31 rfl rfl rfl rfl
theorem i111_32 : insAt 111 32 = some (.lload 7, 34) := by decide +kernel
theorem r111_32 {E : aEnv} {c : Nat} {ah : aHp} {st : List Value} {Q : Option Value → aHp → Prop} {a0 a1 a2 a3 a4 a5 a6 a8 : Option Value} {x : Int64} : WP E c 111 32 [a0, a1, a2, a3, a4, a5, a6, some (.long x), a8] (st) ah Q = WP E c 111 34 [a0, a1, a2, a3, a4, a5, a6, some (.long x), a8] (.long x :: st) ah Q := wp_s i111_32 rfl rfl rfl rfl
theorem i111_34 : insAt 111 34 = some (.iconst 3, 35) := by decide +kernel
theorem r111_34 {E : aEnv} {c : Nat} {ah : aHp} {st : List Value} {Q : Option Value → aHp → Prop} {a0 a1 a2 a3 a4 a5 a6 a7 a8 : Option Value} : WP E c 111 34 [a0, a1, a2, a3, a4, a5, a6, a7, a8] (st) ah Q = WP E c 111 35 [a0, a1, a2, a3, a4, a5, a6, a7, a8] (.int (3) :: st) ah Q := wp_s i111_34 rfl rfl rfl rfl
theorem i111_35 : insAt 111 35 = some (.lload 7, 37) := by decide +kernel
theorem r111_35 {E : aEnv} {c : Nat} {ah : aHp} {st : List Value} {Q : Option Value → aHp → Prop} {a0 a1 a2 a3 a4 a5 a6 a8 : Option Value} {x : Int64} : WP E c 111 35 [a0, a1, a2, a3, a4, a5, a6, some (.long x), a8] (st) ah Q = WP E c 111 37 [a0, a1, a2, a3, a4, a5, a6, some (.long x), a8] (.long x :: st) ah Q := wp_s i111_35 rfl rfl rfl rfl
theorem i111_37 : insAt 111 37 = some (.invokestatic 291, 40) := by decide +kernel
theorem r111_37 {E : aEnv} {c : Nat} {ah ah1 : aHp} {r : Option Value} {st : List Value} {Q : Option Value → aHp → Prop} {a0 a1 a2 a3 a4 a5 a6 a7 a8 : Option Value} {p0 : Int64} (h : EV E c 291 [.long p0] ah r ah1) (h3 : wds st ≤ 8) : WP E (c + 1) 111 37 [a0, a1, a2, a3, a4, a5, a6, a7, a8] (.long p0 :: st) ah Q = WP E (c + 1) 111 40 [a0, a1, a2, a3, a4, a5, a6, a7, a8] (r.toList ++ st) ah1 Q := wp_call (As := [.long p0]) i111_37 (fun _ => rfl) rfl mr291.1 rfl h3 (by rw [mr291.2.1]; exact Nat.le_of_ble_eq_true rfl) h
theorem i111_40 : insAt 111 40 = some (.invokestatic 113, 43) := by decide +kernel
theorem r111_40 {E : aEnv} {c : Nat} {ah ah1 : aHp} {r : Option Value} {st : List Value} {Q : Option Value → aHp → Prop} {a0 a1 a2 a3 a4 a5 a6 a7 a8 : Option Value} {p0 : Int64} (h : EV E c 113 [.long p0] ah r ah1) (h3 : wds st ≤ 8) : WP E (c + 1) 111 40 [a0, a1, a2, a3, a4, a5, a6, a7, a8] (.long p0 :: st) ah Q = WP E (c + 1) 111 43 [a0, a1, a2, a3, a4, a5, a6, a7, a8] (r.toList ++ st) ah1 Q := wp_call (As := [.long p0]) i111_40 (fun _ => rfl) rfl mr113.1 rfl h3 (by rw [mr113.2.1]; exact Nat.le_of_ble_eq_true rfl) h
theorem i111_43 : insAt 111 43 = some (.iadd, 44) := by decide +kernel
theorem r111_43 {E : aEnv} {c : Nat} {ah : aHp} {st : List Value} {Q : Option Value → aHp → Prop} {a0 a1 a2 a3 a4 a5 a6 a7 a8 : Option Value} {x y : Int32} : WP E c 111 43 [a0, a1, a2, a3, a4, a5, a6, a7, a8] (.int y :: .int x :: st) ah Q = WP E c 111 44 [a0, a1, a2, a3, a4, a5, a6, a7, a8] (.int (x + y) :: st) ah Q := wp_s i111_43 rfl rfl rfl rfl
theorem i111_44 : insAt 111 44 = some (.invokevirtual 112, 47) := by decide +kernel
theorem r111_44 {E : aEnv} {c : Nat} {ah ah1 : aHp} {r : Option Value} {st : List Value} {Q : Option Value → aHp → Prop} {a0 a1 a2 a3 a4 a5 a6 a7 a8 : Option Value} {p0 : Nat} {p1 : Nat} {p2 : Int64} {p3 : Int32} (h : EV E c 112 [.ref p0, .ref p1, .long p2, .int p3] ah r ah1) (h2 : oCI (hg E ah p0) = 7) (h3 : wds st ≤ 8) : WP E (c + 1) 111 44 [a0, a1, a2, a3, a4, a5, a6, a7, a8] (.int p3 :: .long p2 :: .ref p1 :: .ref p0 :: st) ah Q = WP E (c + 1) 111 47 [a0, a1, a2, a3, a4, a5, a6, a7, a8] (r.toList ++ st) ah1 Q := wp_call (As := [.ref p0, .ref p1, .long p2, .int p3]) i111_44 (fun _ => rfl) rfl mr112.1 (rcv_1 h2 mr112.2.2 (by decide)) h3 (by rw [mr112.2.1]; exact Nat.le_of_ble_eq_true rfl) h
theorem i111_47 : insAt 111 47 = some (.aload 0, 48) := by decide +kernel
theorem r111_47 {E : aEnv} {c : Nat} {ah : aHp} {st : List Value} {Q : Option Value → aHp → Prop} {a1 a2 a3 a4 a5 a6 a7 a8 : Option Value} {x : Nat} : WP E c 111 47 [some (.ref x), a1, a2, a3, a4, a5, a6, a7, a8] (st) ah Q = WP E c 111 48 [some (.ref x), a1, a2, a3, a4, a5, a6, a7, a8] (.ref x :: st) ah Q := wp_s i111_47 rfl rfl rfl rfl
theorem i111_48 : insAt 111 48 = some (.iload 6, 50) := by decide +kernel
theorem r111_48 {E : aEnv} {c : Nat} {ah : aHp} {st : List Value} {Q : Option Value → aHp → Prop} {a0 a1 a2 a3 a4 a5 a7 a8 : Option Value} {x : Int32} : WP E c 111 48 [a0, a1, a2, a3, a4, a5, some (.int x), a7, a8] (st) ah Q = WP E c 111 50 [a0, a1, a2, a3, a4, a5, some (.int x), a7, a8] (.int x :: st) ah Q := wp_s i111_48 rfl rfl rfl rfl
theorem i111_50 : insAt 111 50 = some (.lload 2, 51) := by decide +kernel
theorem r111_50 {E : aEnv} {c : Nat} {ah : aHp} {st : List Value} {Q : Option Value → aHp → Prop} {a0 a1 a3 a4 a5 a6 a7 a8 : Option Value} {x : Int64} : WP E c 111 50 [a0, a1, some (.long x), a3, a4, a5, a6, a7, a8] (st) ah Q = WP E c 111 51 [a0, a1, some (.long x), a3, a4, a5, a6, a7, a8] (.long x :: st) ah Q := wp_s i111_50 rfl rfl rfl rfl
theorem i111_51 : insAt 111 51 = some (.lload 4, 53) := by decide +kernel
theorem r111_51 {E : aEnv} {c : Nat} {ah : aHp} {st : List Value} {Q : Option Value → aHp → Prop} {a0 a1 a2 a3 a5 a6 a7 a8 : Option Value} {x : Int64} : WP E c 111 51 [a0, a1, a2, a3, some (.long x), a5, a6, a7, a8] (st) ah Q = WP E c 111 53 [a0, a1, a2, a3, some (.long x), a5, a6, a7, a8] (.long x :: st) ah Q := wp_s i111_51 rfl rfl rfl rfl
theorem i111_53 : insAt 111 53 = some (.lrem, 54) := by decide +kernel
theorem r111_53 {E : aEnv} {c : Nat} {ah : aHp} {st : List Value} {Q : Option Value → aHp → Prop} {a0 a1 a2 a3 a4 a5 a6 a7 a8 : Option Value} {x y : Int64} (hy : ¬ y = 0) : WP E c 111 53 [a0, a1, a2, a3, a4, a5, a6, a7, a8] (.long y :: .long x :: st) ah Q = WP E c 111 54 [a0, a1, a2, a3, a4, a5, a6, a7, a8] (.long (x - x / y * y) :: st) ah Q := wp_st (z := (54, [a0, a1, a2, a3, a4, a5, a6, a7, a8], .long (x - x / y * y) :: st, ah)) i111_53 rfl rfl rfl (by simp [st1, skA, tD, hy])
theorem i111_54 : insAt 111 54 = some (.invokevirtual 107, 57) := by decide +kernel
theorem r111_54 {E : aEnv} {c : Nat} {ah ah1 : aHp} {r : Option Value} {st : List Value} {Q : Option Value → aHp → Prop} {a0 a1 a2 a3 a4 a5 a6 a7 a8 : Option Value} {p0 : Nat} {p1 : Int32} {p2 : Int64} (h : EV E c 107 [.ref p0, .int p1, .long p2] ah r ah1) (h2 : oCI (hg E ah p0) = 7) (h3 : wds st ≤ 8) : WP E (c + 1) 111 54 [a0, a1, a2, a3, a4, a5, a6, a7, a8] (.long p2 :: .int p1 :: .ref p0 :: st) ah Q = WP E (c + 1) 111 57 [a0, a1, a2, a3, a4, a5, a6, a7, a8] (r.toList ++ st) ah1 Q := wp_call (As := [.ref p0, .int p1, .long p2]) i111_54 (fun _ => rfl) rfl mr107.1 (rcv_1 h2 mr107.2.2 (by decide)) h3 (by rw [mr107.2.1]; exact Nat.le_of_ble_eq_true rfl) h
theorem i111_57 : insAt 111 57 = some (.return_, 58) := by decide +kernel
theorem r111_57 {E : aEnv} {c : Nat} {ah : aHp} {Q : Option Value → aHp → Prop} {a0 a1 a2 a3 a4 a5 a6 a7 a8 : Option Value} : WP E c 111 57 [a0, a1, a2, a3, a4, a5, a6, a7, a8] ([]) ah Q = Q none ah := wp_rt i111_57 rfl
theorem e112 {E : aEnv} {c : Nat} {ah ahF : aHp} {r : Option Value} {p0 : Nat} {p1 : Nat} {p2 : Int64} {p3 : Int32} (h : WP E c 112 0 [some (.ref p0), some (.ref p1), some (.long p2), none, some (.int p3)] [] ah (fun r1 x1 => r1 = r ∧ x1 = ahF)) : EV E c 112 [.ref p0, .ref p1, .long p2, .int p3] ah r ahF := EV.of (by rw [mr112.2.1]; exact h)
theorem i112_0 : insAt 112 0 = some (.lload 2, 1) := by decide +kernel
theorem r112_0 {E : aEnv} {c : Nat} {ah : aHp} {st : List Value} {Q : Option Value → aHp → Prop} {a0 a1 a3 a4 : Option Value} {x : Int64} : WP E c 112 0 [a0, a1, some (.long x), a3, a4] (st) ah Q = WP E c 112 1 [a0, a1, some (.long x), a3, a4] (.long x :: st) ah Q := wp_s i112_0 rfl rfl rfl rfl
theorem i112_1 : insAt 112 1 = some (.jsr_w 999999999999, 4) := by decide +kernel
theorem r112_1 {E : aEnv} {c : Nat} {ah : aHp} {st : List Value} {Q : Option Value → aHp → Prop} {a0 a1 a2 a3 a4 : Option Value} : WP E c 112 1 [a0, a1, a2, a3, a4] (st) ah Q = WP E c 112 4 [a0, a1, a2, a3, a4] (.long (999999999999) :: st) ah Q := wp_s i112_1 rfl rfl rfl rfl
theorem i112_4 : insAt 112 4 = some (.lcmp, 5) := by decide +kernel
theorem r112_4 {E : aEnv} {c : Nat} {ah : aHp} {st : List Value} {Q : Option Value → aHp → Prop} {a0 a1 a2 a3 a4 : Option Value} {x y : Int64} : WP E c 112 4 [a0, a1, a2, a3, a4] (.long y :: .long x :: st) ah Q = WP E c 112 5 [a0, a1, a2, a3, a4] (.int (lg_cmp x y) :: st) ah Q := wp_s i112_4 rfl rfl rfl rfl
theorem i112_5 : insAt 112 5 = some (.ifCond .gt 16, 8) := by decide +kernel
theorem r112_5 {E : aEnv} {c : Nat} {ah : aHp} {st : List Value} {Q : Option Value → aHp → Prop} {a0 a1 a2 a3 a4 : Option Value} {x : Int32} : WP E c 112 5 [a0, a1, a2, a3, a4] (.int x :: st) ah Q = if 0 < x then WP E c 112 16 [a0, a1, a2, a3, a4] st ah Q else WP E c 112 8 [a0, a1, a2, a3, a4] st ah Q := wp_j i112_5 rfl rfl rfl rfl
theorem i112_8 : insAt 112 8 = some (.lload 2, 9) := by decide +kernel
theorem r112_8 {E : aEnv} {c : Nat} {ah : aHp} {st : List Value} {Q : Option Value → aHp → Prop} {a0 a1 a3 a4 : Option Value} {x : Int64} : WP E c 112 8 [a0, a1, some (.long x), a3, a4] (st) ah Q = WP E c 112 9 [a0, a1, some (.long x), a3, a4] (.long x :: st) ah Q := wp_s i112_8 rfl rfl rfl rfl
theorem i112_9 : insAt 112 9 = some (.jsr_w (-999999999999), 12) := by decide +kernel
theorem r112_9 {E : aEnv} {c : Nat} {ah : aHp} {st : List Value} {Q : Option Value → aHp → Prop} {a0 a1 a2 a3 a4 : Option Value} : WP E c 112 9 [a0, a1, a2, a3, a4] (st) ah Q = WP E c 112 12 [a0, a1, a2, a3, a4] (.long ((-999999999999)) :: st) ah Q := wp_s i112_9 rfl rfl rfl rfl
theorem i112_12 : insAt 112 12 = some (.lcmp, 13) := by decide +kernel
theorem r112_12 {E : aEnv} {c : Nat} {ah : aHp} {st : List Value} {Q : Option Value → aHp → Prop} {a0 a1 a2 a3 a4 : Option Value} {x y : Int64} : WP E c 112 12 [a0, a1, a2, a3, a4] (.long y :: .long x :: st) ah Q = WP E c 112 13 [a0, a1, a2, a3, a4] (.int (lg_cmp x y) :: st) ah Q := wp_s i112_12 rfl rfl rfl rfl
theorem i112_13 : insAt 112 13 = some (.ifCond .ge 22, 16) := by decide +kernel
theorem r112_13 {E : aEnv} {c : Nat} {ah : aHp} {st : List Value} {Q : Option Value → aHp → Prop} {a0 a1 a2 a3 a4 : Option Value} {x : Int32} : WP E c 112 13 [a0, a1, a2, a3, a4] (.int x :: st) ah Q = if 0 ≤ x then WP E c 112 22 [a0, a1, a2, a3, a4] st ah Q else WP E c 112 16 [a0, a1, a2, a3, a4] st ah Q := wp_j i112_13 rfl rfl rfl rfl
theorem i112_16 : insAt 112 16 = some (.aload 0, 17) := by decide +kernel
theorem r112_16 {E : aEnv} {c : Nat} {ah : aHp} {st : List Value} {Q : Option Value → aHp → Prop} {a1 a2 a3 a4 : Option Value} {x : Nat} : WP E c 112 16 [some (.ref x), a1, a2, a3, a4] (st) ah Q = WP E c 112 17 [some (.ref x), a1, a2, a3, a4] (.ref x :: st) ah Q := wp_s i112_16 rfl rfl rfl rfl
theorem i112_17 : insAt 112 17 = some (.iconst 1, 18) := by decide +kernel
theorem r112_17 {E : aEnv} {c : Nat} {ah : aHp} {st : List Value} {Q : Option Value → aHp → Prop} {a0 a1 a2 a3 a4 : Option Value} : WP E c 112 17 [a0, a1, a2, a3, a4] (st) ah Q = WP E c 112 18 [a0, a1, a2, a3, a4] (.int (1) :: st) ah Q := wp_s i112_17 rfl rfl rfl rfl
theorem i112_18 : insAt 112 18 = some (.putfield 7070, 21) := by decide +kernel
theorem r112_18 {E : aEnv} {c : Nat} {ah : aHp} {st : List Value} {Q : Option Value → aHp → Prop} {a0 a1 a2 a3 a4 : Option Value} {a : Nat} {v : Value} : WP E c 112 18 [a0, a1, a2, a3, a4] (v :: .ref a :: st) ah Q = WPo (oPF (hg E ah a) 7070 v) (fun e => WP E c 112 21 [a0, a1, a2, a3, a4] st (hs E ah a e) Q) := wp_putf i112_18
theorem i112_21 : insAt 112 21 = some (.return_, 22) := by decide +kernel
theorem r112_21 {E : aEnv} {c : Nat} {ah : aHp} {Q : Option Value → aHp → Prop} {a0 a1 a2 a3 a4 : Option Value} : WP E c 112 21 [a0, a1, a2, a3, a4] ([]) ah Q = Q none ah := wp_rt i112_21 rfl
theorem i112_22 : insAt 112 22 = some (.aload 0, 23) := by decide +kernel
theorem r112_22 {E : aEnv} {c : Nat} {ah : aHp} {st : List Value} {Q : Option Value → aHp → Prop} {a1 a2 a3 a4 : Option Value} {x : Nat} : WP E c 112 22 [some (.ref x), a1, a2, a3, a4] (st) ah Q = WP E c 112 23 [some (.ref x), a1, a2, a3, a4] (.ref x :: st) ah Q := wp_s i112_22 rfl rfl rfl rfl
theorem i112_23 : insAt 112 23 = some (.aload 1, 24) := by decide +kernel
theorem r112_23 {E : aEnv} {c : Nat} {ah : aHp} {st : List Value} {Q : Option Value → aHp → Prop} {a0 a2 a3 a4 : Option Value} {x : Nat} : WP E c 112 23 [a0, some (.ref x), a2, a3, a4] (st) ah Q = WP E c 112 24 [a0, some (.ref x), a2, a3, a4] (.ref x :: st) ah Q := wp_s i112_23 rfl rfl rfl rfl
theorem r112_23n {E : aEnv} {c : Nat} {ah : aHp} {st : List Value} {Q : Option Value → aHp → Prop} {a0 a2 a3 a4 : Option Value} : WP E c 112 23 [a0, some .null, a2, a3, a4] (st) ah Q = WP E c 112 24 [a0, some .null, a2, a3, a4] (.null :: st) ah Q := wp_s i112_23 rfl rfl rfl rfl
theorem i112_24 : insAt 112 24 = some (.aload 0, 25) := by decide +kernel
theorem r112_24 {E : aEnv} {c : Nat} {ah : aHp} {st : List Value} {Q : Option Value → aHp → Prop} {a1 a2 a3 a4 : Option Value} {x : Nat} : WP E c 112 24 [some (.ref x), a1, a2, a3, a4] (st) ah Q = WP E c 112 25 [some (.ref x), a1, a2, a3, a4] (.ref x :: st) ah Q := wp_s i112_24 rfl rfl rfl rfl
theorem i112_25 : insAt 112 25 = some (.getfield 7050, 28) := by decide +kernel
theorem r112_25 {E : aEnv} {c : Nat} {ah : aHp} {st : List Value} {Q : Option Value → aHp → Prop} {a0 a1 a2 a3 a4 : Option Value} {a : Nat} : WP E c 112 25 [a0, a1, a2, a3, a4] (.ref a :: st) ah Q = WPo (oGF (hg E ah a) 7 5) (fun v => WP E c 112 28 [a0, a1, a2, a3, a4] (v :: st) ah Q) := wp_getf i112_25
theorem i112_28 : insAt 112 28 = some (.iconst 2, 29) := by decide +kernel
theorem r112_28 {E : aEnv} {c : Nat} {ah : aHp} {st : List Value} {Q : Option Value → aHp → Prop} {a0 a1 a2 a3 a4 : Option Value} : WP E c 112 28 [a0, a1, a2, a3, a4] (st) ah Q = WP E c 112 29 [a0, a1, a2, a3, a4] (.int (2) :: st) ah Q := wp_s i112_28 rfl rfl rfl rfl
theorem i112_29 : insAt 112 29 = some (.invokevirtual 22, 32) := by decide +kernel
theorem r112_29 {E : aEnv} {c : Nat} {ah ah1 : aHp} {r : Option Value} {st : List Value} {Q : Option Value → aHp → Prop} {a0 a1 a2 a3 a4 : Option Value} {p0 : Nat} {p1 : Int32} {p2 : Int32} (h : EV E c 22 [.ref p0, .int p1, .int p2] ah r ah1) (h2 : oCI (hg E ah p0) = 1) (h3 : wds st ≤ 8) : WP E (c + 1) 112 29 [a0, a1, a2, a3, a4] (.int p2 :: .int p1 :: .ref p0 :: st) ah Q = WP E (c + 1) 112 32 [a0, a1, a2, a3, a4] (r.toList ++ st) ah1 Q := wp_call (As := [.ref p0, .int p1, .int p2]) i112_29 (fun _ => rfl) rfl mr22.1 (rcv_1 h2 mr22.2.2 (by decide)) h3 (by rw [mr22.2.1]; exact Nat.le_of_ble_eq_true rfl) h
theorem i112_32 : insAt 112 32 = some (.lload 2, 33) := by decide +kernel
theorem r112_32 {E : aEnv} {c : Nat} {ah : aHp} {st : List Value} {Q : Option Value → aHp → Prop} {a0 a1 a3 a4 : Option Value} {x : Int64} : WP E c 112 32 [a0, a1, some (.long x), a3, a4] (st) ah Q = WP E c 112 33 [a0, a1, some (.long x), a3, a4] (.long x :: st) ah Q := wp_s i112_32 rfl rfl rfl rfl
theorem i112_33 : insAt 112 33 = some (.invokevirtual 107, 36) := by decide +kernel
theorem r112_33 {E : aEnv} {c : Nat} {ah ah1 : aHp} {r : Option Value} {st : List Value} {Q : Option Value → aHp → Prop} {a0 a1 a2 a3 a4 : Option Value} {p0 : Nat} {p1 : Int32} {p2 : Int64} (h : EV E c 107 [.ref p0, .int p1, .long p2] ah r ah1) (h2 : oCI (hg E ah p0) = 7) (h3 : wds st ≤ 8) : WP E (c + 1) 112 33 [a0, a1, a2, a3, a4] (.long p2 :: .int p1 :: .ref p0 :: st) ah Q = WP E (c + 1) 112 36 [a0, a1, a2, a3, a4] (r.toList ++ st) ah1 Q := wp_call (As := [.ref p0, .int p1, .long p2]) i112_33 (fun _ => rfl) rfl mr107.1 (rcv_1 h2 mr107.2.2 (by decide)) h3 (by rw [mr107.2.1]; exact Nat.le_of_ble_eq_true rfl) h
theorem i112_36 : insAt 112 36 = some (.aload 0, 37) := by decide +kernel
theorem r112_36 {E : aEnv} {c : Nat} {ah : aHp} {st : List Value} {Q : Option Value → aHp → Prop} {a1 a2 a3 a4 : Option Value} {x : Nat} : WP E c 112 36 [some (.ref x), a1, a2, a3, a4] (st) ah Q = WP E c 112 37 [some (.ref x), a1, a2, a3, a4] (.ref x :: st) ah Q := wp_s i112_36 rfl rfl rfl rfl
theorem i112_37 : insAt 112 37 = some (.lload 2, 38) := by decide +kernel
theorem r112_37 {E : aEnv} {c : Nat} {ah : aHp} {st : List Value} {Q : Option Value → aHp → Prop} {a0 a1 a3 a4 : Option Value} {x : Int64} : WP E c 112 37 [a0, a1, some (.long x), a3, a4] (st) ah Q = WP E c 112 38 [a0, a1, some (.long x), a3, a4] (.long x :: st) ah Q := wp_s i112_37 rfl rfl rfl rfl
theorem i112_38 : insAt 112 38 = some (.jsr_w 0, 39) := by decide +kernel
theorem r112_38 {E : aEnv} {c : Nat} {ah : aHp} {st : List Value} {Q : Option Value → aHp → Prop} {a0 a1 a2 a3 a4 : Option Value} : WP E c 112 38 [a0, a1, a2, a3, a4] (st) ah Q = WP E c 112 39 [a0, a1, a2, a3, a4] (.long (0) :: st) ah Q := wp_s i112_38 rfl rfl rfl rfl
theorem i112_39 : insAt 112 39 = some (.lcmp, 40) := by decide +kernel
theorem r112_39 {E : aEnv} {c : Nat} {ah : aHp} {st : List Value} {Q : Option Value → aHp → Prop} {a0 a1 a2 a3 a4 : Option Value} {x y : Int64} : WP E c 112 39 [a0, a1, a2, a3, a4] (.long y :: .long x :: st) ah Q = WP E c 112 40 [a0, a1, a2, a3, a4] (.int (lg_cmp x y) :: st) ah Q := wp_s i112_39 rfl rfl rfl rfl
theorem i112_40 : insAt 112 40 = some (.ifCond .ge 47, 43) := by decide +kernel
theorem r112_40 {E : aEnv} {c : Nat} {ah : aHp} {st : List Value} {Q : Option Value → aHp → Prop} {a0 a1 a2 a3 a4 : Option Value} {x : Int32} : WP E c 112 40 [a0, a1, a2, a3, a4] (.int x :: st) ah Q = if 0 ≤ x then WP E c 112 47 [a0, a1, a2, a3, a4] st ah Q else WP E c 112 43 [a0, a1, a2, a3, a4] st ah Q := wp_j i112_40 rfl rfl rfl rfl
theorem i112_43 : insAt 112 43 = some (.iconst 1, 44) := by decide +kernel
theorem r112_43 {E : aEnv} {c : Nat} {ah : aHp} {st : List Value} {Q : Option Value → aHp → Prop} {a0 a1 a2 a3 a4 : Option Value} : WP E c 112 43 [a0, a1, a2, a3, a4] (st) ah Q = WP E c 112 44 [a0, a1, a2, a3, a4] (.int (1) :: st) ah Q := wp_s i112_43 rfl rfl rfl rfl
theorem i112_44 : insAt 112 44 = some (.goto 48, 47) := by decide +kernel
theorem r112_44 {E : aEnv} {c : Nat} {ah : aHp} {st : List Value} {Q : Option Value → aHp → Prop} {a0 a1 a2 a3 a4 : Option Value} : WP E c 112 44 [a0, a1, a2, a3, a4] (st) ah Q = WP E c 112 48 [a0, a1, a2, a3, a4] st ah Q := wp_s i112_44 rfl rfl rfl rfl
theorem i112_47 : insAt 112 47 = some (.iconst 0, 48) := by decide +kernel
theorem r112_47 {E : aEnv} {c : Nat} {ah : aHp} {st : List Value} {Q : Option Value → aHp → Prop} {a0 a1 a2 a3 a4 : Option Value} : WP E c 112 47 [a0, a1, a2, a3, a4] (st) ah Q = WP E c 112 48 [a0, a1, a2, a3, a4] (.int (0) :: st) ah Q := wp_s i112_47 rfl rfl rfl rfl
theorem i112_48 : insAt 112 48 = some (.putfield 7043, 51) := by decide +kernel
theorem r112_48 {E : aEnv} {c : Nat} {ah : aHp} {st : List Value} {Q : Option Value → aHp → Prop} {a0 a1 a2 a3 a4 : Option Value} {a : Nat} {v : Value} : WP E c 112 48 [a0, a1, a2, a3, a4] (v :: .ref a :: st) ah Q = WPo (oPF (hg E ah a) 7043 v) (fun e => WP E c 112 51 [a0, a1, a2, a3, a4] st (hs E ah a e) Q) := wp_putf i112_48
theorem i112_51 : insAt 112 51 = some (.aload 0, 52) := by decide +kernel
theorem r112_51 {E : aEnv} {c : Nat} {ah : aHp} {st : List Value} {Q : Option Value → aHp → Prop} {a1 a2 a3 a4 : Option Value} {x : Nat} : WP E c 112 51 [some (.ref x), a1, a2, a3, a4] (st) ah Q = WP E c 112 52 [some (.ref x), a1, a2, a3, a4] (.ref x :: st) ah Q := wp_s i112_51 rfl rfl rfl rfl
theorem i112_52 : insAt 112 52 = some (.iload 4, 54) := by decide +kernel
theorem r112_52 {E : aEnv} {c : Nat} {ah : aHp} {st : List Value} {Q : Option Value → aHp → Prop} {a0 a1 a2 a3 : Option Value} {x : Int32} : WP E c 112 52 [a0, a1, a2, a3, some (.int x)] (st) ah Q = WP E c 112 54 [a0, a1, a2, a3, some (.int x)] (.int x :: st) ah Q := wp_s i112_52 rfl rfl rfl rfl
theorem i112_54 : insAt 112 54 = some (.invokevirtual 106, 57) := by decide +kernel
theorem r112_54 {E : aEnv} {c : Nat} {ah ah1 : aHp} {r : Option Value} {st : List Value} {Q : Option Value → aHp → Prop} {a0 a1 a2 a3 a4 : Option Value} {p0 : Nat} {p1 : Int32} (h : EV E c 106 [.ref p0, .int p1] ah r ah1) (h2 : oCI (hg E ah p0) = 7) (h3 : wds st ≤ 8) : WP E (c + 1) 112 54 [a0, a1, a2, a3, a4] (.int p1 :: .ref p0 :: st) ah Q = WP E (c + 1) 112 57 [a0, a1, a2, a3, a4] (r.toList ++ st) ah1 Q := wp_call (As := [.ref p0, .int p1]) i112_54 (fun _ => rfl) rfl mr106.1 (rcv_1 h2 mr106.2.2 (by decide)) h3 (by rw [mr106.2.1]; exact Nat.le_of_ble_eq_true rfl) h
theorem i112_57 : insAt 112 57 = some (.return_, 58) := by decide +kernel
theorem r112_57 {E : aEnv} {c : Nat} {ah : aHp} {Q : Option Value → aHp → Prop} {a0 a1 a2 a3 a4 : Option Value} : WP E c 112 57 [a0, a1, a2, a3, a4] ([]) ah Q = Q none ah := wp_rt i112_57 rfl
theorem e113 {E : aEnv} {c : Nat} {ah ahF : aHp} {r : Option Value} {p0 : Int64} (h : WP E c 113 0 [some (.long p0), none, none, none, none, none, none, none, none, none] [] ah (fun r1 x1 => r1 = r ∧ x1 = ahF)) : EV E c 113 [.long p0] ah r ahF := EV.of (by rw [mr113.2.1]; exact h)
theorem i113_0 : insAt 113 0 = some (.iconst 0, 1) := by decide +kernel
theorem r113_0 {E : aEnv} {c : Nat} {ah : aHp} {st : List Value} {Q : Option Value → aHp → Prop} {a0 a1 a2 a3 a4 a5 a6 a7 a8 a9 : Option Value} : WP E c 113 0 [a0, a1, a2, a3, a4, a5, a6, a7, a8, a9] (st) ah Q = WP E c 113 1 [a0, a1, a2, a3, a4, a5, a6, a7, a8, a9] (.int (0) :: st) ah Q := wp_s i113_0 rfl rfl rfl rfl
theorem i113_1 : insAt 113 1 = some (.istore 2, 2) := by decide +kernel
theorem r113_1 {E : aEnv} {c : Nat} {ah : aHp} {st : List Value} {Q : Option Value → aHp → Prop} {a0 a1 a2 a3 a4 a5 a6 a7 a8 a9 : Option Value} {x : Int32} : WP E c 113 1 [a0, a1, a2, a3, a4, a5, a6, a7, a8, a9] (.int x :: st) ah Q = WP E c 113 2 [a0, kil a1, some (.int x), a3, a4, a5, a6, a7, a8, a9] (st) ah Q := wp_s i113_1 rfl rfl rfl rfl
theorem i113_2 : insAt 113 2 = some (.iconst 1000, 5) := by decide +kernel
theorem r113_2 {E : aEnv} {c : Nat} {ah : aHp} {st : List Value} {Q : Option Value → aHp → Prop} {a0 a1 a2 a3 a4 a5 a6 a7 a8 a9 : Option Value} : WP E c 113 2 [a0, a1, a2, a3, a4, a5, a6, a7, a8, a9] (st) ah Q = WP E c 113 5 [a0, a1, a2, a3, a4, a5, a6, a7, a8, a9] (.int (1000) :: st) ah Q := wp_s i113_2 rfl rfl rfl rfl
theorem i113_5 : insAt 113 5 = some (.istore 3, 6) := by decide +kernel
theorem r113_5 {E : aEnv} {c : Nat} {ah : aHp} {st : List Value} {Q : Option Value → aHp → Prop} {a0 a1 a2 a3 a4 a5 a6 a7 a8 a9 : Option Value} {x : Int32} : WP E c 113 5 [a0, a1, a2, a3, a4, a5, a6, a7, a8, a9] (.int x :: st) ah Q = WP E c 113 6 [a0, a1, kil a2, some (.int x), a4, a5, a6, a7, a8, a9] (st) ah Q := wp_s i113_5 rfl rfl rfl rfl
theorem i113_6 : insAt 113 6 = some (.lload 0, 7) := by decide +kernel
theorem r113_6 {E : aEnv} {c : Nat} {ah : aHp} {st : List Value} {Q : Option Value → aHp → Prop} {a1 a2 a3 a4 a5 a6 a7 a8 a9 : Option Value} {x : Int64} : WP E c 113 6 [some (.long x), a1, a2, a3, a4, a5, a6, a7, a8, a9] (st) ah Q = WP E c 113 7 [some (.long x), a1, a2, a3, a4, a5, a6, a7, a8, a9] (.long x :: st) ah Q := wp_s i113_6 rfl rfl rfl rfl
theorem i113_7 : insAt 113 7 = some (.lstore 4, 9) := by decide +kernel
theorem r113_7 {E : aEnv} {c : Nat} {ah : aHp} {st : List Value} {Q : Option Value → aHp → Prop} {a0 a1 a2 a3 a4 a5 a6 a7 a8 a9 : Option Value} {x : Int64} : WP E c 113 7 [a0, a1, a2, a3, a4, a5, a6, a7, a8, a9] (.long x :: st) ah Q = WP E c 113 9 [a0, a1, a2, kil a3, some (.long x), none, a6, a7, a8, a9] (st) ah Q := wp_s i113_7 rfl rfl rfl rfl
theorem i113_9 : insAt 113 9 = some (.iconst 0, 10) := by decide +kernel
theorem r113_9 {E : aEnv} {c : Nat} {ah : aHp} {st : List Value} {Q : Option Value → aHp → Prop} {a0 a1 a2 a3 a4 a5 a6 a7 a8 a9 : Option Value} : WP E c 113 9 [a0, a1, a2, a3, a4, a5, a6, a7, a8, a9] (st) ah Q = WP E c 113 10 [a0, a1, a2, a3, a4, a5, a6, a7, a8, a9] (.int (0) :: st) ah Q := wp_s i113_9 rfl rfl rfl rfl
theorem i113_10 : insAt 113 10 = some (.istore 6, 12) := by decide +kernel
theorem r113_10 {E : aEnv} {c : Nat} {ah : aHp} {st : List Value} {Q : Option Value → aHp → Prop} {a0 a1 a2 a3 a4 a5 a6 a7 a8 a9 : Option Value} {x : Int32} : WP E c 113 10 [a0, a1, a2, a3, a4, a5, a6, a7, a8, a9] (.int x :: st) ah Q = WP E c 113 12 [a0, a1, a2, a3, a4, kil a5, some (.int x), a7, a8, a9] (st) ah Q := wp_s i113_10 rfl rfl rfl rfl
theorem i113_12 : insAt 113 12 = some (.iload 6, 14) := by decide +kernel
theorem r113_12 {E : aEnv} {c : Nat} {ah : aHp} {st : List Value} {Q : Option Value → aHp → Prop} {a0 a1 a2 a3 a4 a5 a7 a8 a9 : Option Value} {x : Int32} : WP E c 113 12 [a0, a1, a2, a3, a4, a5, some (.int x), a7, a8, a9] (st) ah Q = WP E c 113 14 [a0, a1, a2, a3, a4, a5, some (.int x), a7, a8, a9] (.int x :: st) ah Q := wp_s i113_12 rfl rfl rfl rfl
theorem i113_14 : insAt 113 14 = some (.iconst 13, 16) := by decide +kernel
theorem r113_14 {E : aEnv} {c : Nat} {ah : aHp} {st : List Value} {Q : Option Value → aHp → Prop} {a0 a1 a2 a3 a4 a5 a6 a7 a8 a9 : Option Value} : WP E c 113 14 [a0, a1, a2, a3, a4, a5, a6, a7, a8, a9] (st) ah Q = WP E c 113 16 [a0, a1, a2, a3, a4, a5, a6, a7, a8, a9] (.int (13) :: st) ah Q := wp_s i113_14 rfl rfl rfl rfl
theorem i113_16 : insAt 113 16 = some (.if_icmp .ge 113, 19) := by decide +kernel
theorem r113_16 {E : aEnv} {c : Nat} {ah : aHp} {st : List Value} {Q : Option Value → aHp → Prop} {a0 a1 a2 a3 a4 a5 a6 a7 a8 a9 : Option Value} {x y : Int32} : WP E c 113 16 [a0, a1, a2, a3, a4, a5, a6, a7, a8, a9] (.int y :: .int x :: st) ah Q = if y ≤ x then WP E c 113 113 [a0, a1, a2, a3, a4, a5, a6, a7, a8, a9] st ah Q else WP E c 113 19 [a0, a1, a2, a3, a4, a5, a6, a7, a8, a9] st ah Q := wp_j i113_16 rfl rfl rfl rfl
theorem i113_19 : insAt 113 19 = some (.lload 4, 21) := by decide +kernel
theorem r113_19 {E : aEnv} {c : Nat} {ah : aHp} {st : List Value} {Q : Option Value → aHp → Prop} {a0 a1 a2 a3 a5 a6 a7 a8 a9 : Option Value} {x : Int64} : WP E c 113 19 [a0, a1, a2, a3, some (.long x), a5, a6, a7, a8, a9] (st) ah Q = WP E c 113 21 [a0, a1, a2, a3, some (.long x), a5, a6, a7, a8, a9] (.long x :: st) ah Q := wp_s i113_19 rfl rfl rfl rfl
theorem i113_21 : insAt 113 21 = some (.jsr_w 0, 22) := by decide +kernel
theorem r113_21 {E : aEnv} {c : Nat} {ah : aHp} {st : List Value} {Q : Option Value → aHp → Prop} {a0 a1 a2 a3 a4 a5 a6 a7 a8 a9 : Option Value} : WP E c 113 21 [a0, a1, a2, a3, a4, a5, a6, a7, a8, a9] (st) ah Q = WP E c 113 22 [a0, a1, a2, a3, a4, a5, a6, a7, a8, a9] (.long (0) :: st) ah Q := wp_s i113_21 rfl rfl rfl rfl
theorem i113_22 : insAt 113 22 = some (.lcmp, 23) := by decide +kernel
theorem r113_22 {E : aEnv} {c : Nat} {ah : aHp} {st : List Value} {Q : Option Value → aHp → Prop} {a0 a1 a2 a3 a4 a5 a6 a7 a8 a9 : Option Value} {x y : Int64} : WP E c 113 22 [a0, a1, a2, a3, a4, a5, a6, a7, a8, a9] (.long y :: .long x :: st) ah Q = WP E c 113 23 [a0, a1, a2, a3, a4, a5, a6, a7, a8, a9] (.int (lg_cmp x y) :: st) ah Q := wp_s i113_22 rfl rfl rfl rfl
theorem i113_23 : insAt 113 23 = some (.ifCond .le 113, 26) := by decide +kernel
theorem r113_23 {E : aEnv} {c : Nat} {ah : aHp} {st : List Value} {Q : Option Value → aHp → Prop} {a0 a1 a2 a3 a4 a5 a6 a7 a8 a9 : Option Value} {x : Int32} : WP E c 113 23 [a0, a1, a2, a3, a4, a5, a6, a7, a8, a9] (.int x :: st) ah Q = if x ≤ 0 then WP E c 113 113 [a0, a1, a2, a3, a4, a5, a6, a7, a8, a9] st ah Q else WP E c 113 26 [a0, a1, a2, a3, a4, a5, a6, a7, a8, a9] st ah Q := wp_j i113_23 rfl rfl rfl rfl
theorem i113_26 : insAt 113 26 = some (.lload 4, 28) := by decide +kernel
theorem r113_26 {E : aEnv} {c : Nat} {ah : aHp} {st : List Value} {Q : Option Value → aHp → Prop} {a0 a1 a2 a3 a5 a6 a7 a8 a9 : Option Value} {x : Int64} : WP E c 113 26 [a0, a1, a2, a3, some (.long x), a5, a6, a7, a8, a9] (st) ah Q = WP E c 113 28 [a0, a1, a2, a3, some (.long x), a5, a6, a7, a8, a9] (.long x :: st) ah Q := wp_s i113_26 rfl rfl rfl rfl
theorem i113_28 : insAt 113 28 = some (.jsr_w 10, 31) := by decide +kernel
theorem r113_28 {E : aEnv} {c : Nat} {ah : aHp} {st : List Value} {Q : Option Value → aHp → Prop} {a0 a1 a2 a3 a4 a5 a6 a7 a8 a9 : Option Value} : WP E c 113 28 [a0, a1, a2, a3, a4, a5, a6, a7, a8, a9] (st) ah Q = WP E c 113 31 [a0, a1, a2, a3, a4, a5, a6, a7, a8, a9] (.long (10) :: st) ah Q := wp_s i113_28 rfl rfl rfl rfl
theorem i113_31 : insAt 113 31 = some (.lrem, 32) := by decide +kernel
theorem r113_31 {E : aEnv} {c : Nat} {ah : aHp} {st : List Value} {Q : Option Value → aHp → Prop} {a0 a1 a2 a3 a4 a5 a6 a7 a8 a9 : Option Value} {x y : Int64} (hy : ¬ y = 0) : WP E c 113 31 [a0, a1, a2, a3, a4, a5, a6, a7, a8, a9] (.long y :: .long x :: st) ah Q = WP E c 113 32 [a0, a1, a2, a3, a4, a5, a6, a7, a8, a9] (.long (x - x / y * y) :: st) ah Q := wp_st (z := (32, [a0, a1, a2, a3, a4, a5, a6, a7, a8, a9], .long (x - x / y * y) :: st, ah)) i113_31 rfl rfl rfl (by simp [st1, skA, tD, hy])
theorem i113_32 : insAt 113 32 = some (.l2i, 33) := by decide +kernel
theorem r113_32 {E : aEnv} {c : Nat} {ah : aHp} {st : List Value} {Q : Option Value → aHp → Prop} {a0 a1 a2 a3 a4 a5 a6 a7 a8 a9 : Option Value} {x : Int64} : WP E c 113 32 [a0, a1, a2, a3, a4, a5, a6, a7, a8, a9] (.long x :: st) ah Q = WP E c 113 33 [a0, a1, a2, a3, a4, a5, a6, a7, a8, a9] (.int x.toInt32 :: st) ah Q := wp_s i113_32 rfl rfl rfl rfl
theorem i113_33 : insAt 113 33 = some (.istore 7, 35) := by decide +kernel
theorem r113_33 {E : aEnv} {c : Nat} {ah : aHp} {st : List Value} {Q : Option Value → aHp → Prop} {a0 a1 a2 a3 a4 a5 a6 a7 a8 a9 : Option Value} {x : Int32} : WP E c 113 33 [a0, a1, a2, a3, a4, a5, a6, a7, a8, a9] (.int x :: st) ah Q = WP E c 113 35 [a0, a1, a2, a3, a4, a5, kil a6, some (.int x), a8, a9] (st) ah Q := wp_s i113_33 rfl rfl rfl rfl
theorem i113_35 : insAt 113 35 = some (.iload 2, 36) := by decide +kernel
theorem r113_35 {E : aEnv} {c : Nat} {ah : aHp} {st : List Value} {Q : Option Value → aHp → Prop} {a0 a1 a3 a4 a5 a6 a7 a8 a9 : Option Value} {x : Int32} : WP E c 113 35 [a0, a1, some (.int x), a3, a4, a5, a6, a7, a8, a9] (st) ah Q = WP E c 113 36 [a0, a1, some (.int x), a3, a4, a5, a6, a7, a8, a9] (.int x :: st) ah Q := wp_s i113_35 rfl rfl rfl rfl
theorem i113_36 : insAt 113 36 = some (.iload 7, 38) := by decide +kernel
theorem r113_36 {E : aEnv} {c : Nat} {ah : aHp} {st : List Value} {Q : Option Value → aHp → Prop} {a0 a1 a2 a3 a4 a5 a6 a8 a9 : Option Value} {x : Int32} : WP E c 113 36 [a0, a1, a2, a3, a4, a5, a6, some (.int x), a8, a9] (st) ah Q = WP E c 113 38 [a0, a1, a2, a3, a4, a5, a6, some (.int x), a8, a9] (.int x :: st) ah Q := wp_s i113_36 rfl rfl rfl rfl
theorem i113_38 : insAt 113 38 = some (.iadd, 39) := by decide +kernel
theorem r113_38 {E : aEnv} {c : Nat} {ah : aHp} {st : List Value} {Q : Option Value → aHp → Prop} {a0 a1 a2 a3 a4 a5 a6 a7 a8 a9 : Option Value} {x y : Int32} : WP E c 113 38 [a0, a1, a2, a3, a4, a5, a6, a7, a8, a9] (.int y :: .int x :: st) ah Q = WP E c 113 39 [a0, a1, a2, a3, a4, a5, a6, a7, a8, a9] (.int (x + y) :: st) ah Q := wp_s i113_38 rfl rfl rfl rfl
theorem i113_39 : insAt 113 39 = some (.iload 7, 41) := by decide +kernel
theorem r113_39 {E : aEnv} {c : Nat} {ah : aHp} {st : List Value} {Q : Option Value → aHp → Prop} {a0 a1 a2 a3 a4 a5 a6 a8 a9 : Option Value} {x : Int32} : WP E c 113 39 [a0, a1, a2, a3, a4, a5, a6, some (.int x), a8, a9] (st) ah Q = WP E c 113 41 [a0, a1, a2, a3, a4, a5, a6, some (.int x), a8, a9] (.int x :: st) ah Q := wp_s i113_39 rfl rfl rfl rfl
theorem i113_41 : insAt 113 41 = some (.iconst 9, 43) := by decide +kernel
theorem r113_41 {E : aEnv} {c : Nat} {ah : aHp} {st : List Value} {Q : Option Value → aHp → Prop} {a0 a1 a2 a3 a4 a5 a6 a7 a8 a9 : Option Value} : WP E c 113 41 [a0, a1, a2, a3, a4, a5, a6, a7, a8, a9] (st) ah Q = WP E c 113 43 [a0, a1, a2, a3, a4, a5, a6, a7, a8, a9] (.int (9) :: st) ah Q := wp_s i113_41 rfl rfl rfl rfl
theorem i113_43 : insAt 113 43 = some (.if_icmp .ge 55, 46) := by decide +kernel
theorem r113_43 {E : aEnv} {c : Nat} {ah : aHp} {st : List Value} {Q : Option Value → aHp → Prop} {a0 a1 a2 a3 a4 a5 a6 a7 a8 a9 : Option Value} {x y : Int32} : WP E c 113 43 [a0, a1, a2, a3, a4, a5, a6, a7, a8, a9] (.int y :: .int x :: st) ah Q = if y ≤ x then WP E c 113 55 [a0, a1, a2, a3, a4, a5, a6, a7, a8, a9] st ah Q else WP E c 113 46 [a0, a1, a2, a3, a4, a5, a6, a7, a8, a9] st ah Q := wp_j i113_43 rfl rfl rfl rfl
theorem i113_46 : insAt 113 46 = some (.iload 3, 47) := by decide +kernel
theorem r113_46 {E : aEnv} {c : Nat} {ah : aHp} {st : List Value} {Q : Option Value → aHp → Prop} {a0 a1 a2 a4 a5 a6 a7 a8 a9 : Option Value} {x : Int32} : WP E c 113 46 [a0, a1, a2, some (.int x), a4, a5, a6, a7, a8, a9] (st) ah Q = WP E c 113 47 [a0, a1, a2, some (.int x), a4, a5, a6, a7, a8, a9] (.int x :: st) ah Q := wp_s i113_46 rfl rfl rfl rfl
theorem i113_47 : insAt 113 47 = some (.iload 7, 49) := by decide +kernel
theorem r113_47 {E : aEnv} {c : Nat} {ah : aHp} {st : List Value} {Q : Option Value → aHp → Prop} {a0 a1 a2 a3 a4 a5 a6 a8 a9 : Option Value} {x : Int32} : WP E c 113 47 [a0, a1, a2, a3, a4, a5, a6, some (.int x), a8, a9] (st) ah Q = WP E c 113 49 [a0, a1, a2, a3, a4, a5, a6, some (.int x), a8, a9] (.int x :: st) ah Q := wp_s i113_47 rfl rfl rfl rfl
theorem i113_49 : insAt 113 49 = some (.iadd, 50) := by decide +kernel
theorem r113_49 {E : aEnv} {c : Nat} {ah : aHp} {st : List Value} {Q : Option Value → aHp → Prop} {a0 a1 a2 a3 a4 a5 a6 a7 a8 a9 : Option Value} {x y : Int32} : WP E c 113 49 [a0, a1, a2, a3, a4, a5, a6, a7, a8, a9] (.int y :: .int x :: st) ah Q = WP E c 113 50 [a0, a1, a2, a3, a4, a5, a6, a7, a8, a9] (.int (x + y) :: st) ah Q := wp_s i113_49 rfl rfl rfl rfl
theorem i113_50 : insAt 113 50 = some (.iconst 1, 51) := by decide +kernel
theorem r113_50 {E : aEnv} {c : Nat} {ah : aHp} {st : List Value} {Q : Option Value → aHp → Prop} {a0 a1 a2 a3 a4 a5 a6 a7 a8 a9 : Option Value} : WP E c 113 50 [a0, a1, a2, a3, a4, a5, a6, a7, a8, a9] (st) ah Q = WP E c 113 51 [a0, a1, a2, a3, a4, a5, a6, a7, a8, a9] (.int (1) :: st) ah Q := wp_s i113_50 rfl rfl rfl rfl
theorem i113_51 : insAt 113 51 = some (.iadd, 52) := by decide +kernel
theorem r113_51 {E : aEnv} {c : Nat} {ah : aHp} {st : List Value} {Q : Option Value → aHp → Prop} {a0 a1 a2 a3 a4 a5 a6 a7 a8 a9 : Option Value} {x y : Int32} : WP E c 113 51 [a0, a1, a2, a3, a4, a5, a6, a7, a8, a9] (.int y :: .int x :: st) ah Q = WP E c 113 52 [a0, a1, a2, a3, a4, a5, a6, a7, a8, a9] (.int (x + y) :: st) ah Q := wp_s i113_51 rfl rfl rfl rfl
theorem i113_52 : insAt 113 52 = some (.goto 58, 55) := by decide +kernel
theorem r113_52 {E : aEnv} {c : Nat} {ah : aHp} {st : List Value} {Q : Option Value → aHp → Prop} {a0 a1 a2 a3 a4 a5 a6 a7 a8 a9 : Option Value} : WP E c 113 52 [a0, a1, a2, a3, a4, a5, a6, a7, a8, a9] (st) ah Q = WP E c 113 58 [a0, a1, a2, a3, a4, a5, a6, a7, a8, a9] st ah Q := wp_s i113_52 rfl rfl rfl rfl
theorem i113_55 : insAt 113 55 = some (.iconst 1000, 58) := by decide +kernel
theorem r113_55 {E : aEnv} {c : Nat} {ah : aHp} {st : List Value} {Q : Option Value → aHp → Prop} {a0 a1 a2 a3 a4 a5 a6 a7 a8 a9 : Option Value} : WP E c 113 55 [a0, a1, a2, a3, a4, a5, a6, a7, a8, a9] (st) ah Q = WP E c 113 58 [a0, a1, a2, a3, a4, a5, a6, a7, a8, a9] (.int (1000) :: st) ah Q := wp_s i113_55 rfl rfl rfl rfl
theorem i113_58 : insAt 113 58 = some (.invokestatic 294, 61) := by decide +kernel
theorem r113_58 {E : aEnv} {c : Nat} {ah ah1 : aHp} {r : Option Value} {st : List Value} {Q : Option Value → aHp → Prop} {a0 a1 a2 a3 a4 a5 a6 a7 a8 a9 : Option Value} {p0 : Int32} {p1 : Int32} (h : EV E c 294 [.int p0, .int p1] ah r ah1) (h3 : wds st ≤ 8) : WP E (c + 1) 113 58 [a0, a1, a2, a3, a4, a5, a6, a7, a8, a9] (.int p1 :: .int p0 :: st) ah Q = WP E (c + 1) 113 61 [a0, a1, a2, a3, a4, a5, a6, a7, a8, a9] (r.toList ++ st) ah1 Q := wp_call (As := [.int p0, .int p1]) i113_58 (fun _ => rfl) rfl mr294.1 rfl h3 (by rw [mr294.2.1]; exact Nat.le_of_ble_eq_true rfl) h
theorem i113_61 : insAt 113 61 = some (.istore 8, 63) := by decide +kernel
theorem r113_61 {E : aEnv} {c : Nat} {ah : aHp} {st : List Value} {Q : Option Value → aHp → Prop} {a0 a1 a2 a3 a4 a5 a6 a7 a8 a9 : Option Value} {x : Int32} : WP E c 113 61 [a0, a1, a2, a3, a4, a5, a6, a7, a8, a9] (.int x :: st) ah Q = WP E c 113 63 [a0, a1, a2, a3, a4, a5, a6, kil a7, some (.int x), a9] (st) ah Q := wp_s i113_61 rfl rfl rfl rfl
theorem i113_63 : insAt 113 63 = some (.iload 7, 65) := by decide +kernel
theorem r113_63 {E : aEnv} {c : Nat} {ah : aHp} {st : List Value} {Q : Option Value → aHp → Prop} {a0 a1 a2 a3 a4 a5 a6 a8 a9 : Option Value} {x : Int32} : WP E c 113 63 [a0, a1, a2, a3, a4, a5, a6, some (.int x), a8, a9] (st) ah Q = WP E c 113 65 [a0, a1, a2, a3, a4, a5, a6, some (.int x), a8, a9] (.int x :: st) ah Q := wp_s i113_63 rfl rfl rfl rfl
theorem i113_65 : insAt 113 65 = some (.ifCond .le 78, 68) := by decide +kernel
theorem r113_65 {E : aEnv} {c : Nat} {ah : aHp} {st : List Value} {Q : Option Value → aHp → Prop} {a0 a1 a2 a3 a4 a5 a6 a7 a8 a9 : Option Value} {x : Int32} : WP E c 113 65 [a0, a1, a2, a3, a4, a5, a6, a7, a8, a9] (.int x :: st) ah Q = if x ≤ 0 then WP E c 113 78 [a0, a1, a2, a3, a4, a5, a6, a7, a8, a9] st ah Q else WP E c 113 68 [a0, a1, a2, a3, a4, a5, a6, a7, a8, a9] st ah Q := wp_j i113_65 rfl rfl rfl rfl
theorem i113_68 : insAt 113 68 = some (.iload 2, 69) := by decide +kernel
theorem r113_68 {E : aEnv} {c : Nat} {ah : aHp} {st : List Value} {Q : Option Value → aHp → Prop} {a0 a1 a3 a4 a5 a6 a7 a8 a9 : Option Value} {x : Int32} : WP E c 113 68 [a0, a1, some (.int x), a3, a4, a5, a6, a7, a8, a9] (st) ah Q = WP E c 113 69 [a0, a1, some (.int x), a3, a4, a5, a6, a7, a8, a9] (.int x :: st) ah Q := wp_s i113_68 rfl rfl rfl rfl
theorem i113_69 : insAt 113 69 = some (.iconst 10, 71) := by decide +kernel
theorem r113_69 {E : aEnv} {c : Nat} {ah : aHp} {st : List Value} {Q : Option Value → aHp → Prop} {a0 a1 a2 a3 a4 a5 a6 a7 a8 a9 : Option Value} : WP E c 113 69 [a0, a1, a2, a3, a4, a5, a6, a7, a8, a9] (st) ah Q = WP E c 113 71 [a0, a1, a2, a3, a4, a5, a6, a7, a8, a9] (.int (10) :: st) ah Q := wp_s i113_69 rfl rfl rfl rfl
theorem i113_71 : insAt 113 71 = some (.iadd, 72) := by decide +kernel
theorem r113_71 {E : aEnv} {c : Nat} {ah : aHp} {st : List Value} {Q : Option Value → aHp → Prop} {a0 a1 a2 a3 a4 a5 a6 a7 a8 a9 : Option Value} {x y : Int32} : WP E c 113 71 [a0, a1, a2, a3, a4, a5, a6, a7, a8, a9] (.int y :: .int x :: st) ah Q = WP E c 113 72 [a0, a1, a2, a3, a4, a5, a6, a7, a8, a9] (.int (x + y) :: st) ah Q := wp_s i113_71 rfl rfl rfl rfl
theorem i113_72 : insAt 113 72 = some (.iload 7, 74) := by decide +kernel
theorem r113_72 {E : aEnv} {c : Nat} {ah : aHp} {st : List Value} {Q : Option Value → aHp → Prop} {a0 a1 a2 a3 a4 a5 a6 a8 a9 : Option Value} {x : Int32} : WP E c 113 72 [a0, a1, a2, a3, a4, a5, a6, some (.int x), a8, a9] (st) ah Q = WP E c 113 74 [a0, a1, a2, a3, a4, a5, a6, some (.int x), a8, a9] (.int x :: st) ah Q := wp_s i113_72 rfl rfl rfl rfl
theorem i113_74 : insAt 113 74 = some (.isub, 75) := by decide +kernel
theorem r113_74 {E : aEnv} {c : Nat} {ah : aHp} {st : List Value} {Q : Option Value → aHp → Prop} {a0 a1 a2 a3 a4 a5 a6 a7 a8 a9 : Option Value} {x y : Int32} : WP E c 113 74 [a0, a1, a2, a3, a4, a5, a6, a7, a8, a9] (.int y :: .int x :: st) ah Q = WP E c 113 75 [a0, a1, a2, a3, a4, a5, a6, a7, a8, a9] (.int (x - y) :: st) ah Q := wp_s i113_74 rfl rfl rfl rfl
theorem i113_75 : insAt 113 75 = some (.goto 81, 78) := by decide +kernel
theorem r113_75 {E : aEnv} {c : Nat} {ah : aHp} {st : List Value} {Q : Option Value → aHp → Prop} {a0 a1 a2 a3 a4 a5 a6 a7 a8 a9 : Option Value} : WP E c 113 75 [a0, a1, a2, a3, a4, a5, a6, a7, a8, a9] (st) ah Q = WP E c 113 81 [a0, a1, a2, a3, a4, a5, a6, a7, a8, a9] st ah Q := wp_s i113_75 rfl rfl rfl rfl
theorem i113_78 : insAt 113 78 = some (.iconst 1000, 81) := by decide +kernel
theorem r113_78 {E : aEnv} {c : Nat} {ah : aHp} {st : List Value} {Q : Option Value → aHp → Prop} {a0 a1 a2 a3 a4 a5 a6 a7 a8 a9 : Option Value} : WP E c 113 78 [a0, a1, a2, a3, a4, a5, a6, a7, a8, a9] (st) ah Q = WP E c 113 81 [a0, a1, a2, a3, a4, a5, a6, a7, a8, a9] (.int (1000) :: st) ah Q := wp_s i113_78 rfl rfl rfl rfl
theorem i113_81 : insAt 113 81 = some (.iload 3, 82) := by decide +kernel
theorem r113_81 {E : aEnv} {c : Nat} {ah : aHp} {st : List Value} {Q : Option Value → aHp → Prop} {a0 a1 a2 a4 a5 a6 a7 a8 a9 : Option Value} {x : Int32} : WP E c 113 81 [a0, a1, a2, some (.int x), a4, a5, a6, a7, a8, a9] (st) ah Q = WP E c 113 82 [a0, a1, a2, some (.int x), a4, a5, a6, a7, a8, a9] (.int x :: st) ah Q := wp_s i113_81 rfl rfl rfl rfl
theorem i113_82 : insAt 113 82 = some (.iconst 9, 84) := by decide +kernel
theorem r113_82 {E : aEnv} {c : Nat} {ah : aHp} {st : List Value} {Q : Option Value → aHp → Prop} {a0 a1 a2 a3 a4 a5 a6 a7 a8 a9 : Option Value} : WP E c 113 82 [a0, a1, a2, a3, a4, a5, a6, a7, a8, a9] (st) ah Q = WP E c 113 84 [a0, a1, a2, a3, a4, a5, a6, a7, a8, a9] (.int (9) :: st) ah Q := wp_s i113_82 rfl rfl rfl rfl
theorem i113_84 : insAt 113 84 = some (.iadd, 85) := by decide +kernel
theorem r113_84 {E : aEnv} {c : Nat} {ah : aHp} {st : List Value} {Q : Option Value → aHp → Prop} {a0 a1 a2 a3 a4 a5 a6 a7 a8 a9 : Option Value} {x y : Int32} : WP E c 113 84 [a0, a1, a2, a3, a4, a5, a6, a7, a8, a9] (.int y :: .int x :: st) ah Q = WP E c 113 85 [a0, a1, a2, a3, a4, a5, a6, a7, a8, a9] (.int (x + y) :: st) ah Q := wp_s i113_84 rfl rfl rfl rfl
theorem i113_85 : insAt 113 85 = some (.iload 7, 87) := by decide +kernel
theorem r113_85 {E : aEnv} {c : Nat} {ah : aHp} {st : List Value} {Q : Option Value → aHp → Prop} {a0 a1 a2 a3 a4 a5 a6 a8 a9 : Option Value} {x : Int32} : WP E c 113 85 [a0, a1, a2, a3, a4, a5, a6, some (.int x), a8, a9] (st) ah Q = WP E c 113 87 [a0, a1, a2, a3, a4, a5, a6, some (.int x), a8, a9] (.int x :: st) ah Q := wp_s i113_85 rfl rfl rfl rfl
theorem i113_87 : insAt 113 87 = some (.isub, 88) := by decide +kernel
theorem r113_87 {E : aEnv} {c : Nat} {ah : aHp} {st : List Value} {Q : Option Value → aHp → Prop} {a0 a1 a2 a3 a4 a5 a6 a7 a8 a9 : Option Value} {x y : Int32} : WP E c 113 87 [a0, a1, a2, a3, a4, a5, a6, a7, a8, a9] (.int y :: .int x :: st) ah Q = WP E c 113 88 [a0, a1, a2, a3, a4, a5, a6, a7, a8, a9] (.int (x - y) :: st) ah Q := wp_s i113_87 rfl rfl rfl rfl
theorem i113_88 : insAt 113 88 = some (.invokestatic 294, 91) := by decide +kernel
theorem r113_88 {E : aEnv} {c : Nat} {ah ah1 : aHp} {r : Option Value} {st : List Value} {Q : Option Value → aHp → Prop} {a0 a1 a2 a3 a4 a5 a6 a7 a8 a9 : Option Value} {p0 : Int32} {p1 : Int32} (h : EV E c 294 [.int p0, .int p1] ah r ah1) (h3 : wds st ≤ 8) : WP E (c + 1) 113 88 [a0, a1, a2, a3, a4, a5, a6, a7, a8, a9] (.int p1 :: .int p0 :: st) ah Q = WP E (c + 1) 113 91 [a0, a1, a2, a3, a4, a5, a6, a7, a8, a9] (r.toList ++ st) ah1 Q := wp_call (As := [.int p0, .int p1]) i113_88 (fun _ => rfl) rfl mr294.1 rfl h3 (by rw [mr294.2.1]; exact Nat.le_of_ble_eq_true rfl) h
theorem i113_91 : insAt 113 91 = some (.istore 9, 93) := by decide +kernel
theorem r113_91 {E : aEnv} {c : Nat} {ah : aHp} {st : List Value} {Q : Option Value → aHp → Prop} {a0 a1 a2 a3 a4 a5 a6 a7 a8 a9 : Option Value} {x : Int32} : WP E c 113 91 [a0, a1, a2, a3, a4, a5, a6, a7, a8, a9] (.int x :: st) ah Q = WP E c 113 93 [a0, a1, a2, a3, a4, a5, a6, a7, kil a8, some (.int x)] (st) ah Q := wp_s i113_91 rfl rfl rfl rfl
theorem i113_93 : insAt 113 93 = some (.iload 8, 95) := by decide +kernel
theorem r113_93 {E : aEnv} {c : Nat} {ah : aHp} {st : List Value} {Q : Option Value → aHp → Prop} {a0 a1 a2 a3 a4 a5 a6 a7 a9 : Option Value} {x : Int32} : WP E c 113 93 [a0, a1, a2, a3, a4, a5, a6, a7, some (.int x), a9] (st) ah Q = WP E c 113 95 [a0, a1, a2, a3, a4, a5, a6, a7, some (.int x), a9] (.int x :: st) ah Q := wp_s i113_93 rfl rfl rfl rfl
theorem i113_95 : insAt 113 95 = some (.istore 2, 96) := by decide +kernel
theorem r113_95 {E : aEnv} {c : Nat} {ah : aHp} {st : List Value} {Q : Option Value → aHp → Prop} {a0 a1 a2 a3 a4 a5 a6 a7 a8 a9 : Option Value} {x : Int32} : WP E c 113 95 [a0, a1, a2, a3, a4, a5, a6, a7, a8, a9] (.int x :: st) ah Q = WP E c 113 96 [a0, kil a1, some (.int x), a3, a4, a5, a6, a7, a8, a9] (st) ah Q := wp_s i113_95 rfl rfl rfl rfl
theorem i113_96 : insAt 113 96 = some (.iload 9, 98) := by decide +kernel
theorem r113_96 {E : aEnv} {c : Nat} {ah : aHp} {st : List Value} {Q : Option Value → aHp → Prop} {a0 a1 a2 a3 a4 a5 a6 a7 a8 : Option Value} {x : Int32} : WP E c 113 96 [a0, a1, a2, a3, a4, a5, a6, a7, a8, some (.int x)] (st) ah Q = WP E c 113 98 [a0, a1, a2, a3, a4, a5, a6, a7, a8, some (.int x)] (.int x :: st) ah Q := wp_s i113_96 rfl rfl rfl rfl
theorem i113_98 : insAt 113 98 = some (.istore 3, 99) := by decide +kernel
theorem r113_98 {E : aEnv} {c : Nat} {ah : aHp} {st : List Value} {Q : Option Value → aHp → Prop} {a0 a1 a2 a3 a4 a5 a6 a7 a8 a9 : Option Value} {x : Int32} : WP E c 113 98 [a0, a1, a2, a3, a4, a5, a6, a7, a8, a9] (.int x :: st) ah Q = WP E c 113 99 [a0, a1, kil a2, some (.int x), a4, a5, a6, a7, a8, a9] (st) ah Q := wp_s i113_98 rfl rfl rfl rfl
theorem i113_99 : insAt 113 99 = some (.lload 4, 101) := by decide +kernel
theorem r113_99 {E : aEnv} {c : Nat} {ah : aHp} {st : List Value} {Q : Option Value → aHp → Prop} {a0 a1 a2 a3 a5 a6 a7 a8 a9 : Option Value} {x : Int64} : WP E c 113 99 [a0, a1, a2, a3, some (.long x), a5, a6, a7, a8, a9] (st) ah Q = WP E c 113 101 [a0, a1, a2, a3, some (.long x), a5, a6, a7, a8, a9] (.long x :: st) ah Q := wp_s i113_99 rfl rfl rfl rfl
theorem i113_101 : insAt 113 101 = some (.jsr_w 10, 104) := by decide +kernel
theorem r113_101 {E : aEnv} {c : Nat} {ah : aHp} {st : List Value} {Q : Option Value → aHp → Prop} {a0 a1 a2 a3 a4 a5 a6 a7 a8 a9 : Option Value} : WP E c 113 101 [a0, a1, a2, a3, a4, a5, a6, a7, a8, a9] (st) ah Q = WP E c 113 104 [a0, a1, a2, a3, a4, a5, a6, a7, a8, a9] (.long (10) :: st) ah Q := wp_s i113_101 rfl rfl rfl rfl
theorem i113_104 : insAt 113 104 = some (.ldiv, 105) := by decide +kernel
theorem r113_104 {E : aEnv} {c : Nat} {ah : aHp} {st : List Value} {Q : Option Value → aHp → Prop} {a0 a1 a2 a3 a4 a5 a6 a7 a8 a9 : Option Value} {x y : Int64} (hy : ¬ y = 0) : WP E c 113 104 [a0, a1, a2, a3, a4, a5, a6, a7, a8, a9] (.long y :: .long x :: st) ah Q = WP E c 113 105 [a0, a1, a2, a3, a4, a5, a6, a7, a8, a9] (.long (x / y) :: st) ah Q := wp_st (z := (105, [a0, a1, a2, a3, a4, a5, a6, a7, a8, a9], .long (x / y) :: st, ah)) i113_104 rfl rfl rfl (by simp [st1, skA, tD, hy])
theorem i113_105 : insAt 113 105 = some (.lstore 4, 107) := by decide +kernel
theorem r113_105 {E : aEnv} {c : Nat} {ah : aHp} {st : List Value} {Q : Option Value → aHp → Prop} {a0 a1 a2 a3 a4 a5 a6 a7 a8 a9 : Option Value} {x : Int64} : WP E c 113 105 [a0, a1, a2, a3, a4, a5, a6, a7, a8, a9] (.long x :: st) ah Q = WP E c 113 107 [a0, a1, a2, kil a3, some (.long x), none, a6, a7, a8, a9] (st) ah Q := wp_s i113_105 rfl rfl rfl rfl
theorem i113_107 : insAt 113 107 = some (.iinc 6 1, 110) := by decide +kernel
theorem r113_107 {E : aEnv} {c : Nat} {ah : aHp} {st : List Value} {Q : Option Value → aHp → Prop} {a0 a1 a2 a3 a4 a5 a7 a8 a9 : Option Value} {x : Int32} : WP E c 113 107 [a0, a1, a2, a3, a4, a5, some (.int x), a7, a8, a9] (st) ah Q = WP E c 113 110 [a0, a1, a2, a3, a4, kil a5, some (.int (x + 1)), a7, a8, a9] (st) ah Q := wp_s i113_107 rfl rfl rfl rfl
theorem i113_110 : insAt 113 110 = some (.goto 12, 113) := by decide +kernel
theorem r113_110 {E : aEnv} {c : Nat} {ah : aHp} {st : List Value} {Q : Option Value → aHp → Prop} {a0 a1 a2 a3 a4 a5 a6 a7 a8 a9 : Option Value} : WP E c 113 110 [a0, a1, a2, a3, a4, a5, a6, a7, a8, a9] (st) ah Q = WP E c 113 12 [a0, a1, a2, a3, a4, a5, a6, a7, a8, a9] st ah Q := wp_s i113_110 rfl rfl rfl rfl
theorem i113_113 : insAt 113 113 = some (.iload 2, 114) := by decide +kernel
theorem r113_113 {E : aEnv} {c : Nat} {ah : aHp} {st : List Value} {Q : Option Value → aHp → Prop} {a0 a1 a3 a4 a5 a6 a7 a8 a9 : Option Value} {x : Int32} : WP E c 113 113 [a0, a1, some (.int x), a3, a4, a5, a6, a7, a8, a9] (st) ah Q = WP E c 113 114 [a0, a1, some (.int x), a3, a4, a5, a6, a7, a8, a9] (.int x :: st) ah Q := wp_s i113_113 rfl rfl rfl rfl
theorem i113_114 : insAt 113 114 = some (.iload 3, 115) := by decide +kernel
theorem r113_114 {E : aEnv} {c : Nat} {ah : aHp} {st : List Value} {Q : Option Value → aHp → Prop} {a0 a1 a2 a4 a5 a6 a7 a8 a9 : Option Value} {x : Int32} : WP E c 113 114 [a0, a1, a2, some (.int x), a4, a5, a6, a7, a8, a9] (st) ah Q = WP E c 113 115 [a0, a1, a2, some (.int x), a4, a5, a6, a7, a8, a9] (.int x :: st) ah Q := wp_s i113_114 rfl rfl rfl rfl
theorem i113_115 : insAt 113 115 = some (.iconst 1, 116) := by decide +kernel
theorem r113_115 {E : aEnv} {c : Nat} {ah : aHp} {st : List Value} {Q : Option Value → aHp → Prop} {a0 a1 a2 a3 a4 a5 a6 a7 a8 a9 : Option Value} : WP E c 113 115 [a0, a1, a2, a3, a4, a5, a6, a7, a8, a9] (st) ah Q = WP E c 113 116 [a0, a1, a2, a3, a4, a5, a6, a7, a8, a9] (.int (1) :: st) ah Q := wp_s i113_115 rfl rfl rfl rfl
theorem i113_116 : insAt 113 116 = some (.iadd, 117) := by decide +kernel
theorem r113_116 {E : aEnv} {c : Nat} {ah : aHp} {st : List Value} {Q : Option Value → aHp → Prop} {a0 a1 a2 a3 a4 a5 a6 a7 a8 a9 : Option Value} {x y : Int32} : WP E c 113 116 [a0, a1, a2, a3, a4, a5, a6, a7, a8, a9] (.int y :: .int x :: st) ah Q = WP E c 113 117 [a0, a1, a2, a3, a4, a5, a6, a7, a8, a9] (.int (x + y) :: st) ah Q := wp_s i113_116 rfl rfl rfl rfl
theorem i113_117 : insAt 113 117 = some (.invokestatic 294, 120) := by decide +kernel
theorem r113_117 {E : aEnv} {c : Nat} {ah ah1 : aHp} {r : Option Value} {st : List Value} {Q : Option Value → aHp → Prop} {a0 a1 a2 a3 a4 a5 a6 a7 a8 a9 : Option Value} {p0 : Int32} {p1 : Int32} (h : EV E c 294 [.int p0, .int p1] ah r ah1) (h3 : wds st ≤ 8) : WP E (c + 1) 113 117 [a0, a1, a2, a3, a4, a5, a6, a7, a8, a9] (.int p1 :: .int p0 :: st) ah Q = WP E (c + 1) 113 120 [a0, a1, a2, a3, a4, a5, a6, a7, a8, a9] (r.toList ++ st) ah1 Q := wp_call (As := [.int p0, .int p1]) i113_117 (fun _ => rfl) rfl mr294.1 rfl h3 (by rw [mr294.2.1]; exact Nat.le_of_ble_eq_true rfl) h
theorem i113_120 : insAt 113 120 = some (.ireturn, 121) := by decide +kernel
theorem r113_120 {E : aEnv} {c : Nat} {ah : aHp} {Q : Option Value → aHp → Prop} {a0 a1 a2 a3 a4 a5 a6 a7 a8 a9 : Option Value} {x : Int32} : WP E c 113 120 [a0, a1, a2, a3, a4, a5, a6, a7, a8, a9] ([.int x]) ah Q = Q (some (.int x)) ah := wp_rt i113_120 rfl
theorem e114 {E : aEnv} {c : Nat} {ah ahF : aHp} {r : Option Value} {p0 : Int64} {p1 : Int32} (h : WP E c 114 0 [some (.long p0), none, some (.int p1), none, none, none, none] [] ah (fun r1 x1 => r1 = r ∧ x1 = ahF)) : EV E c 114 [.long p0, .int p1] ah r ahF := EV.of (by rw [mr114.2.1]; exact h)
theorem i114_0 : insAt 114 0 = some (.lload 0, 1) := by decide +kernel
theorem r114_0 {E : aEnv} {c : Nat} {ah : aHp} {st : List Value} {Q : Option Value → aHp → Prop} {a1 a2 a3 a4 a5 a6 : Option Value} {x : Int64} : WP E c 114 0 [some (.long x), a1, a2, a3, a4, a5, a6] (st) ah Q = WP E c 114 1 [some (.long x), a1, a2, a3, a4, a5, a6] (.long x :: st) ah Q := wp_s i114_0 rfl rfl rfl rfl
theorem i114_1 : insAt 114 1 = some (.lstore 3, 2) := by decide +kernel
theorem r114_1 {E : aEnv} {c : Nat} {ah : aHp} {st : List Value} {Q : Option Value → aHp → Prop} {a0 a1 a2 a3 a4 a5 a6 : Option Value} {x : Int64} : WP E c 114 1 [a0, a1, a2, a3, a4, a5, a6] (.long x :: st) ah Q = WP E c 114 2 [a0, a1, kil a2, some (.long x), none, a5, a6] (st) ah Q := wp_s i114_1 rfl rfl rfl rfl
theorem i114_2 : insAt 114 2 = some (.iconst 0, 3) := by decide +kernel
theorem r114_2 {E : aEnv} {c : Nat} {ah : aHp} {st : List Value} {Q : Option Value → aHp → Prop} {a0 a1 a2 a3 a4 a5 a6 : Option Value} : WP E c 114 2 [a0, a1, a2, a3, a4, a5, a6] (st) ah Q = WP E c 114 3 [a0, a1, a2, a3, a4, a5, a6] (.int (0) :: st) ah Q := wp_s i114_2 rfl rfl rfl rfl
theorem i114_3 : insAt 114 3 = some (.istore 5, 5) := by decide +kernel
theorem r114_3 {E : aEnv} {c : Nat} {ah : aHp} {st : List Value} {Q : Option Value → aHp → Prop} {a0 a1 a2 a3 a4 a5 a6 : Option Value} {x : Int32} : WP E c 114 3 [a0, a1, a2, a3, a4, a5, a6] (.int x :: st) ah Q = WP E c 114 5 [a0, a1, a2, a3, kil a4, some (.int x), a6] (st) ah Q := wp_s i114_3 rfl rfl rfl rfl
theorem i114_5 : insAt 114 5 = some (.iconst 0, 6) := by decide +kernel
theorem r114_5 {E : aEnv} {c : Nat} {ah : aHp} {st : List Value} {Q : Option Value → aHp → Prop} {a0 a1 a2 a3 a4 a5 a6 : Option Value} : WP E c 114 5 [a0, a1, a2, a3, a4, a5, a6] (st) ah Q = WP E c 114 6 [a0, a1, a2, a3, a4, a5, a6] (.int (0) :: st) ah Q := wp_s i114_5 rfl rfl rfl rfl
theorem i114_6 : insAt 114 6 = some (.istore 6, 8) := by decide +kernel
theorem r114_6 {E : aEnv} {c : Nat} {ah : aHp} {st : List Value} {Q : Option Value → aHp → Prop} {a0 a1 a2 a3 a4 a5 a6 : Option Value} {x : Int32} : WP E c 114 6 [a0, a1, a2, a3, a4, a5, a6] (.int x :: st) ah Q = WP E c 114 8 [a0, a1, a2, a3, a4, kil a5, some (.int x)] (st) ah Q := wp_s i114_6 rfl rfl rfl rfl
theorem i114_8 : insAt 114 8 = some (.iload 6, 10) := by decide +kernel
theorem r114_8 {E : aEnv} {c : Nat} {ah : aHp} {st : List Value} {Q : Option Value → aHp → Prop} {a0 a1 a2 a3 a4 a5 : Option Value} {x : Int32} : WP E c 114 8 [a0, a1, a2, a3, a4, a5, some (.int x)] (st) ah Q = WP E c 114 10 [a0, a1, a2, a3, a4, a5, some (.int x)] (.int x :: st) ah Q := wp_s i114_8 rfl rfl rfl rfl
theorem i114_10 : insAt 114 10 = some (.iload 2, 11) := by decide +kernel
theorem r114_10 {E : aEnv} {c : Nat} {ah : aHp} {st : List Value} {Q : Option Value → aHp → Prop} {a0 a1 a3 a4 a5 a6 : Option Value} {x : Int32} : WP E c 114 10 [a0, a1, some (.int x), a3, a4, a5, a6] (st) ah Q = WP E c 114 11 [a0, a1, some (.int x), a3, a4, a5, a6] (.int x :: st) ah Q := wp_s i114_10 rfl rfl rfl rfl
theorem i114_11 : insAt 114 11 = some (.if_icmp .gt 43, 14) := by decide +kernel
theorem r114_11 {E : aEnv} {c : Nat} {ah : aHp} {st : List Value} {Q : Option Value → aHp → Prop} {a0 a1 a2 a3 a4 a5 a6 : Option Value} {x y : Int32} : WP E c 114 11 [a0, a1, a2, a3, a4, a5, a6] (.int y :: .int x :: st) ah Q = if y < x then WP E c 114 43 [a0, a1, a2, a3, a4, a5, a6] st ah Q else WP E c 114 14 [a0, a1, a2, a3, a4, a5, a6] st ah Q := wp_j i114_11 rfl rfl rfl rfl
theorem i114_14 : insAt 114 14 = some (.iload 6, 16) := by decide +kernel
theorem r114_14 {E : aEnv} {c : Nat} {ah : aHp} {st : List Value} {Q : Option Value → aHp → Prop} {a0 a1 a2 a3 a4 a5 : Option Value} {x : Int32} : WP E c 114 14 [a0, a1, a2, a3, a4, a5, some (.int x)] (st) ah Q = WP E c 114 16 [a0, a1, a2, a3, a4, a5, some (.int x)] (.int x :: st) ah Q := wp_s i114_14 rfl rfl rfl rfl
theorem i114_16 : insAt 114 16 = some (.iconst 13, 18) := by decide +kernel
theorem r114_16 {E : aEnv} {c : Nat} {ah : aHp} {st : List Value} {Q : Option Value → aHp → Prop} {a0 a1 a2 a3 a4 a5 a6 : Option Value} : WP E c 114 16 [a0, a1, a2, a3, a4, a5, a6] (st) ah Q = WP E c 114 18 [a0, a1, a2, a3, a4, a5, a6] (.int (13) :: st) ah Q := wp_s i114_16 rfl rfl rfl rfl
theorem i114_18 : insAt 114 18 = some (.if_icmp .ge 43, 21) := by decide +kernel
theorem r114_18 {E : aEnv} {c : Nat} {ah : aHp} {st : List Value} {Q : Option Value → aHp → Prop} {a0 a1 a2 a3 a4 a5 a6 : Option Value} {x y : Int32} : WP E c 114 18 [a0, a1, a2, a3, a4, a5, a6] (.int y :: .int x :: st) ah Q = if y ≤ x then WP E c 114 43 [a0, a1, a2, a3, a4, a5, a6] st ah Q else WP E c 114 21 [a0, a1, a2, a3, a4, a5, a6] st ah Q := wp_j i114_18 rfl rfl rfl rfl
theorem i114_21 : insAt 114 21 = some (.lload 3, 22) := by decide +kernel
theorem r114_21 {E : aEnv} {c : Nat} {ah : aHp} {st : List Value} {Q : Option Value → aHp → Prop} {a0 a1 a2 a4 a5 a6 : Option Value} {x : Int64} : WP E c 114 21 [a0, a1, a2, some (.long x), a4, a5, a6] (st) ah Q = WP E c 114 22 [a0, a1, a2, some (.long x), a4, a5, a6] (.long x :: st) ah Q := wp_s i114_21 rfl rfl rfl rfl
theorem i114_22 : insAt 114 22 = some (.invokestatic 115, 25) := by decide +kernel
theorem r114_22 {E : aEnv} {c : Nat} {ah ah1 : aHp} {r : Option Value} {st : List Value} {Q : Option Value → aHp → Prop} {a0 a1 a2 a3 a4 a5 a6 : Option Value} {p0 : Int64} (h : EV E c 115 [.long p0] ah r ah1) (h3 : wds st ≤ 8) : WP E (c + 1) 114 22 [a0, a1, a2, a3, a4, a5, a6] (.long p0 :: st) ah Q = WP E (c + 1) 114 25 [a0, a1, a2, a3, a4, a5, a6] (r.toList ++ st) ah1 Q := wp_call (As := [.long p0]) i114_22 (fun _ => rfl) rfl mr115.1 rfl h3 (by rw [mr115.2.1]; exact Nat.le_of_ble_eq_true rfl) h
theorem i114_25 : insAt 114 25 = some (.istore 5, 27) := by decide +kernel
theorem r114_25 {E : aEnv} {c : Nat} {ah : aHp} {st : List Value} {Q : Option Value → aHp → Prop} {a0 a1 a2 a3 a4 a5 a6 : Option Value} {x : Int32} : WP E c 114 25 [a0, a1, a2, a3, a4, a5, a6] (.int x :: st) ah Q = WP E c 114 27 [a0, a1, a2, a3, kil a4, some (.int x), a6] (st) ah Q := wp_s i114_25 rfl rfl rfl rfl
theorem i114_27 : insAt 114 27 = some (.lload 3, 28) := by decide +kernel
theorem r114_27 {E : aEnv} {c : Nat} {ah : aHp} {st : List Value} {Q : Option Value → aHp → Prop} {a0 a1 a2 a4 a5 a6 : Option Value} {x : Int64} : WP E c 114 27 [a0, a1, a2, some (.long x), a4, a5, a6] (st) ah Q = WP E c 114 28 [a0, a1, a2, some (.long x), a4, a5, a6] (.long x :: st) ah Q := wp_s i114_27 rfl rfl rfl rfl
theorem i114_28 : insAt 114 28 = some (.iload 5, 30) := by decide +kernel
theorem r114_28 {E : aEnv} {c : Nat} {ah : aHp} {st : List Value} {Q : Option Value → aHp → Prop} {a0 a1 a2 a3 a4 a6 : Option Value} {x : Int32} : WP E c 114 28 [a0, a1, a2, a3, a4, some (.int x), a6] (st) ah Q = WP E c 114 30 [a0, a1, a2, a3, a4, some (.int x), a6] (.int x :: st) ah Q := wp_s i114_28 rfl rfl rfl rfl
theorem i114_30 : insAt 114 30 = some (.i2l, 31) := by decide +kernel
theorem r114_30 {E : aEnv} {c : Nat} {ah : aHp} {st : List Value} {Q : Option Value → aHp → Prop} {a0 a1 a2 a3 a4 a5 a6 : Option Value} {x : Int32} : WP E c 114 30 [a0, a1, a2, a3, a4, a5, a6] (.int x :: st) ah Q = WP E c 114 31 [a0, a1, a2, a3, a4, a5, a6] (.long x.toInt64 :: st) ah Q := wp_s i114_30 rfl rfl rfl rfl
theorem i114_31 : insAt 114 31 = some (.lsub, 32) := by decide +kernel
theorem r114_31 {E : aEnv} {c : Nat} {ah : aHp} {st : List Value} {Q : Option Value → aHp → Prop} {a0 a1 a2 a3 a4 a5 a6 : Option Value} {x y : Int64} : WP E c 114 31 [a0, a1, a2, a3, a4, a5, a6] (.long y :: .long x :: st) ah Q = WP E c 114 32 [a0, a1, a2, a3, a4, a5, a6] (.long (x - y) :: st) ah Q := wp_s i114_31 rfl rfl rfl rfl
theorem i114_32 : insAt 114 32 = some (.jsr_w 10, 35) := by decide +kernel
theorem r114_32 {E : aEnv} {c : Nat} {ah : aHp} {st : List Value} {Q : Option Value → aHp → Prop} {a0 a1 a2 a3 a4 a5 a6 : Option Value} : WP E c 114 32 [a0, a1, a2, a3, a4, a5, a6] (st) ah Q = WP E c 114 35 [a0, a1, a2, a3, a4, a5, a6] (.long (10) :: st) ah Q := wp_s i114_32 rfl rfl rfl rfl
theorem i114_35 : insAt 114 35 = some (.ldiv, 36) := by decide +kernel
theorem r114_35 {E : aEnv} {c : Nat} {ah : aHp} {st : List Value} {Q : Option Value → aHp → Prop} {a0 a1 a2 a3 a4 a5 a6 : Option Value} {x y : Int64} (hy : ¬ y = 0) : WP E c 114 35 [a0, a1, a2, a3, a4, a5, a6] (.long y :: .long x :: st) ah Q = WP E c 114 36 [a0, a1, a2, a3, a4, a5, a6] (.long (x / y) :: st) ah Q := wp_st (z := (36, [a0, a1, a2, a3, a4, a5, a6], .long (x / y) :: st, ah)) i114_35 rfl rfl rfl (by simp [st1, skA, tD, hy])
theorem i114_36 : insAt 114 36 = some (.lstore 3, 37) := by decide +kernel
theorem r114_36 {E : aEnv} {c : Nat} {ah : aHp} {st : List Value} {Q : Option Value → aHp → Prop} {a0 a1 a2 a3 a4 a5 a6 : Option Value} {x : Int64} : WP E c 114 36 [a0, a1, a2, a3, a4, a5, a6] (.long x :: st) ah Q = WP E c 114 37 [a0, a1, kil a2, some (.long x), none, a5, a6] (st) ah Q := wp_s i114_36 rfl rfl rfl rfl
theorem i114_37 : insAt 114 37 = some (.iinc 6 1, 40) := by decide +kernel
theorem r114_37 {E : aEnv} {c : Nat} {ah : aHp} {st : List Value} {Q : Option Value → aHp → Prop} {a0 a1 a2 a3 a4 a5 : Option Value} {x : Int32} : WP E c 114 37 [a0, a1, a2, a3, a4, a5, some (.int x)] (st) ah Q = WP E c 114 40 [a0, a1, a2, a3, a4, kil a5, some (.int (x + 1))] (st) ah Q := wp_s i114_37 rfl rfl rfl rfl
theorem i114_40 : insAt 114 40 = some (.goto 8, 43) := by decide +kernel
theorem r114_40 {E : aEnv} {c : Nat} {ah : aHp} {st : List Value} {Q : Option Value → aHp → Prop} {a0 a1 a2 a3 a4 a5 a6 : Option Value} : WP E c 114 40 [a0, a1, a2, a3, a4, a5, a6] (st) ah Q = WP E c 114 8 [a0, a1, a2, a3, a4, a5, a6] st ah Q := wp_s i114_40 rfl rfl rfl rfl
theorem i114_43 : insAt 114 43 = some (.iload 5, 45) := by decide +kernel
theorem r114_43 {E : aEnv} {c : Nat} {ah : aHp} {st : List Value} {Q : Option Value → aHp → Prop} {a0 a1 a2 a3 a4 a6 : Option Value} {x : Int32} : WP E c 114 43 [a0, a1, a2, a3, a4, some (.int x), a6] (st) ah Q = WP E c 114 45 [a0, a1, a2, a3, a4, some (.int x), a6] (.int x :: st) ah Q := wp_s i114_43 rfl rfl rfl rfl
theorem i114_45 : insAt 114 45 = some (.ireturn, 46) := by decide +kernel
theorem r114_45 {E : aEnv} {c : Nat} {ah : aHp} {Q : Option Value → aHp → Prop} {a0 a1 a2 a3 a4 a5 a6 : Option Value} {x : Int32} : WP E c 114 45 [a0, a1, a2, a3, a4, a5, a6] ([.int x]) ah Q = Q (some (.int x)) ah := wp_rt i114_45 rfl
theorem e115 {E : aEnv} {c : Nat} {ah ahF : aHp} {r : Option Value} {p0 : Int64} (h : WP E c 115 0 [some (.long p0), none, none, none, none, none] [] ah (fun r1 x1 => r1 = r ∧ x1 = ahF)) : EV E c 115 [.long p0] ah r ahF := EV.of (by rw [mr115.2.1]; exact h)
theorem i115_0 : insAt 115 0 = some (.lload 0, 1) := by decide +kernel
theorem r115_0 {E : aEnv} {c : Nat} {ah : aHp} {st : List Value} {Q : Option Value → aHp → Prop} {a1 a2 a3 a4 a5 : Option Value} {x : Int64} : WP E c 115 0 [some (.long x), a1, a2, a3, a4, a5] (st) ah Q = WP E c 115 1 [some (.long x), a1, a2, a3, a4, a5] (.long x :: st) ah Q := wp_s i115_0 rfl rfl rfl rfl
theorem i115_1 : insAt 115 1 = some (.jsr_w 10, 4) := by decide +kernel
theorem r115_1 {E : aEnv} {c : Nat} {ah : aHp} {st : List Value} {Q : Option Value → aHp → Prop} {a0 a1 a2 a3 a4 a5 : Option Value} : WP E c 115 1 [a0, a1, a2, a3, a4, a5] (st) ah Q = WP E c 115 4 [a0, a1, a2, a3, a4, a5] (.long (10) :: st) ah Q := wp_s i115_1 rfl rfl rfl rfl
theorem i115_4 : insAt 115 4 = some (.lrem, 5) := by decide +kernel
theorem r115_4 {E : aEnv} {c : Nat} {ah : aHp} {st : List Value} {Q : Option Value → aHp → Prop} {a0 a1 a2 a3 a4 a5 : Option Value} {x y : Int64} (hy : ¬ y = 0) : WP E c 115 4 [a0, a1, a2, a3, a4, a5] (.long y :: .long x :: st) ah Q = WP E c 115 5 [a0, a1, a2, a3, a4, a5] (.long (x - x / y * y) :: st) ah Q := wp_st (z := (5, [a0, a1, a2, a3, a4, a5], .long (x - x / y * y) :: st, ah)) i115_4 rfl rfl rfl (by simp [st1, skA, tD, hy])
theorem i115_5 : insAt 115 5 = some (.l2i, 6) := by decide +kernel
theorem r115_5 {E : aEnv} {c : Nat} {ah : aHp} {st : List Value} {Q : Option Value → aHp → Prop} {a0 a1 a2 a3 a4 a5 : Option Value} {x : Int64} : WP E c 115 5 [a0, a1, a2, a3, a4, a5] (.long x :: st) ah Q = WP E c 115 6 [a0, a1, a2, a3, a4, a5] (.int x.toInt32 :: st) ah Q := wp_s i115_5 rfl rfl rfl rfl
theorem i115_6 : insAt 115 6 = some (.istore 2, 7) := by decide +kernel
theorem r115_6 {E : aEnv} {c : Nat} {ah : aHp} {st : List Value} {Q : Option Value → aHp → Prop} {a0 a1 a2 a3 a4 a5 : Option Value} {x : Int32} : WP E c 115 6 [a0, a1, a2, a3, a4, a5] (.int x :: st) ah Q = WP E c 115 7 [a0, kil a1, some (.int x), a3, a4, a5] (st) ah Q := wp_s i115_6 rfl rfl rfl rfl
theorem i115_7 : insAt 115 7 = some (.lload 0, 8) := by decide +kernel
theorem r115_7 {E : aEnv} {c : Nat} {ah : aHp} {st : List Value} {Q : Option Value → aHp → Prop} {a1 a2 a3 a4 a5 : Option Value} {x : Int64} : WP E c 115 7 [some (.long x), a1, a2, a3, a4, a5] (st) ah Q = WP E c 115 8 [some (.long x), a1, a2, a3, a4, a5] (.long x :: st) ah Q := wp_s i115_7 rfl rfl rfl rfl
theorem i115_8 : insAt 115 8 = some (.jsr_w 10, 11) := by decide +kernel
theorem r115_8 {E : aEnv} {c : Nat} {ah : aHp} {st : List Value} {Q : Option Value → aHp → Prop} {a0 a1 a2 a3 a4 a5 : Option Value} : WP E c 115 8 [a0, a1, a2, a3, a4, a5] (st) ah Q = WP E c 115 11 [a0, a1, a2, a3, a4, a5] (.long (10) :: st) ah Q := wp_s i115_8 rfl rfl rfl rfl
theorem i115_11 : insAt 115 11 = some (.ldiv, 12) := by decide +kernel
theorem r115_11 {E : aEnv} {c : Nat} {ah : aHp} {st : List Value} {Q : Option Value → aHp → Prop} {a0 a1 a2 a3 a4 a5 : Option Value} {x y : Int64} (hy : ¬ y = 0) : WP E c 115 11 [a0, a1, a2, a3, a4, a5] (.long y :: .long x :: st) ah Q = WP E c 115 12 [a0, a1, a2, a3, a4, a5] (.long (x / y) :: st) ah Q := wp_st (z := (12, [a0, a1, a2, a3, a4, a5], .long (x / y) :: st, ah)) i115_11 rfl rfl rfl (by simp [st1, skA, tD, hy])
theorem i115_12 : insAt 115 12 = some (.lstore 3, 13) := by decide +kernel
theorem r115_12 {E : aEnv} {c : Nat} {ah : aHp} {st : List Value} {Q : Option Value → aHp → Prop} {a0 a1 a2 a3 a4 a5 : Option Value} {x : Int64} : WP E c 115 12 [a0, a1, a2, a3, a4, a5] (.long x :: st) ah Q = WP E c 115 13 [a0, a1, kil a2, some (.long x), none, a5] (st) ah Q := wp_s i115_12 rfl rfl rfl rfl
theorem i115_13 : insAt 115 13 = some (.iload 2, 14) := by decide +kernel
theorem r115_13 {E : aEnv} {c : Nat} {ah : aHp} {st : List Value} {Q : Option Value → aHp → Prop} {a0 a1 a3 a4 a5 : Option Value} {x : Int32} : WP E c 115 13 [a0, a1, some (.int x), a3, a4, a5] (st) ah Q = WP E c 115 14 [a0, a1, some (.int x), a3, a4, a5] (.int x :: st) ah Q := wp_s i115_13 rfl rfl rfl rfl
theorem i115_14 : insAt 115 14 = some (.ifCond .le 41, 17) := by decide +kernel
theorem r115_14 {E : aEnv} {c : Nat} {ah : aHp} {st : List Value} {Q : Option Value → aHp → Prop} {a0 a1 a2 a3 a4 a5 : Option Value} {x : Int32} : WP E c 115 14 [a0, a1, a2, a3, a4, a5] (.int x :: st) ah Q = if x ≤ 0 then WP E c 115 41 [a0, a1, a2, a3, a4, a5] st ah Q else WP E c 115 17 [a0, a1, a2, a3, a4, a5] st ah Q := wp_j i115_14 rfl rfl rfl rfl
theorem i115_17 : insAt 115 17 = some (.iconst 10, 19) := by decide +kernel
theorem r115_17 {E : aEnv} {c : Nat} {ah : aHp} {st : List Value} {Q : Option Value → aHp → Prop} {a0 a1 a2 a3 a4 a5 : Option Value} : WP E c 115 17 [a0, a1, a2, a3, a4, a5] (st) ah Q = WP E c 115 19 [a0, a1, a2, a3, a4, a5] (.int (10) :: st) ah Q := wp_s i115_17 rfl rfl rfl rfl
theorem i115_19 : insAt 115 19 = some (.iload 2, 20) := by decide +kernel
theorem r115_19 {E : aEnv} {c : Nat} {ah : aHp} {st : List Value} {Q : Option Value → aHp → Prop} {a0 a1 a3 a4 a5 : Option Value} {x : Int32} : WP E c 115 19 [a0, a1, some (.int x), a3, a4, a5] (st) ah Q = WP E c 115 20 [a0, a1, some (.int x), a3, a4, a5] (.int x :: st) ah Q := wp_s i115_19 rfl rfl rfl rfl
theorem i115_20 : insAt 115 20 = some (.isub, 21) := by decide +kernel
theorem r115_20 {E : aEnv} {c : Nat} {ah : aHp} {st : List Value} {Q : Option Value → aHp → Prop} {a0 a1 a2 a3 a4 a5 : Option Value} {x y : Int32} : WP E c 115 20 [a0, a1, a2, a3, a4, a5] (.int y :: .int x :: st) ah Q = WP E c 115 21 [a0, a1, a2, a3, a4, a5] (.int (x - y) :: st) ah Q := wp_s i115_20 rfl rfl rfl rfl
theorem i115_21 : insAt 115 21 = some (.lload 3, 22) := by decide +kernel
theorem r115_21 {E : aEnv} {c : Nat} {ah : aHp} {st : List Value} {Q : Option Value → aHp → Prop} {a0 a1 a2 a4 a5 : Option Value} {x : Int64} : WP E c 115 21 [a0, a1, a2, some (.long x), a4, a5] (st) ah Q = WP E c 115 22 [a0, a1, a2, some (.long x), a4, a5] (.long x :: st) ah Q := wp_s i115_21 rfl rfl rfl rfl
theorem i115_22 : insAt 115 22 = some (.jsr_w 1, 23) := by decide +kernel
theorem r115_22 {E : aEnv} {c : Nat} {ah : aHp} {st : List Value} {Q : Option Value → aHp → Prop} {a0 a1 a2 a3 a4 a5 : Option Value} : WP E c 115 22 [a0, a1, a2, a3, a4, a5] (st) ah Q = WP E c 115 23 [a0, a1, a2, a3, a4, a5] (.long (1) :: st) ah Q := wp_s i115_22 rfl rfl rfl rfl
theorem i115_23 : insAt 115 23 = some (.ladd, 24) := by decide +kernel
theorem r115_23 {E : aEnv} {c : Nat} {ah : aHp} {st : List Value} {Q : Option Value → aHp → Prop} {a0 a1 a2 a3 a4 a5 : Option Value} {x y : Int64} : WP E c 115 23 [a0, a1, a2, a3, a4, a5] (.long y :: .long x :: st) ah Q = WP E c 115 24 [a0, a1, a2, a3, a4, a5] (.long (x + y) :: st) ah Q := wp_s i115_23 rfl rfl rfl rfl
theorem i115_24 : insAt 115 24 = some (.invokestatic 113, 27) := by decide +kernel
theorem r115_24 {E : aEnv} {c : Nat} {ah ah1 : aHp} {r : Option Value} {st : List Value} {Q : Option Value → aHp → Prop} {a0 a1 a2 a3 a4 a5 : Option Value} {p0 : Int64} (h : EV E c 113 [.long p0] ah r ah1) (h3 : wds st ≤ 8) : WP E (c + 1) 115 24 [a0, a1, a2, a3, a4, a5] (.long p0 :: st) ah Q = WP E (c + 1) 115 27 [a0, a1, a2, a3, a4, a5] (r.toList ++ st) ah1 Q := wp_call (As := [.long p0]) i115_24 (fun _ => rfl) rfl mr113.1 rfl h3 (by rw [mr113.2.1]; exact Nat.le_of_ble_eq_true rfl) h
theorem i115_27 : insAt 115 27 = some (.iadd, 28) := by decide +kernel
theorem r115_27 {E : aEnv} {c : Nat} {ah : aHp} {st : List Value} {Q : Option Value → aHp → Prop} {a0 a1 a2 a3 a4 a5 : Option Value} {x y : Int32} : WP E c 115 27 [a0, a1, a2, a3, a4, a5] (.int y :: .int x :: st) ah Q = WP E c 115 28 [a0, a1, a2, a3, a4, a5] (.int (x + y) :: st) ah Q := wp_s i115_27 rfl rfl rfl rfl
theorem i115_28 : insAt 115 28 = some (.iload 2, 29) := by decide +kernel
theorem r115_28 {E : aEnv} {c : Nat} {ah : aHp} {st : List Value} {Q : Option Value → aHp → Prop} {a0 a1 a3 a4 a5 : Option Value} {x : Int32} : WP E c 115 28 [a0, a1, some (.int x), a3, a4, a5] (st) ah Q = WP E c 115 29 [a0, a1, some (.int x), a3, a4, a5] (.int x :: st) ah Q := wp_s i115_28 rfl rfl rfl rfl
theorem i115_29 : insAt 115 29 = some (.lload 3, 30) := by decide +kernel
theorem r115_29 {E : aEnv} {c : Nat} {ah : aHp} {st : List Value} {Q : Option Value → aHp → Prop} {a0 a1 a2 a4 a5 : Option Value} {x : Int64} : WP E c 115 29 [a0, a1, a2, some (.long x), a4, a5] (st) ah Q = WP E c 115 30 [a0, a1, a2, some (.long x), a4, a5] (.long x :: st) ah Q := wp_s i115_29 rfl rfl rfl rfl
theorem i115_30 : insAt 115 30 = some (.invokestatic 113, 33) := by decide +kernel
theorem r115_30 {E : aEnv} {c : Nat} {ah ah1 : aHp} {r : Option Value} {st : List Value} {Q : Option Value → aHp → Prop} {a0 a1 a2 a3 a4 a5 : Option Value} {p0 : Int64} (h : EV E c 113 [.long p0] ah r ah1) (h3 : wds st ≤ 8) : WP E (c + 1) 115 30 [a0, a1, a2, a3, a4, a5] (.long p0 :: st) ah Q = WP E (c + 1) 115 33 [a0, a1, a2, a3, a4, a5] (r.toList ++ st) ah1 Q := wp_call (As := [.long p0]) i115_30 (fun _ => rfl) rfl mr113.1 rfl h3 (by rw [mr113.2.1]; exact Nat.le_of_ble_eq_true rfl) h
theorem i115_33 : insAt 115 33 = some (.iadd, 34) := by decide +kernel
theorem r115_33 {E : aEnv} {c : Nat} {ah : aHp} {st : List Value} {Q : Option Value → aHp → Prop} {a0 a1 a2 a3 a4 a5 : Option Value} {x y : Int32} : WP E c 115 33 [a0, a1, a2, a3, a4, a5] (.int y :: .int x :: st) ah Q = WP E c 115 34 [a0, a1, a2, a3, a4, a5] (.int (x + y) :: st) ah Q := wp_s i115_33 rfl rfl rfl rfl
theorem i115_34 : insAt 115 34 = some (.if_icmp .ge 41, 37) := by decide +kernel
theorem r115_34 {E : aEnv} {c : Nat} {ah : aHp} {st : List Value} {Q : Option Value → aHp → Prop} {a0 a1 a2 a3 a4 a5 : Option Value} {x y : Int32} : WP E c 115 34 [a0, a1, a2, a3, a4, a5] (.int y :: .int x :: st) ah Q = if y ≤ x then WP E c 115 41 [a0, a1, a2, a3, a4, a5] st ah Q else WP E c 115 37 [a0, a1, a2, a3, a4, a5] st ah Q := wp_j i115_34 rfl rfl rfl rfl
theorem i115_37 : insAt 115 37 = some (.iconst 1, 38) := by decide +kernel
theorem r115_37 {E : aEnv} {c : Nat} {ah : aHp} {st : List Value} {Q : Option Value → aHp → Prop} {a0 a1 a2 a3 a4 a5 : Option Value} : WP E c 115 37 [a0, a1, a2, a3, a4, a5] (st) ah Q = WP E c 115 38 [a0, a1, a2, a3, a4, a5] (.int (1) :: st) ah Q := wp_s i115_37 rfl rfl rfl rfl
theorem i115_38 : insAt 115 38 = some (.goto 42, 41) := by decide +kernel
theorem r115_38 {E : aEnv} {c : Nat} {ah : aHp} {st : List Value} {Q : Option Value → aHp → Prop} {a0 a1 a2 a3 a4 a5 : Option Value} : WP E c 115 38 [a0, a1, a2, a3, a4, a5] (st) ah Q = WP E c 115 42 [a0, a1, a2, a3, a4, a5] st ah Q := wp_s i115_38 rfl rfl rfl rfl
theorem i115_41 : insAt 115 41 = some (.iconst 0, 42) := by decide +kernel
theorem r115_41 {E : aEnv} {c : Nat} {ah : aHp} {st : List Value} {Q : Option Value → aHp → Prop} {a0 a1 a2 a3 a4 a5 : Option Value} : WP E c 115 41 [a0, a1, a2, a3, a4, a5] (st) ah Q = WP E c 115 42 [a0, a1, a2, a3, a4, a5] (.int (0) :: st) ah Q := wp_s i115_41 rfl rfl rfl rfl
theorem i115_42 : insAt 115 42 = some (.istore 5, 44) := by decide +kernel
theorem r115_42 {E : aEnv} {c : Nat} {ah : aHp} {st : List Value} {Q : Option Value → aHp → Prop} {a0 a1 a2 a3 a4 a5 : Option Value} {x : Int32} : WP E c 115 42 [a0, a1, a2, a3, a4, a5] (.int x :: st) ah Q = WP E c 115 44 [a0, a1, a2, a3, kil a4, some (.int x)] (st) ah Q := wp_s i115_42 rfl rfl rfl rfl
theorem i115_44 : insAt 115 44 = some (.iload 5, 46) := by decide +kernel
theorem r115_44 {E : aEnv} {c : Nat} {ah : aHp} {st : List Value} {Q : Option Value → aHp → Prop} {a0 a1 a2 a3 a4 : Option Value} {x : Int32} : WP E c 115 44 [a0, a1, a2, a3, a4, some (.int x)] (st) ah Q = WP E c 115 46 [a0, a1, a2, a3, a4, some (.int x)] (.int x :: st) ah Q := wp_s i115_44 rfl rfl rfl rfl
theorem i115_46 : insAt 115 46 = some (.ifCond .eq 56, 49) := by decide +kernel
theorem r115_46 {E : aEnv} {c : Nat} {ah : aHp} {st : List Value} {Q : Option Value → aHp → Prop} {a0 a1 a2 a3 a4 a5 : Option Value} {x : Int32} : WP E c 115 46 [a0, a1, a2, a3, a4, a5] (.int x :: st) ah Q = if x = 0 then WP E c 115 56 [a0, a1, a2, a3, a4, a5] st ah Q else WP E c 115 49 [a0, a1, a2, a3, a4, a5] st ah Q := wp_j i115_46 rfl rfl rfl rfl
theorem i115_49 : insAt 115 49 = some (.iload 2, 50) := by decide +kernel
theorem r115_49 {E : aEnv} {c : Nat} {ah : aHp} {st : List Value} {Q : Option Value → aHp → Prop} {a0 a1 a3 a4 a5 : Option Value} {x : Int32} : WP E c 115 49 [a0, a1, some (.int x), a3, a4, a5] (st) ah Q = WP E c 115 50 [a0, a1, some (.int x), a3, a4, a5] (.int x :: st) ah Q := wp_s i115_49 rfl rfl rfl rfl
theorem i115_50 : insAt 115 50 = some (.iconst 10, 52) := by decide +kernel
theorem r115_50 {E : aEnv} {c : Nat} {ah : aHp} {st : List Value} {Q : Option Value → aHp → Prop} {a0 a1 a2 a3 a4 a5 : Option Value} : WP E c 115 50 [a0, a1, a2, a3, a4, a5] (st) ah Q = WP E c 115 52 [a0, a1, a2, a3, a4, a5] (.int (10) :: st) ah Q := wp_s i115_50 rfl rfl rfl rfl
theorem i115_52 : insAt 115 52 = some (.isub, 53) := by decide +kernel
theorem r115_52 {E : aEnv} {c : Nat} {ah : aHp} {st : List Value} {Q : Option Value → aHp → Prop} {a0 a1 a2 a3 a4 a5 : Option Value} {x y : Int32} : WP E c 115 52 [a0, a1, a2, a3, a4, a5] (.int y :: .int x :: st) ah Q = WP E c 115 53 [a0, a1, a2, a3, a4, a5] (.int (x - y) :: st) ah Q := wp_s i115_52 rfl rfl rfl rfl
theorem i115_53 : insAt 115 53 = some (.goto 57, 56) := by decide +kernel
theorem r115_53 {E : aEnv} {c : Nat} {ah : aHp} {st : List Value} {Q : Option Value → aHp → Prop} {a0 a1 a2 a3 a4 a5 : Option Value} : WP E c 115 53 [a0, a1, a2, a3, a4, a5] (st) ah Q = WP E c 115 57 [a0, a1, a2, a3, a4, a5] st ah Q := wp_s i115_53 rfl rfl rfl rfl
theorem i115_56 : insAt 115 56 = some (.iload 2, 57) := by decide +kernel
theorem r115_56 {E : aEnv} {c : Nat} {ah : aHp} {st : List Value} {Q : Option Value → aHp → Prop} {a0 a1 a3 a4 a5 : Option Value} {x : Int32} : WP E c 115 56 [a0, a1, some (.int x), a3, a4, a5] (st) ah Q = WP E c 115 57 [a0, a1, some (.int x), a3, a4, a5] (.int x :: st) ah Q := wp_s i115_56 rfl rfl rfl rfl
theorem i115_57 : insAt 115 57 = some (.ireturn, 58) := by decide +kernel
theorem r115_57 {E : aEnv} {c : Nat} {ah : aHp} {Q : Option Value → aHp → Prop} {a0 a1 a2 a3 a4 a5 : Option Value} {x : Int32} : WP E c 115 57 [a0, a1, a2, a3, a4, a5] ([.int x]) ah Q = Q (some (.int x)) ah := wp_rt i115_57 rfl
theorem e116 {E : aEnv} {c : Nat} {ah ahF : aHp} {r : Option Value} {p0 : Nat} (h : WP E c 116 0 [some (.ref p0)] [] ah (fun r1 x1 => r1 = r ∧ x1 = ahF)) : EV E c 116 [.ref p0] ah r ahF := EV.of (by rw [mr116.2.1]; exact h)
theorem i116_0 : insAt 116 0 = some (.aload 0, 1) := by decide +kernel
theorem r116_0 {E : aEnv} {c : Nat} {ah : aHp} {st : List Value} {Q : Option Value → aHp → Prop} {x : Nat} : WP E c 116 0 [some (.ref x)] (st) ah Q = WP E c 116 1 [some (.ref x)] (.ref x :: st) ah Q := wp_s i116_0 rfl rfl rfl rfl
theorem i116_1 : insAt 116 1 = some (.ldc_w 4, 4) := by decide +kernel
-- 116 1 .ldc_w 4
theorem i116_4 : insAt 116 4 = some (.aload 0, 5) := by decide +kernel
theorem r116_4 {E : aEnv} {c : Nat} {ah : aHp} {st : List Value} {Q : Option Value → aHp → Prop} {x : Nat} : WP E c 116 4 [some (.ref x)] (st) ah Q = WP E c 116 5 [some (.ref x)] (.ref x :: st) ah Q := wp_s i116_4 rfl rfl rfl rfl
theorem i116_5 : insAt 116 5 = some (.iconst 100, 7) := by decide +kernel
theorem r116_5 {E : aEnv} {c : Nat} {ah : aHp} {st : List Value} {Q : Option Value → aHp → Prop} {a0 : Option Value} : WP E c 116 5 [a0] (st) ah Q = WP E c 116 7 [a0] (.int (100) :: st) ah Q := wp_s i116_5 rfl rfl rfl rfl
theorem i116_7 : insAt 116 7 = some (.newarray .int, 9) := by decide +kernel
theorem r116_7 {E : aEnv} {c : Nat} {ah : aHp} {st : List Value} {Q : Option Value → aHp → Prop} {a0 : Option Value} {x : Int32} : WP E c 116 7 [a0] (.int x :: st) ah Q = WPo (nR E ah 0 (.int x :: st)) (fun q9 => WP E c 116 9 [a0] q9.1 q9.2 Q) := wp_hw i116_7 rfl rfl rfl rfl rfl rfl rfl rfl
theorem i116_9 : insAt 116 9 = some (.putfield 8002, 12) := by decide +kernel
theorem r116_9 {E : aEnv} {c : Nat} {ah : aHp} {st : List Value} {Q : Option Value → aHp → Prop} {a0 : Option Value} {a : Nat} {v : Value} : WP E c 116 9 [a0] (v :: .ref a :: st) ah Q = WPo (oPF (hg E ah a) 8002 v) (fun e => WP E c 116 12 [a0] st (hs E ah a e) Q) := wp_putf i116_9
theorem i116_12 : insAt 116 12 = some (.aload 0, 13) := by decide +kernel
theorem r116_12 {E : aEnv} {c : Nat} {ah : aHp} {st : List Value} {Q : Option Value → aHp → Prop} {x : Nat} : WP E c 116 12 [some (.ref x)] (st) ah Q = WP E c 116 13 [some (.ref x)] (.ref x :: st) ah Q := wp_s i116_12 rfl rfl rfl rfl
theorem i116_13 : insAt 116 13 = some (.iconst 100, 15) := by decide +kernel
theorem r116_13 {E : aEnv} {c : Nat} {ah : aHp} {st : List Value} {Q : Option Value → aHp → Prop} {a0 : Option Value} : WP E c 116 13 [a0] (st) ah Q = WP E c 116 15 [a0] (.int (100) :: st) ah Q := wp_s i116_13 rfl rfl rfl rfl
theorem i116_15 : insAt 116 15 = some (.newarray .int, 17) := by decide +kernel
theorem r116_15 {E : aEnv} {c : Nat} {ah : aHp} {st : List Value} {Q : Option Value → aHp → Prop} {a0 : Option Value} {x : Int32} : WP E c 116 15 [a0] (.int x :: st) ah Q = WPo (nR E ah 0 (.int x :: st)) (fun q9 => WP E c 116 17 [a0] q9.1 q9.2 Q) := wp_hw i116_15 rfl rfl rfl rfl rfl rfl rfl rfl
theorem i116_17 : insAt 116 17 = some (.putfield 8012, 20) := by decide +kernel
theorem r116_17 {E : aEnv} {c : Nat} {ah : aHp} {st : List Value} {Q : Option Value → aHp → Prop} {a0 : Option Value} {a : Nat} {v : Value} : WP E c 116 17 [a0] (v :: .ref a :: st) ah Q = WPo (oPF (hg E ah a) 8012 v) (fun e => WP E c 116 20 [a0] st (hs E ah a e) Q) := wp_putf i116_17
theorem i116_20 : insAt 116 20 = some (.aload 0, 21) := by decide +kernel
theorem r116_20 {E : aEnv} {c : Nat} {ah : aHp} {st : List Value} {Q : Option Value → aHp → Prop} {x : Nat} : WP E c 116 20 [some (.ref x)] (st) ah Q = WP E c 116 21 [some (.ref x)] (.ref x :: st) ah Q := wp_s i116_20 rfl rfl rfl rfl
theorem i116_21 : insAt 116 21 = some (.iconst 20, 23) := by decide +kernel
theorem r116_21 {E : aEnv} {c : Nat} {ah : aHp} {st : List Value} {Q : Option Value → aHp → Prop} {a0 : Option Value} : WP E c 116 21 [a0] (st) ah Q = WP E c 116 23 [a0] (.int (20) :: st) ah Q := wp_s i116_21 rfl rfl rfl rfl
theorem i116_23 : insAt 116 23 = some (.newarray .int, 25) := by decide +kernel
theorem r116_23 {E : aEnv} {c : Nat} {ah : aHp} {st : List Value} {Q : Option Value → aHp → Prop} {a0 : Option Value} {x : Int32} : WP E c 116 23 [a0] (.int x :: st) ah Q = WPo (nR E ah 0 (.int x :: st)) (fun q9 => WP E c 116 25 [a0] q9.1 q9.2 Q) := wp_hw i116_23 rfl rfl rfl rfl rfl rfl rfl rfl
theorem i116_25 : insAt 116 25 = some (.putfield 8022, 28) := by decide +kernel
theorem r116_25 {E : aEnv} {c : Nat} {ah : aHp} {st : List Value} {Q : Option Value → aHp → Prop} {a0 : Option Value} {a : Nat} {v : Value} : WP E c 116 25 [a0] (v :: .ref a :: st) ah Q = WPo (oPF (hg E ah a) 8022 v) (fun e => WP E c 116 28 [a0] st (hs E ah a e) Q) := wp_putf i116_25
theorem i116_28 : insAt 116 28 = some (.aload 0, 29) := by decide +kernel
theorem r116_28 {E : aEnv} {c : Nat} {ah : aHp} {st : List Value} {Q : Option Value → aHp → Prop} {x : Nat} : WP E c 116 28 [some (.ref x)] (st) ah Q = WP E c 116 29 [some (.ref x)] (.ref x :: st) ah Q := wp_s i116_28 rfl rfl rfl rfl
theorem i116_29 : insAt 116 29 = some (.iconst 20, 31) := by decide +kernel
theorem r116_29 {E : aEnv} {c : Nat} {ah : aHp} {st : List Value} {Q : Option Value → aHp → Prop} {a0 : Option Value} : WP E c 116 29 [a0] (st) ah Q = WP E c 116 31 [a0] (.int (20) :: st) ah Q := wp_s i116_29 rfl rfl rfl rfl
theorem i116_31 : insAt 116 31 = some (.newarray .int, 33) := by decide +kernel
theorem r116_31 {E : aEnv} {c : Nat} {ah : aHp} {st : List Value} {Q : Option Value → aHp → Prop} {a0 : Option Value} {x : Int32} : WP E c 116 31 [a0] (.int x :: st) ah Q = WPo (nR E ah 0 (.int x :: st)) (fun q9 => WP E c 116 33 [a0] q9.1 q9.2 Q) := wp_hw i116_31 rfl rfl rfl rfl rfl rfl rfl rfl
theorem i116_33 : insAt 116 33 = some (.putfield 8032, 36) := by decide +kernel
theorem r116_33 {E : aEnv} {c : Nat} {ah : aHp} {st : List Value} {Q : Option Value → aHp → Prop} {a0 : Option Value} {a : Nat} {v : Value} : WP E c 116 33 [a0] (v :: .ref a :: st) ah Q = WPo (oPF (hg E ah a) 8032 v) (fun e => WP E c 116 36 [a0] st (hs E ah a e) Q) := wp_putf i116_33
theorem i116_36 : insAt 116 36 = some (.aload 0, 37) := by decide +kernel
theorem r116_36 {E : aEnv} {c : Nat} {ah : aHp} {st : List Value} {Q : Option Value → aHp → Prop} {x : Nat} : WP E c 116 36 [some (.ref x)] (st) ah Q = WP E c 116 37 [some (.ref x)] (.ref x :: st) ah Q := wp_s i116_36 rfl rfl rfl rfl
theorem i116_37 : insAt 116 37 = some (.iconst 60, 39) := by decide +kernel
theorem r116_37 {E : aEnv} {c : Nat} {ah : aHp} {st : List Value} {Q : Option Value → aHp → Prop} {a0 : Option Value} : WP E c 116 37 [a0] (st) ah Q = WP E c 116 39 [a0] (.int (60) :: st) ah Q := wp_s i116_37 rfl rfl rfl rfl
theorem i116_39 : insAt 116 39 = some (.newarray .int, 41) := by decide +kernel
theorem r116_39 {E : aEnv} {c : Nat} {ah : aHp} {st : List Value} {Q : Option Value → aHp → Prop} {a0 : Option Value} {x : Int32} : WP E c 116 39 [a0] (.int x :: st) ah Q = WPo (nR E ah 0 (.int x :: st)) (fun q9 => WP E c 116 41 [a0] q9.1 q9.2 Q) := wp_hw i116_39 rfl rfl rfl rfl rfl rfl rfl rfl
theorem i116_41 : insAt 116 41 = some (.putfield 8042, 44) := by decide +kernel
theorem r116_41 {E : aEnv} {c : Nat} {ah : aHp} {st : List Value} {Q : Option Value → aHp → Prop} {a0 : Option Value} {a : Nat} {v : Value} : WP E c 116 41 [a0] (v :: .ref a :: st) ah Q = WPo (oPF (hg E ah a) 8042 v) (fun e => WP E c 116 44 [a0] st (hs E ah a e) Q) := wp_putf i116_41
theorem i116_44 : insAt 116 44 = some (.aload 0, 45) := by decide +kernel
theorem r116_44 {E : aEnv} {c : Nat} {ah : aHp} {st : List Value} {Q : Option Value → aHp → Prop} {x : Nat} : WP E c 116 44 [some (.ref x)] (st) ah Q = WP E c 116 45 [some (.ref x)] (.ref x :: st) ah Q := wp_s i116_44 rfl rfl rfl rfl
theorem i116_45 : insAt 116 45 = some (.iconst 60, 47) := by decide +kernel
theorem r116_45 {E : aEnv} {c : Nat} {ah : aHp} {st : List Value} {Q : Option Value → aHp → Prop} {a0 : Option Value} : WP E c 116 45 [a0] (st) ah Q = WP E c 116 47 [a0] (.int (60) :: st) ah Q := wp_s i116_45 rfl rfl rfl rfl
theorem i116_47 : insAt 116 47 = some (.newarray .int, 49) := by decide +kernel
theorem r116_47 {E : aEnv} {c : Nat} {ah : aHp} {st : List Value} {Q : Option Value → aHp → Prop} {a0 : Option Value} {x : Int32} : WP E c 116 47 [a0] (.int x :: st) ah Q = WPo (nR E ah 0 (.int x :: st)) (fun q9 => WP E c 116 49 [a0] q9.1 q9.2 Q) := wp_hw i116_47 rfl rfl rfl rfl rfl rfl rfl rfl
theorem i116_49 : insAt 116 49 = some (.putfield 8052, 52) := by decide +kernel
theorem r116_49 {E : aEnv} {c : Nat} {ah : aHp} {st : List Value} {Q : Option Value → aHp → Prop} {a0 : Option Value} {a : Nat} {v : Value} : WP E c 116 49 [a0] (v :: .ref a :: st) ah Q = WPo (oPF (hg E ah a) 8052 v) (fun e => WP E c 116 52 [a0] st (hs E ah a e) Q) := wp_putf i116_49
theorem i116_52 : insAt 116 52 = some (.aload 0, 53) := by decide +kernel
theorem r116_52 {E : aEnv} {c : Nat} {ah : aHp} {st : List Value} {Q : Option Value → aHp → Prop} {x : Nat} : WP E c 116 52 [some (.ref x)] (st) ah Q = WP E c 116 53 [some (.ref x)] (.ref x :: st) ah Q := wp_s i116_52 rfl rfl rfl rfl
theorem i116_53 : insAt 116 53 = some (.iconst 60, 55) := by decide +kernel
theorem r116_53 {E : aEnv} {c : Nat} {ah : aHp} {st : List Value} {Q : Option Value → aHp → Prop} {a0 : Option Value} : WP E c 116 53 [a0] (st) ah Q = WP E c 116 55 [a0] (.int (60) :: st) ah Q := wp_s i116_53 rfl rfl rfl rfl
theorem i116_55 : insAt 116 55 = some (.newarray .int, 57) := by decide +kernel
theorem r116_55 {E : aEnv} {c : Nat} {ah : aHp} {st : List Value} {Q : Option Value → aHp → Prop} {a0 : Option Value} {x : Int32} : WP E c 116 55 [a0] (.int x :: st) ah Q = WPo (nR E ah 0 (.int x :: st)) (fun q9 => WP E c 116 57 [a0] q9.1 q9.2 Q) := wp_hw i116_55 rfl rfl rfl rfl rfl rfl rfl rfl
theorem i116_57 : insAt 116 57 = some (.putfield 8062, 60) := by decide +kernel
theorem r116_57 {E : aEnv} {c : Nat} {ah : aHp} {st : List Value} {Q : Option Value → aHp → Prop} {a0 : Option Value} {a : Nat} {v : Value} : WP E c 116 57 [a0] (v :: .ref a :: st) ah Q = WPo (oPF (hg E ah a) 8062 v) (fun e => WP E c 116 60 [a0] st (hs E ah a e) Q) := wp_putf i116_57
theorem i116_60 : insAt 116 60 = some (.return_, 61) := by decide +kernel
theorem r116_60 {E : aEnv} {c : Nat} {ah : aHp} {Q : Option Value → aHp → Prop} {a0 : Option Value} : WP E c 116 60 [a0] ([]) ah Q = Q none ah := wp_rt i116_60 rfl
theorem e117 {E : aEnv} {c : Nat} {ah ahF : aHp} {r : Option Value} {p0 : Nat} {p1 : Int32} (h : WP E c 117 0 [some (.ref p0), some (.int p1)] [] ah (fun r1 x1 => r1 = r ∧ x1 = ahF)) : EV E c 117 [.ref p0, .int p1] ah r ahF := EV.of (by rw [mr117.2.1]; exact h)
theorem i117_0 : insAt 117 0 = some (.iload 1, 1) := by decide +kernel
theorem r117_0 {E : aEnv} {c : Nat} {ah : aHp} {st : List Value} {Q : Option Value → aHp → Prop} {a0 : Option Value} {x : Int32} : WP E c 117 0 [a0, some (.int x)] (st) ah Q = WP E c 117 1 [a0, some (.int x)] (.int x :: st) ah Q := wp_s i117_0 rfl rfl rfl rfl
theorem i117_1 : insAt 117 1 = some (.ifCond .lt 14, 4) := by decide +kernel
theorem r117_1 {E : aEnv} {c : Nat} {ah : aHp} {st : List Value} {Q : Option Value → aHp → Prop} {a0 a1 : Option Value} {x : Int32} : WP E c 117 1 [a0, a1] (.int x :: st) ah Q = if x < 0 then WP E c 117 14 [a0, a1] st ah Q else WP E c 117 4 [a0, a1] st ah Q := wp_j i117_1 rfl rfl rfl rfl
theorem i117_4 : insAt 117 4 = some (.iload 1, 5) := by decide +kernel
theorem r117_4 {E : aEnv} {c : Nat} {ah : aHp} {st : List Value} {Q : Option Value → aHp → Prop} {a0 : Option Value} {x : Int32} : WP E c 117 4 [a0, some (.int x)] (st) ah Q = WP E c 117 5 [a0, some (.int x)] (.int x :: st) ah Q := wp_s i117_4 rfl rfl rfl rfl
theorem i117_5 : insAt 117 5 = some (.iconst 40, 7) := by decide +kernel
theorem r117_5 {E : aEnv} {c : Nat} {ah : aHp} {st : List Value} {Q : Option Value → aHp → Prop} {a0 a1 : Option Value} : WP E c 117 5 [a0, a1] (st) ah Q = WP E c 117 7 [a0, a1] (.int (40) :: st) ah Q := wp_s i117_5 rfl rfl rfl rfl
theorem i117_7 : insAt 117 7 = some (.if_icmp .ge 14, 10) := by decide +kernel
theorem r117_7 {E : aEnv} {c : Nat} {ah : aHp} {st : List Value} {Q : Option Value → aHp → Prop} {a0 a1 : Option Value} {x y : Int32} : WP E c 117 7 [a0, a1] (.int y :: .int x :: st) ah Q = if y ≤ x then WP E c 117 14 [a0, a1] st ah Q else WP E c 117 10 [a0, a1] st ah Q := wp_j i117_7 rfl rfl rfl rfl
theorem i117_10 : insAt 117 10 = some (.iconst 1, 11) := by decide +kernel
theorem r117_10 {E : aEnv} {c : Nat} {ah : aHp} {st : List Value} {Q : Option Value → aHp → Prop} {a0 a1 : Option Value} : WP E c 117 10 [a0, a1] (st) ah Q = WP E c 117 11 [a0, a1] (.int (1) :: st) ah Q := wp_s i117_10 rfl rfl rfl rfl
theorem i117_11 : insAt 117 11 = some (.goto 15, 14) := by decide +kernel
theorem r117_11 {E : aEnv} {c : Nat} {ah : aHp} {st : List Value} {Q : Option Value → aHp → Prop} {a0 a1 : Option Value} : WP E c 117 11 [a0, a1] (st) ah Q = WP E c 117 15 [a0, a1] st ah Q := wp_s i117_11 rfl rfl rfl rfl
theorem i117_14 : insAt 117 14 = some (.iconst 0, 15) := by decide +kernel
theorem r117_14 {E : aEnv} {c : Nat} {ah : aHp} {st : List Value} {Q : Option Value → aHp → Prop} {a0 a1 : Option Value} : WP E c 117 14 [a0, a1] (st) ah Q = WP E c 117 15 [a0, a1] (.int (0) :: st) ah Q := wp_s i117_14 rfl rfl rfl rfl
theorem i117_15 : insAt 117 15 = some (.freturn, 16) := by decide +kernel
theorem r117_15 {E : aEnv} {c : Nat} {ah : aHp} {Q : Option Value → aHp → Prop} {a0 a1 : Option Value} {x : Int32} (hx : x = 0 ∨ x = 1) : WP E c 117 15 [a0, a1] ([.int x]) ah Q = Q (some (.int x)) ah := wp_rt i117_15 (by simp only [rtA, if_pos hx])
theorem e118 {E : aEnv} {c : Nat} {ah ahF : aHp} {r : Option Value} {p0 : Nat} {p1 : Int32} (h : WP E c 118 0 [some (.ref p0), some (.int p1)] [] ah (fun r1 x1 => r1 = r ∧ x1 = ahF)) : EV E c 118 [.ref p0, .int p1] ah r ahF := EV.of (by rw [mr118.2.1]; exact h)
theorem i118_0 : insAt 118 0 = some (.iload 1, 1) := by decide +kernel
theorem r118_0 {E : aEnv} {c : Nat} {ah : aHp} {st : List Value} {Q : Option Value → aHp → Prop} {a0 : Option Value} {x : Int32} : WP E c 118 0 [a0, some (.int x)] (st) ah Q = WP E c 118 1 [a0, some (.int x)] (.int x :: st) ah Q := wp_s i118_0 rfl rfl rfl rfl
theorem i118_1 : insAt 118 1 = some (.ifCond .lt 15, 4) := by decide +kernel
theorem r118_1 {E : aEnv} {c : Nat} {ah : aHp} {st : List Value} {Q : Option Value → aHp → Prop} {a0 a1 : Option Value} {x : Int32} : WP E c 118 1 [a0, a1] (.int x :: st) ah Q = if x < 0 then WP E c 118 15 [a0, a1] st ah Q else WP E c 118 4 [a0, a1] st ah Q := wp_j i118_1 rfl rfl rfl rfl
theorem i118_4 : insAt 118 4 = some (.iload 1, 5) := by decide +kernel
theorem r118_4 {E : aEnv} {c : Nat} {ah : aHp} {st : List Value} {Q : Option Value → aHp → Prop} {a0 : Option Value} {x : Int32} : WP E c 118 4 [a0, some (.int x)] (st) ah Q = WP E c 118 5 [a0, some (.int x)] (.int x :: st) ah Q := wp_s i118_4 rfl rfl rfl rfl
theorem i118_5 : insAt 118 5 = some (.iconst 9999, 8) := by decide +kernel
theorem r118_5 {E : aEnv} {c : Nat} {ah : aHp} {st : List Value} {Q : Option Value → aHp → Prop} {a0 a1 : Option Value} : WP E c 118 5 [a0, a1] (st) ah Q = WP E c 118 8 [a0, a1] (.int (9999) :: st) ah Q := wp_s i118_5 rfl rfl rfl rfl
theorem i118_8 : insAt 118 8 = some (.if_icmp .gt 15, 11) := by decide +kernel
theorem r118_8 {E : aEnv} {c : Nat} {ah : aHp} {st : List Value} {Q : Option Value → aHp → Prop} {a0 a1 : Option Value} {x y : Int32} : WP E c 118 8 [a0, a1] (.int y :: .int x :: st) ah Q = if y < x then WP E c 118 15 [a0, a1] st ah Q else WP E c 118 11 [a0, a1] st ah Q := wp_j i118_8 rfl rfl rfl rfl
theorem i118_11 : insAt 118 11 = some (.iconst 1, 12) := by decide +kernel
theorem r118_11 {E : aEnv} {c : Nat} {ah : aHp} {st : List Value} {Q : Option Value → aHp → Prop} {a0 a1 : Option Value} : WP E c 118 11 [a0, a1] (st) ah Q = WP E c 118 12 [a0, a1] (.int (1) :: st) ah Q := wp_s i118_11 rfl rfl rfl rfl
theorem i118_12 : insAt 118 12 = some (.goto 16, 15) := by decide +kernel
theorem r118_12 {E : aEnv} {c : Nat} {ah : aHp} {st : List Value} {Q : Option Value → aHp → Prop} {a0 a1 : Option Value} : WP E c 118 12 [a0, a1] (st) ah Q = WP E c 118 16 [a0, a1] st ah Q := wp_s i118_12 rfl rfl rfl rfl
theorem i118_15 : insAt 118 15 = some (.iconst 0, 16) := by decide +kernel
theorem r118_15 {E : aEnv} {c : Nat} {ah : aHp} {st : List Value} {Q : Option Value → aHp → Prop} {a0 a1 : Option Value} : WP E c 118 15 [a0, a1] (st) ah Q = WP E c 118 16 [a0, a1] (.int (0) :: st) ah Q := wp_s i118_15 rfl rfl rfl rfl
theorem i118_16 : insAt 118 16 = some (.freturn, 17) := by decide +kernel
theorem r118_16 {E : aEnv} {c : Nat} {ah : aHp} {Q : Option Value → aHp → Prop} {a0 a1 : Option Value} {x : Int32} (hx : x = 0 ∨ x = 1) : WP E c 118 16 [a0, a1] ([.int x]) ah Q = Q (some (.int x)) ah := wp_rt i118_16 (by simp only [rtA, if_pos hx])
theorem e119 {E : aEnv} {c : Nat} {ah ahF : aHp} {r : Option Value} {p0 : Nat} (h : WP E c 119 0 [some (.ref p0)] [] ah (fun r1 x1 => r1 = r ∧ x1 = ahF)) : EV E c 119 [.ref p0] ah r ahF := EV.of (by rw [mr119.2.1]; exact h)
theorem i119_0 : insAt 119 0 = some (.aload 0, 1) := by decide +kernel
theorem r119_0 {E : aEnv} {c : Nat} {ah : aHp} {st : List Value} {Q : Option Value → aHp → Prop} {x : Nat} : WP E c 119 0 [some (.ref x)] (st) ah Q = WP E c 119 1 [some (.ref x)] (.ref x :: st) ah Q := wp_s i119_0 rfl rfl rfl rfl
theorem i119_1 : insAt 119 1 = some (.getfield 8070, 4) := by decide +kernel
theorem r119_1 {E : aEnv} {c : Nat} {ah : aHp} {st : List Value} {Q : Option Value → aHp → Prop} {a0 : Option Value} {a : Nat} : WP E c 119 1 [a0] (.ref a :: st) ah Q = WPo (oGF (hg E ah a) 8 7) (fun v => WP E c 119 4 [a0] (v :: st) ah Q) := wp_getf i119_1
theorem i119_4 : insAt 119 4 = some (.iconst 100, 6) := by decide +kernel
theorem r119_4 {E : aEnv} {c : Nat} {ah : aHp} {st : List Value} {Q : Option Value → aHp → Prop} {a0 : Option Value} : WP E c 119 4 [a0] (st) ah Q = WP E c 119 6 [a0] (.int (100) :: st) ah Q := wp_s i119_4 rfl rfl rfl rfl
theorem i119_6 : insAt 119 6 = some (.if_icmp .lt 13, 9) := by decide +kernel
theorem r119_6 {E : aEnv} {c : Nat} {ah : aHp} {st : List Value} {Q : Option Value → aHp → Prop} {a0 : Option Value} {x y : Int32} : WP E c 119 6 [a0] (.int y :: .int x :: st) ah Q = if x < y then WP E c 119 13 [a0] st ah Q else WP E c 119 9 [a0] st ah Q := wp_j i119_6 rfl rfl rfl rfl
theorem i119_9 : insAt 119 9 = some (.iconst 1, 10) := by decide +kernel
theorem r119_9 {E : aEnv} {c : Nat} {ah : aHp} {st : List Value} {Q : Option Value → aHp → Prop} {a0 : Option Value} : WP E c 119 9 [a0] (st) ah Q = WP E c 119 10 [a0] (.int (1) :: st) ah Q := wp_s i119_9 rfl rfl rfl rfl
theorem i119_10 : insAt 119 10 = some (.goto 14, 13) := by decide +kernel
theorem r119_10 {E : aEnv} {c : Nat} {ah : aHp} {st : List Value} {Q : Option Value → aHp → Prop} {a0 : Option Value} : WP E c 119 10 [a0] (st) ah Q = WP E c 119 14 [a0] st ah Q := wp_s i119_10 rfl rfl rfl rfl
theorem i119_13 : insAt 119 13 = some (.iconst 0, 14) := by decide +kernel
theorem r119_13 {E : aEnv} {c : Nat} {ah : aHp} {st : List Value} {Q : Option Value → aHp → Prop} {a0 : Option Value} : WP E c 119 13 [a0] (st) ah Q = WP E c 119 14 [a0] (.int (0) :: st) ah Q := wp_s i119_13 rfl rfl rfl rfl
theorem i119_14 : insAt 119 14 = some (.freturn, 15) := by decide +kernel
theorem r119_14 {E : aEnv} {c : Nat} {ah : aHp} {Q : Option Value → aHp → Prop} {a0 : Option Value} {x : Int32} (hx : x = 0 ∨ x = 1) : WP E c 119 14 [a0] ([.int x]) ah Q = Q (some (.int x)) ah := wp_rt i119_14 (by simp only [rtA, if_pos hx])
theorem e120 {E : aEnv} {c : Nat} {ah ahF : aHp} {r : Option Value} {p0 : Nat} (h : WP E c 120 0 [some (.ref p0)] [] ah (fun r1 x1 => r1 = r ∧ x1 = ahF)) : EV E c 120 [.ref p0] ah r ahF := EV.of (by rw [mr120.2.1]; exact h)
theorem i120_0 : insAt 120 0 = some (.aload 0, 1) := by decide +kernel
theorem r120_0 {E : aEnv} {c : Nat} {ah : aHp} {st : List Value} {Q : Option Value → aHp → Prop} {x : Nat} : WP E c 120 0 [some (.ref x)] (st) ah Q = WP E c 120 1 [some (.ref x)] (.ref x :: st) ah Q := wp_s i120_0 rfl rfl rfl rfl
theorem i120_1 : insAt 120 1 = some (.getfield 8090, 4) := by decide +kernel
theorem r120_1 {E : aEnv} {c : Nat} {ah : aHp} {st : List Value} {Q : Option Value → aHp → Prop} {a0 : Option Value} {a : Nat} : WP E c 120 1 [a0] (.ref a :: st) ah Q = WPo (oGF (hg E ah a) 8 9) (fun v => WP E c 120 4 [a0] (v :: st) ah Q) := wp_getf i120_1
theorem i120_4 : insAt 120 4 = some (.iconst 60, 6) := by decide +kernel
theorem r120_4 {E : aEnv} {c : Nat} {ah : aHp} {st : List Value} {Q : Option Value → aHp → Prop} {a0 : Option Value} : WP E c 120 4 [a0] (st) ah Q = WP E c 120 6 [a0] (.int (60) :: st) ah Q := wp_s i120_4 rfl rfl rfl rfl
theorem i120_6 : insAt 120 6 = some (.if_icmp .lt 13, 9) := by decide +kernel
theorem r120_6 {E : aEnv} {c : Nat} {ah : aHp} {st : List Value} {Q : Option Value → aHp → Prop} {a0 : Option Value} {x y : Int32} : WP E c 120 6 [a0] (.int y :: .int x :: st) ah Q = if x < y then WP E c 120 13 [a0] st ah Q else WP E c 120 9 [a0] st ah Q := wp_j i120_6 rfl rfl rfl rfl
theorem i120_9 : insAt 120 9 = some (.iconst 1, 10) := by decide +kernel
theorem r120_9 {E : aEnv} {c : Nat} {ah : aHp} {st : List Value} {Q : Option Value → aHp → Prop} {a0 : Option Value} : WP E c 120 9 [a0] (st) ah Q = WP E c 120 10 [a0] (.int (1) :: st) ah Q := wp_s i120_9 rfl rfl rfl rfl
theorem i120_10 : insAt 120 10 = some (.goto 14, 13) := by decide +kernel
theorem r120_10 {E : aEnv} {c : Nat} {ah : aHp} {st : List Value} {Q : Option Value → aHp → Prop} {a0 : Option Value} : WP E c 120 10 [a0] (st) ah Q = WP E c 120 14 [a0] st ah Q := wp_s i120_10 rfl rfl rfl rfl
theorem i120_13 : insAt 120 13 = some (.iconst 0, 14) := by decide +kernel
theorem r120_13 {E : aEnv} {c : Nat} {ah : aHp} {st : List Value} {Q : Option Value → aHp → Prop} {a0 : Option Value} : WP E c 120 13 [a0] (st) ah Q = WP E c 120 14 [a0] (.int (0) :: st) ah Q := wp_s i120_13 rfl rfl rfl rfl
theorem i120_14 : insAt 120 14 = some (.freturn, 15) := by decide +kernel
theorem r120_14 {E : aEnv} {c : Nat} {ah : aHp} {Q : Option Value → aHp → Prop} {a0 : Option Value} {x : Int32} (hx : x = 0 ∨ x = 1) : WP E c 120 14 [a0] ([.int x]) ah Q = Q (some (.int x)) ah := wp_rt i120_14 (by simp only [rtA, if_pos hx])
theorem e121 {E : aEnv} {c : Nat} {ah ahF : aHp} {r : Option Value} {p0 : Nat} {p1 : Int32} {p2 : Int32} {p3 : Int32} {p4 : Int32} (h : WP E c 121 0 [some (.ref p0), some (.int p1), some (.int p2), some (.int p3), some (.int p4)] [] ah (fun r1 x1 => r1 = r ∧ x1 = ahF)) : EV E c 121 [.ref p0, .int p1, .int p2, .int p3, .int p4] ah r ahF := EV.of (by rw [mr121.2.1]; exact h)
theorem i121_0 : insAt 121 0 = some (.aload 0, 1) := by decide +kernel
theorem r121_0 {E : aEnv} {c : Nat} {ah : aHp} {st : List Value} {Q : Option Value → aHp → Prop} {a1 a2 a3 a4 : Option Value} {x : Nat} : WP E c 121 0 [some (.ref x), a1, a2, a3, a4] (st) ah Q = WP E c 121 1 [some (.ref x), a1, a2, a3, a4] (.ref x :: st) ah Q := wp_s i121_0 rfl rfl rfl rfl
theorem i121_1 : insAt 121 1 = some (.iload 2, 2) := by decide +kernel
theorem r121_1 {E : aEnv} {c : Nat} {ah : aHp} {st : List Value} {Q : Option Value → aHp → Prop} {a0 a1 a3 a4 : Option Value} {x : Int32} : WP E c 121 1 [a0, a1, some (.int x), a3, a4] (st) ah Q = WP E c 121 2 [a0, a1, some (.int x), a3, a4] (.int x :: st) ah Q := wp_s i121_1 rfl rfl rfl rfl
theorem i121_2 : insAt 121 2 = some (.invokevirtual 117, 5) := by decide +kernel
theorem r121_2 {E : aEnv} {c : Nat} {ah ah1 : aHp} {r : Option Value} {st : List Value} {Q : Option Value → aHp → Prop} {a0 a1 a2 a3 a4 : Option Value} {p0 : Nat} {p1 : Int32} (h : EV E c 117 [.ref p0, .int p1] ah r ah1) (h2 : oCI (hg E ah p0) = 8) (h3 : wds st ≤ 8) : WP E (c + 1) 121 2 [a0, a1, a2, a3, a4] (.int p1 :: .ref p0 :: st) ah Q = WP E (c + 1) 121 5 [a0, a1, a2, a3, a4] (r.toList ++ st) ah1 Q := wp_call (As := [.ref p0, .int p1]) i121_2 (fun _ => rfl) rfl mr117.1 (rcv_1 h2 mr117.2.2 (by decide)) h3 (by rw [mr117.2.1]; exact Nat.le_of_ble_eq_true rfl) h
theorem i121_5 : insAt 121 5 = some (.ifCond .ne 10, 8) := by decide +kernel
theorem r121_5 {E : aEnv} {c : Nat} {ah : aHp} {st : List Value} {Q : Option Value → aHp → Prop} {a0 a1 a2 a3 a4 : Option Value} {x : Int32} : WP E c 121 5 [a0, a1, a2, a3, a4] (.int x :: st) ah Q = if ¬ x = 0 then WP E c 121 10 [a0, a1, a2, a3, a4] st ah Q else WP E c 121 8 [a0, a1, a2, a3, a4] st ah Q := wp_j i121_5 rfl rfl rfl rfl
theorem i121_8 : insAt 121 8 = some (.iconst 2, 9) := by decide +kernel
theorem r121_8 {E : aEnv} {c : Nat} {ah : aHp} {st : List Value} {Q : Option Value → aHp → Prop} {a0 a1 a2 a3 a4 : Option Value} : WP E c 121 8 [a0, a1, a2, a3, a4] (st) ah Q = WP E c 121 9 [a0, a1, a2, a3, a4] (.int (2) :: st) ah Q := wp_s i121_8 rfl rfl rfl rfl
theorem i121_9 : insAt 121 9 = some (.ireturn, 10) := by decide +kernel
theorem r121_9 {E : aEnv} {c : Nat} {ah : aHp} {Q : Option Value → aHp → Prop} {a0 a1 a2 a3 a4 : Option Value} {x : Int32} : WP E c 121 9 [a0, a1, a2, a3, a4] ([.int x]) ah Q = Q (some (.int x)) ah := wp_rt i121_9 rfl
theorem i121_10 : insAt 121 10 = some (.aload 0, 11) := by decide +kernel
theorem r121_10 {E : aEnv} {c : Nat} {ah : aHp} {st : List Value} {Q : Option Value → aHp → Prop} {a1 a2 a3 a4 : Option Value} {x : Nat} : WP E c 121 10 [some (.ref x), a1, a2, a3, a4] (st) ah Q = WP E c 121 11 [some (.ref x), a1, a2, a3, a4] (.ref x :: st) ah Q := wp_s i121_10 rfl rfl rfl rfl
theorem i121_11 : insAt 121 11 = some (.iload 1, 12) := by decide +kernel
theorem r121_11 {E : aEnv} {c : Nat} {ah : aHp} {st : List Value} {Q : Option Value → aHp → Prop} {a0 a2 a3 a4 : Option Value} {x : Int32} : WP E c 121 11 [a0, some (.int x), a2, a3, a4] (st) ah Q = WP E c 121 12 [a0, some (.int x), a2, a3, a4] (.int x :: st) ah Q := wp_s i121_11 rfl rfl rfl rfl
theorem i121_12 : insAt 121 12 = some (.invokevirtual 118, 15) := by decide +kernel
theorem r121_12 {E : aEnv} {c : Nat} {ah ah1 : aHp} {r : Option Value} {st : List Value} {Q : Option Value → aHp → Prop} {a0 a1 a2 a3 a4 : Option Value} {p0 : Nat} {p1 : Int32} (h : EV E c 118 [.ref p0, .int p1] ah r ah1) (h2 : oCI (hg E ah p0) = 8) (h3 : wds st ≤ 8) : WP E (c + 1) 121 12 [a0, a1, a2, a3, a4] (.int p1 :: .ref p0 :: st) ah Q = WP E (c + 1) 121 15 [a0, a1, a2, a3, a4] (r.toList ++ st) ah1 Q := wp_call (As := [.ref p0, .int p1]) i121_12 (fun _ => rfl) rfl mr118.1 (rcv_1 h2 mr118.2.2 (by decide)) h3 (by rw [mr118.2.1]; exact Nat.le_of_ble_eq_true rfl) h
theorem i121_15 : insAt 121 15 = some (.ifCond .eq 30, 18) := by decide +kernel
theorem r121_15 {E : aEnv} {c : Nat} {ah : aHp} {st : List Value} {Q : Option Value → aHp → Prop} {a0 a1 a2 a3 a4 : Option Value} {x : Int32} : WP E c 121 15 [a0, a1, a2, a3, a4] (.int x :: st) ah Q = if x = 0 then WP E c 121 30 [a0, a1, a2, a3, a4] st ah Q else WP E c 121 18 [a0, a1, a2, a3, a4] st ah Q := wp_j i121_15 rfl rfl rfl rfl
theorem i121_18 : insAt 121 18 = some (.iload 3, 19) := by decide +kernel
theorem r121_18 {E : aEnv} {c : Nat} {ah : aHp} {st : List Value} {Q : Option Value → aHp → Prop} {a0 a1 a2 a4 : Option Value} {x : Int32} : WP E c 121 18 [a0, a1, a2, some (.int x), a4] (st) ah Q = WP E c 121 19 [a0, a1, a2, some (.int x), a4] (.int x :: st) ah Q := wp_s i121_18 rfl rfl rfl rfl
theorem i121_19 : insAt 121 19 = some (.iconst (-1000000000), 21) := by decide +kernel
theorem r121_19 {E : aEnv} {c : Nat} {ah : aHp} {st : List Value} {Q : Option Value → aHp → Prop} {a0 a1 a2 a3 a4 : Option Value} : WP E c 121 19 [a0, a1, a2, a3, a4] (st) ah Q = WP E c 121 21 [a0, a1, a2, a3, a4] (.int ((-1000000000)) :: st) ah Q := wp_s i121_19 rfl rfl rfl rfl
theorem i121_21 : insAt 121 21 = some (.if_icmp .lt 30, 24) := by decide +kernel
theorem r121_21 {E : aEnv} {c : Nat} {ah : aHp} {st : List Value} {Q : Option Value → aHp → Prop} {a0 a1 a2 a3 a4 : Option Value} {x y : Int32} : WP E c 121 21 [a0, a1, a2, a3, a4] (.int y :: .int x :: st) ah Q = if x < y then WP E c 121 30 [a0, a1, a2, a3, a4] st ah Q else WP E c 121 24 [a0, a1, a2, a3, a4] st ah Q := wp_j i121_21 rfl rfl rfl rfl
theorem i121_24 : insAt 121 24 = some (.iload 3, 25) := by decide +kernel
theorem r121_24 {E : aEnv} {c : Nat} {ah : aHp} {st : List Value} {Q : Option Value → aHp → Prop} {a0 a1 a2 a4 : Option Value} {x : Int32} : WP E c 121 24 [a0, a1, a2, some (.int x), a4] (st) ah Q = WP E c 121 25 [a0, a1, a2, some (.int x), a4] (.int x :: st) ah Q := wp_s i121_24 rfl rfl rfl rfl
theorem i121_25 : insAt 121 25 = some (.iconst 1000000000, 27) := by decide +kernel
theorem r121_25 {E : aEnv} {c : Nat} {ah : aHp} {st : List Value} {Q : Option Value → aHp → Prop} {a0 a1 a2 a3 a4 : Option Value} : WP E c 121 25 [a0, a1, a2, a3, a4] (st) ah Q = WP E c 121 27 [a0, a1, a2, a3, a4] (.int (1000000000) :: st) ah Q := wp_s i121_25 rfl rfl rfl rfl
theorem i121_27 : insAt 121 27 = some (.if_icmp .le 32, 30) := by decide +kernel
theorem r121_27 {E : aEnv} {c : Nat} {ah : aHp} {st : List Value} {Q : Option Value → aHp → Prop} {a0 a1 a2 a3 a4 : Option Value} {x y : Int32} : WP E c 121 27 [a0, a1, a2, a3, a4] (.int y :: .int x :: st) ah Q = if x ≤ y then WP E c 121 32 [a0, a1, a2, a3, a4] st ah Q else WP E c 121 30 [a0, a1, a2, a3, a4] st ah Q := wp_j i121_27 rfl rfl rfl rfl
theorem i121_30 : insAt 121 30 = some (.iconst 5, 31) := by decide +kernel
theorem r121_30 {E : aEnv} {c : Nat} {ah : aHp} {st : List Value} {Q : Option Value → aHp → Prop} {a0 a1 a2 a3 a4 : Option Value} : WP E c 121 30 [a0, a1, a2, a3, a4] (st) ah Q = WP E c 121 31 [a0, a1, a2, a3, a4] (.int (5) :: st) ah Q := wp_s i121_30 rfl rfl rfl rfl
theorem i121_31 : insAt 121 31 = some (.ireturn, 32) := by decide +kernel
theorem r121_31 {E : aEnv} {c : Nat} {ah : aHp} {Q : Option Value → aHp → Prop} {a0 a1 a2 a3 a4 : Option Value} {x : Int32} : WP E c 121 31 [a0, a1, a2, a3, a4] ([.int x]) ah Q = Q (some (.int x)) ah := wp_rt i121_31 rfl
theorem i121_32 : insAt 121 32 = some (.iload 4, 34) := by decide +kernel
theorem r121_32 {E : aEnv} {c : Nat} {ah : aHp} {st : List Value} {Q : Option Value → aHp → Prop} {a0 a1 a2 a3 : Option Value} {x : Int32} : WP E c 121 32 [a0, a1, a2, a3, some (.int x)] (st) ah Q = WP E c 121 34 [a0, a1, a2, a3, some (.int x)] (.int x :: st) ah Q := wp_s i121_32 rfl rfl rfl rfl
theorem i121_34 : insAt 121 34 = some (.ifCond .eq 40, 37) := by decide +kernel
theorem r121_34 {E : aEnv} {c : Nat} {ah : aHp} {st : List Value} {Q : Option Value → aHp → Prop} {a0 a1 a2 a3 a4 : Option Value} {x : Int32} : WP E c 121 34 [a0, a1, a2, a3, a4] (.int x :: st) ah Q = if x = 0 then WP E c 121 40 [a0, a1, a2, a3, a4] st ah Q else WP E c 121 37 [a0, a1, a2, a3, a4] st ah Q := wp_j i121_34 rfl rfl rfl rfl
theorem i121_37 : insAt 121 37 = some (.iconst 7, 39) := by decide +kernel
theorem r121_37 {E : aEnv} {c : Nat} {ah : aHp} {st : List Value} {Q : Option Value → aHp → Prop} {a0 a1 a2 a3 a4 : Option Value} : WP E c 121 37 [a0, a1, a2, a3, a4] (st) ah Q = WP E c 121 39 [a0, a1, a2, a3, a4] (.int (7) :: st) ah Q := wp_s i121_37 rfl rfl rfl rfl
theorem i121_39 : insAt 121 39 = some (.ireturn, 40) := by decide +kernel
theorem r121_39 {E : aEnv} {c : Nat} {ah : aHp} {Q : Option Value → aHp → Prop} {a0 a1 a2 a3 a4 : Option Value} {x : Int32} : WP E c 121 39 [a0, a1, a2, a3, a4] ([.int x]) ah Q = Q (some (.int x)) ah := wp_rt i121_39 rfl
theorem i121_40 : insAt 121 40 = some (.iload 1, 41) := by decide +kernel
theorem r121_40 {E : aEnv} {c : Nat} {ah : aHp} {st : List Value} {Q : Option Value → aHp → Prop} {a0 a2 a3 a4 : Option Value} {x : Int32} : WP E c 121 40 [a0, some (.int x), a2, a3, a4] (st) ah Q = WP E c 121 41 [a0, some (.int x), a2, a3, a4] (.int x :: st) ah Q := wp_s i121_40 rfl rfl rfl rfl
theorem i121_41 : insAt 121 41 = some (.aload 0, 42) := by decide +kernel
theorem r121_41 {E : aEnv} {c : Nat} {ah : aHp} {st : List Value} {Q : Option Value → aHp → Prop} {a1 a2 a3 a4 : Option Value} {x : Nat} : WP E c 121 41 [some (.ref x), a1, a2, a3, a4] (st) ah Q = WP E c 121 42 [some (.ref x), a1, a2, a3, a4] (.ref x :: st) ah Q := wp_s i121_41 rfl rfl rfl rfl
theorem i121_42 : insAt 121 42 = some (.getfield 8100, 45) := by decide +kernel
theorem r121_42 {E : aEnv} {c : Nat} {ah : aHp} {st : List Value} {Q : Option Value → aHp → Prop} {a0 a1 a2 a3 a4 : Option Value} {a : Nat} : WP E c 121 42 [a0, a1, a2, a3, a4] (.ref a :: st) ah Q = WPo (oGF (hg E ah a) 8 10) (fun v => WP E c 121 45 [a0, a1, a2, a3, a4] (v :: st) ah Q) := wp_getf i121_42
theorem i121_45 : insAt 121 45 = some (.if_icmp .ge 53, 48) := by decide +kernel
theorem r121_45 {E : aEnv} {c : Nat} {ah : aHp} {st : List Value} {Q : Option Value → aHp → Prop} {a0 a1 a2 a3 a4 : Option Value} {x y : Int32} : WP E c 121 45 [a0, a1, a2, a3, a4] (.int y :: .int x :: st) ah Q = if y ≤ x then WP E c 121 53 [a0, a1, a2, a3, a4] st ah Q else WP E c 121 48 [a0, a1, a2, a3, a4] st ah Q := wp_j i121_45 rfl rfl rfl rfl
theorem i121_48 : insAt 121 48 = some (.iconst 12, 50) := by decide +kernel
theorem r121_48 {E : aEnv} {c : Nat} {ah : aHp} {st : List Value} {Q : Option Value → aHp → Prop} {a0 a1 a2 a3 a4 : Option Value} : WP E c 121 48 [a0, a1, a2, a3, a4] (st) ah Q = WP E c 121 50 [a0, a1, a2, a3, a4] (.int (12) :: st) ah Q := wp_s i121_48 rfl rfl rfl rfl
theorem i121_50 : insAt 121 50 = some (.goto 54, 53) := by decide +kernel
theorem r121_50 {E : aEnv} {c : Nat} {ah : aHp} {st : List Value} {Q : Option Value → aHp → Prop} {a0 a1 a2 a3 a4 : Option Value} : WP E c 121 50 [a0, a1, a2, a3, a4] (st) ah Q = WP E c 121 54 [a0, a1, a2, a3, a4] st ah Q := wp_s i121_50 rfl rfl rfl rfl
theorem i121_53 : insAt 121 53 = some (.iconst 0, 54) := by decide +kernel
theorem r121_53 {E : aEnv} {c : Nat} {ah : aHp} {st : List Value} {Q : Option Value → aHp → Prop} {a0 a1 a2 a3 a4 : Option Value} : WP E c 121 53 [a0, a1, a2, a3, a4] (st) ah Q = WP E c 121 54 [a0, a1, a2, a3, a4] (.int (0) :: st) ah Q := wp_s i121_53 rfl rfl rfl rfl
theorem i121_54 : insAt 121 54 = some (.ireturn, 55) := by decide +kernel
theorem r121_54 {E : aEnv} {c : Nat} {ah : aHp} {Q : Option Value → aHp → Prop} {a0 a1 a2 a3 a4 : Option Value} {x : Int32} : WP E c 121 54 [a0, a1, a2, a3, a4] ([.int x]) ah Q = Q (some (.int x)) ah := wp_rt i121_54 rfl
theorem e122 {E : aEnv} {c : Nat} {ah ahF : aHp} {r : Option Value} {p0 : Nat} {p1 : Int32} {p2 : Int32} (h : WP E c 122 0 [some (.ref p0), some (.int p1), some (.int p2)] [] ah (fun r1 x1 => r1 = r ∧ x1 = ahF)) : EV E c 122 [.ref p0, .int p1, .int p2] ah r ahF := EV.of (by rw [mr122.2.1]; exact h)
theorem i122_0 : insAt 122 0 = some (.aload 0, 1) := by decide +kernel
theorem r122_0 {E : aEnv} {c : Nat} {ah : aHp} {st : List Value} {Q : Option Value → aHp → Prop} {a1 a2 : Option Value} {x : Nat} : WP E c 122 0 [some (.ref x), a1, a2] (st) ah Q = WP E c 122 1 [some (.ref x), a1, a2] (.ref x :: st) ah Q := wp_s i122_0 rfl rfl rfl rfl
theorem i122_1 : insAt 122 1 = some (.iload 1, 2) := by decide +kernel
theorem r122_1 {E : aEnv} {c : Nat} {ah : aHp} {st : List Value} {Q : Option Value → aHp → Prop} {a0 a2 : Option Value} {x : Int32} : WP E c 122 1 [a0, some (.int x), a2] (st) ah Q = WP E c 122 2 [a0, some (.int x), a2] (.int x :: st) ah Q := wp_s i122_1 rfl rfl rfl rfl
theorem i122_2 : insAt 122 2 = some (.invokevirtual 118, 5) := by decide +kernel
theorem r122_2 {E : aEnv} {c : Nat} {ah ah1 : aHp} {r : Option Value} {st : List Value} {Q : Option Value → aHp → Prop} {a0 a1 a2 : Option Value} {p0 : Nat} {p1 : Int32} (h : EV E c 118 [.ref p0, .int p1] ah r ah1) (h2 : oCI (hg E ah p0) = 8) (h3 : wds st ≤ 8) : WP E (c + 1) 122 2 [a0, a1, a2] (.int p1 :: .ref p0 :: st) ah Q = WP E (c + 1) 122 5 [a0, a1, a2] (r.toList ++ st) ah1 Q := wp_call (As := [.ref p0, .int p1]) i122_2 (fun _ => rfl) rfl mr118.1 (rcv_1 h2 mr118.2.2 (by decide)) h3 (by rw [mr118.2.1]; exact Nat.le_of_ble_eq_true rfl) h
theorem i122_5 : insAt 122 5 = some (.ifCond .eq 20, 8) := by decide +kernel
theorem r122_5 {E : aEnv} {c : Nat} {ah : aHp} {st : List Value} {Q : Option Value → aHp → Prop} {a0 a1 a2 : Option Value} {x : Int32} : WP E c 122 5 [a0, a1, a2] (.int x :: st) ah Q = if x = 0 then WP E c 122 20 [a0, a1, a2] st ah Q else WP E c 122 8 [a0, a1, a2] st ah Q := wp_j i122_5 rfl rfl rfl rfl
theorem i122_8 : insAt 122 8 = some (.iload 2, 9) := by decide +kernel
theorem r122_8 {E : aEnv} {c : Nat} {ah : aHp} {st : List Value} {Q : Option Value → aHp → Prop} {a0 a1 : Option Value} {x : Int32} : WP E c 122 8 [a0, a1, some (.int x)] (st) ah Q = WP E c 122 9 [a0, a1, some (.int x)] (.int x :: st) ah Q := wp_s i122_8 rfl rfl rfl rfl
theorem i122_9 : insAt 122 9 = some (.iconst 1, 10) := by decide +kernel
theorem r122_9 {E : aEnv} {c : Nat} {ah : aHp} {st : List Value} {Q : Option Value → aHp → Prop} {a0 a1 a2 : Option Value} : WP E c 122 9 [a0, a1, a2] (st) ah Q = WP E c 122 10 [a0, a1, a2] (.int (1) :: st) ah Q := wp_s i122_9 rfl rfl rfl rfl
theorem i122_10 : insAt 122 10 = some (.if_icmp .lt 20, 13) := by decide +kernel
theorem r122_10 {E : aEnv} {c : Nat} {ah : aHp} {st : List Value} {Q : Option Value → aHp → Prop} {a0 a1 a2 : Option Value} {x y : Int32} : WP E c 122 10 [a0, a1, a2] (.int y :: .int x :: st) ah Q = if x < y then WP E c 122 20 [a0, a1, a2] st ah Q else WP E c 122 13 [a0, a1, a2] st ah Q := wp_j i122_10 rfl rfl rfl rfl
theorem i122_13 : insAt 122 13 = some (.iload 2, 14) := by decide +kernel
theorem r122_13 {E : aEnv} {c : Nat} {ah : aHp} {st : List Value} {Q : Option Value → aHp → Prop} {a0 a1 : Option Value} {x : Int32} : WP E c 122 13 [a0, a1, some (.int x)] (st) ah Q = WP E c 122 14 [a0, a1, some (.int x)] (.int x :: st) ah Q := wp_s i122_13 rfl rfl rfl rfl
theorem i122_14 : insAt 122 14 = some (.iconst 1000, 17) := by decide +kernel
theorem r122_14 {E : aEnv} {c : Nat} {ah : aHp} {st : List Value} {Q : Option Value → aHp → Prop} {a0 a1 a2 : Option Value} : WP E c 122 14 [a0, a1, a2] (st) ah Q = WP E c 122 17 [a0, a1, a2] (.int (1000) :: st) ah Q := wp_s i122_14 rfl rfl rfl rfl
theorem i122_17 : insAt 122 17 = some (.if_icmp .le 22, 20) := by decide +kernel
theorem r122_17 {E : aEnv} {c : Nat} {ah : aHp} {st : List Value} {Q : Option Value → aHp → Prop} {a0 a1 a2 : Option Value} {x y : Int32} : WP E c 122 17 [a0, a1, a2] (.int y :: .int x :: st) ah Q = if x ≤ y then WP E c 122 22 [a0, a1, a2] st ah Q else WP E c 122 20 [a0, a1, a2] st ah Q := wp_j i122_17 rfl rfl rfl rfl
theorem i122_20 : insAt 122 20 = some (.iconst 5, 21) := by decide +kernel
theorem r122_20 {E : aEnv} {c : Nat} {ah : aHp} {st : List Value} {Q : Option Value → aHp → Prop} {a0 a1 a2 : Option Value} : WP E c 122 20 [a0, a1, a2] (st) ah Q = WP E c 122 21 [a0, a1, a2] (.int (5) :: st) ah Q := wp_s i122_20 rfl rfl rfl rfl
theorem i122_21 : insAt 122 21 = some (.ireturn, 22) := by decide +kernel
theorem r122_21 {E : aEnv} {c : Nat} {ah : aHp} {Q : Option Value → aHp → Prop} {a0 a1 a2 : Option Value} {x : Int32} : WP E c 122 21 [a0, a1, a2] ([.int x]) ah Q = Q (some (.int x)) ah := wp_rt i122_21 rfl
theorem i122_22 : insAt 122 22 = some (.aload 0, 23) := by decide +kernel
theorem r122_22 {E : aEnv} {c : Nat} {ah : aHp} {st : List Value} {Q : Option Value → aHp → Prop} {a1 a2 : Option Value} {x : Nat} : WP E c 122 22 [some (.ref x), a1, a2] (st) ah Q = WP E c 122 23 [some (.ref x), a1, a2] (.ref x :: st) ah Q := wp_s i122_22 rfl rfl rfl rfl
theorem i122_23 : insAt 122 23 = some (.getfield 8080, 26) := by decide +kernel
theorem r122_23 {E : aEnv} {c : Nat} {ah : aHp} {st : List Value} {Q : Option Value → aHp → Prop} {a0 a1 a2 : Option Value} {a : Nat} : WP E c 122 23 [a0, a1, a2] (.ref a :: st) ah Q = WPo (oGF (hg E ah a) 8 8) (fun v => WP E c 122 26 [a0, a1, a2] (v :: st) ah Q) := wp_getf i122_23
theorem i122_26 : insAt 122 26 = some (.iconst 20, 28) := by decide +kernel
theorem r122_26 {E : aEnv} {c : Nat} {ah : aHp} {st : List Value} {Q : Option Value → aHp → Prop} {a0 a1 a2 : Option Value} : WP E c 122 26 [a0, a1, a2] (st) ah Q = WP E c 122 28 [a0, a1, a2] (.int (20) :: st) ah Q := wp_s i122_26 rfl rfl rfl rfl
theorem i122_28 : insAt 122 28 = some (.if_icmp .lt 34, 31) := by decide +kernel
theorem r122_28 {E : aEnv} {c : Nat} {ah : aHp} {st : List Value} {Q : Option Value → aHp → Prop} {a0 a1 a2 : Option Value} {x y : Int32} : WP E c 122 28 [a0, a1, a2] (.int y :: .int x :: st) ah Q = if x < y then WP E c 122 34 [a0, a1, a2] st ah Q else WP E c 122 31 [a0, a1, a2] st ah Q := wp_j i122_28 rfl rfl rfl rfl
theorem i122_31 : insAt 122 31 = some (.iconst 7, 33) := by decide +kernel
theorem r122_31 {E : aEnv} {c : Nat} {ah : aHp} {st : List Value} {Q : Option Value → aHp → Prop} {a0 a1 a2 : Option Value} : WP E c 122 31 [a0, a1, a2] (st) ah Q = WP E c 122 33 [a0, a1, a2] (.int (7) :: st) ah Q := wp_s i122_31 rfl rfl rfl rfl
theorem i122_33 : insAt 122 33 = some (.ireturn, 34) := by decide +kernel
theorem r122_33 {E : aEnv} {c : Nat} {ah : aHp} {Q : Option Value → aHp → Prop} {a0 a1 a2 : Option Value} {x : Int32} : WP E c 122 33 [a0, a1, a2] ([.int x]) ah Q = Q (some (.int x)) ah := wp_rt i122_33 rfl
theorem i122_34 : insAt 122 34 = some (.iload 1, 35) := by decide +kernel
theorem r122_34 {E : aEnv} {c : Nat} {ah : aHp} {st : List Value} {Q : Option Value → aHp → Prop} {a0 a2 : Option Value} {x : Int32} : WP E c 122 34 [a0, some (.int x), a2] (st) ah Q = WP E c 122 35 [a0, some (.int x), a2] (.int x :: st) ah Q := wp_s i122_34 rfl rfl rfl rfl
theorem i122_35 : insAt 122 35 = some (.aload 0, 36) := by decide +kernel
theorem r122_35 {E : aEnv} {c : Nat} {ah : aHp} {st : List Value} {Q : Option Value → aHp → Prop} {a1 a2 : Option Value} {x : Nat} : WP E c 122 35 [some (.ref x), a1, a2] (st) ah Q = WP E c 122 36 [some (.ref x), a1, a2] (.ref x :: st) ah Q := wp_s i122_35 rfl rfl rfl rfl
theorem i122_36 : insAt 122 36 = some (.getfield 8100, 39) := by decide +kernel
theorem r122_36 {E : aEnv} {c : Nat} {ah : aHp} {st : List Value} {Q : Option Value → aHp → Prop} {a0 a1 a2 : Option Value} {a : Nat} : WP E c 122 36 [a0, a1, a2] (.ref a :: st) ah Q = WPo (oGF (hg E ah a) 8 10) (fun v => WP E c 122 39 [a0, a1, a2] (v :: st) ah Q) := wp_getf i122_36
theorem i122_39 : insAt 122 39 = some (.if_icmp .ge 47, 42) := by decide +kernel
theorem r122_39 {E : aEnv} {c : Nat} {ah : aHp} {st : List Value} {Q : Option Value → aHp → Prop} {a0 a1 a2 : Option Value} {x y : Int32} : WP E c 122 39 [a0, a1, a2] (.int y :: .int x :: st) ah Q = if y ≤ x then WP E c 122 47 [a0, a1, a2] st ah Q else WP E c 122 42 [a0, a1, a2] st ah Q := wp_j i122_39 rfl rfl rfl rfl
theorem i122_42 : insAt 122 42 = some (.iconst 12, 44) := by decide +kernel
theorem r122_42 {E : aEnv} {c : Nat} {ah : aHp} {st : List Value} {Q : Option Value → aHp → Prop} {a0 a1 a2 : Option Value} : WP E c 122 42 [a0, a1, a2] (st) ah Q = WP E c 122 44 [a0, a1, a2] (.int (12) :: st) ah Q := wp_s i122_42 rfl rfl rfl rfl
theorem i122_44 : insAt 122 44 = some (.goto 48, 47) := by decide +kernel
theorem r122_44 {E : aEnv} {c : Nat} {ah : aHp} {st : List Value} {Q : Option Value → aHp → Prop} {a0 a1 a2 : Option Value} : WP E c 122 44 [a0, a1, a2] (st) ah Q = WP E c 122 48 [a0, a1, a2] st ah Q := wp_s i122_44 rfl rfl rfl rfl
theorem i122_47 : insAt 122 47 = some (.iconst 0, 48) := by decide +kernel
theorem r122_47 {E : aEnv} {c : Nat} {ah : aHp} {st : List Value} {Q : Option Value → aHp → Prop} {a0 a1 a2 : Option Value} : WP E c 122 47 [a0, a1, a2] (st) ah Q = WP E c 122 48 [a0, a1, a2] (.int (0) :: st) ah Q := wp_s i122_47 rfl rfl rfl rfl
theorem i122_48 : insAt 122 48 = some (.ireturn, 49) := by decide +kernel
theorem r122_48 {E : aEnv} {c : Nat} {ah : aHp} {Q : Option Value → aHp → Prop} {a0 a1 a2 : Option Value} {x : Int32} : WP E c 122 48 [a0, a1, a2] ([.int x]) ah Q = Q (some (.int x)) ah := wp_rt i122_48 rfl
theorem e123 {E : aEnv} {c : Nat} {ah ahF : aHp} {r : Option Value} {p0 : Nat} {p1 : Int32} {p2 : Int32} {p3 : Int32} (h : WP E c 123 0 [some (.ref p0), some (.int p1), some (.int p2), some (.int p3)] [] ah (fun r1 x1 => r1 = r ∧ x1 = ahF)) : EV E c 123 [.ref p0, .int p1, .int p2, .int p3] ah r ahF := EV.of (by rw [mr123.2.1]; exact h)
theorem i123_0 : insAt 123 0 = some (.aload 0, 1) := by decide +kernel
theorem r123_0 {E : aEnv} {c : Nat} {ah : aHp} {st : List Value} {Q : Option Value → aHp → Prop} {a1 a2 a3 : Option Value} {x : Nat} : WP E c 123 0 [some (.ref x), a1, a2, a3] (st) ah Q = WP E c 123 1 [some (.ref x), a1, a2, a3] (.ref x :: st) ah Q := wp_s i123_0 rfl rfl rfl rfl
theorem i123_1 : insAt 123 1 = some (.invokevirtual 119, 4) := by decide +kernel
theorem r123_1 {E : aEnv} {c : Nat} {ah ah1 : aHp} {r : Option Value} {st : List Value} {Q : Option Value → aHp → Prop} {a0 a1 a2 a3 : Option Value} {p0 : Nat} (h : EV E c 119 [.ref p0] ah r ah1) (h2 : oCI (hg E ah p0) = 8) (h3 : wds st ≤ 8) : WP E (c + 1) 123 1 [a0, a1, a2, a3] (.ref p0 :: st) ah Q = WP E (c + 1) 123 4 [a0, a1, a2, a3] (r.toList ++ st) ah1 Q := wp_call (As := [.ref p0]) i123_1 (fun _ => rfl) rfl mr119.1 (rcv_1 h2 mr119.2.2 (by decide)) h3 (by rw [mr119.2.1]; exact Nat.le_of_ble_eq_true rfl) h
theorem i123_4 : insAt 123 4 = some (.ifCond .eq 8, 7) := by decide +kernel
theorem r123_4 {E : aEnv} {c : Nat} {ah : aHp} {st : List Value} {Q : Option Value → aHp → Prop} {a0 a1 a2 a3 : Option Value} {x : Int32} : WP E c 123 4 [a0, a1, a2, a3] (.int x :: st) ah Q = if x = 0 then WP E c 123 8 [a0, a1, a2, a3] st ah Q else WP E c 123 7 [a0, a1, a2, a3] st ah Q := wp_j i123_4 rfl rfl rfl rfl
theorem i123_7 : insAt 123 7 = some (.return_, 8) := by decide +kernel
theorem r123_7 {E : aEnv} {c : Nat} {ah : aHp} {Q : Option Value → aHp → Prop} {a0 a1 a2 a3 : Option Value} : WP E c 123 7 [a0, a1, a2, a3] ([]) ah Q = Q none ah := wp_rt i123_7 rfl
theorem i123_8 : insAt 123 8 = some (.aload 0, 9) := by decide +kernel
theorem r123_8 {E : aEnv} {c : Nat} {ah : aHp} {st : List Value} {Q : Option Value → aHp → Prop} {a1 a2 a3 : Option Value} {x : Nat} : WP E c 123 8 [some (.ref x), a1, a2, a3] (st) ah Q = WP E c 123 9 [some (.ref x), a1, a2, a3] (.ref x :: st) ah Q := wp_s i123_8 rfl rfl rfl rfl
theorem i123_9 : insAt 123 9 = some (.iload 1, 10) := by decide +kernel
theorem r123_9 {E : aEnv} {c : Nat} {ah : aHp} {st : List Value} {Q : Option Value → aHp → Prop} {a0 a2 a3 : Option Value} {x : Int32} : WP E c 123 9 [a0, some (.int x), a2, a3] (st) ah Q = WP E c 123 10 [a0, some (.int x), a2, a3] (.int x :: st) ah Q := wp_s i123_9 rfl rfl rfl rfl
theorem i123_10 : insAt 123 10 = some (.putfield 8100, 13) := by decide +kernel
theorem r123_10 {E : aEnv} {c : Nat} {ah : aHp} {st : List Value} {Q : Option Value → aHp → Prop} {a0 a1 a2 a3 : Option Value} {a : Nat} {v : Value} : WP E c 123 10 [a0, a1, a2, a3] (v :: .ref a :: st) ah Q = WPo (oPF (hg E ah a) 8100 v) (fun e => WP E c 123 13 [a0, a1, a2, a3] st (hs E ah a e) Q) := wp_putf i123_10
theorem i123_13 : insAt 123 13 = some (.aload 0, 14) := by decide +kernel
theorem r123_13 {E : aEnv} {c : Nat} {ah : aHp} {st : List Value} {Q : Option Value → aHp → Prop} {a1 a2 a3 : Option Value} {x : Nat} : WP E c 123 13 [some (.ref x), a1, a2, a3] (st) ah Q = WP E c 123 14 [some (.ref x), a1, a2, a3] (.ref x :: st) ah Q := wp_s i123_13 rfl rfl rfl rfl
theorem i123_14 : insAt 123 14 = some (.getfield 8002, 17) := by decide +kernel
theorem r123_14 {E : aEnv} {c : Nat} {ah : aHp} {st : List Value} {Q : Option Value → aHp → Prop} {a0 a1 a2 a3 : Option Value} {a : Nat} : WP E c 123 14 [a0, a1, a2, a3] (.ref a :: st) ah Q = WPo (oGF (hg E ah a) 8 0) (fun v => WP E c 123 17 [a0, a1, a2, a3] (v :: st) ah Q) := wp_getf i123_14
theorem i123_17 : insAt 123 17 = some (.aload 0, 18) := by decide +kernel
theorem r123_17 {E : aEnv} {c : Nat} {ah : aHp} {st : List Value} {Q : Option Value → aHp → Prop} {a1 a2 a3 : Option Value} {x : Nat} : WP E c 123 17 [some (.ref x), a1, a2, a3] (st) ah Q = WP E c 123 18 [some (.ref x), a1, a2, a3] (.ref x :: st) ah Q := wp_s i123_17 rfl rfl rfl rfl
theorem i123_18 : insAt 123 18 = some (.getfield 8070, 21) := by decide +kernel
theorem r123_18 {E : aEnv} {c : Nat} {ah : aHp} {st : List Value} {Q : Option Value → aHp → Prop} {a0 a1 a2 a3 : Option Value} {a : Nat} : WP E c 123 18 [a0, a1, a2, a3] (.ref a :: st) ah Q = WPo (oGF (hg E ah a) 8 7) (fun v => WP E c 123 21 [a0, a1, a2, a3] (v :: st) ah Q) := wp_getf i123_18
theorem i123_21 : insAt 123 21 = some (.iload 2, 22) := by decide +kernel
theorem r123_21 {E : aEnv} {c : Nat} {ah : aHp} {st : List Value} {Q : Option Value → aHp → Prop} {a0 a1 a3 : Option Value} {x : Int32} : WP E c 123 21 [a0, a1, some (.int x), a3] (st) ah Q = WP E c 123 22 [a0, a1, some (.int x), a3] (.int x :: st) ah Q := wp_s i123_21 rfl rfl rfl rfl
theorem i123_22 : insAt 123 22 = some (.iastore, 23) := by decide +kernel
theorem r123_22 {E : aEnv} {c : Nat} {ah : aHp} {st : List Value} {Q : Option Value → aHp → Prop} {a0 a1 a2 a3 : Option Value} {x : Int32} {i : Int32} {a : Nat} : WP E c 123 22 [a0, a1, a2, a3] (.int x :: .int i :: .ref a :: st) ah Q = WPo (pI E ah (.int x :: .int i :: .ref a :: st)) (fun q9 => WP E c 123 23 [a0, a1, a2, a3] q9.1 q9.2 Q) := wp_hw i123_22 rfl rfl rfl rfl rfl rfl rfl rfl
theorem i123_23 : insAt 123 23 = some (.aload 0, 24) := by decide +kernel
theorem r123_23 {E : aEnv} {c : Nat} {ah : aHp} {st : List Value} {Q : Option Value → aHp → Prop} {a1 a2 a3 : Option Value} {x : Nat} : WP E c 123 23 [some (.ref x), a1, a2, a3] (st) ah Q = WP E c 123 24 [some (.ref x), a1, a2, a3] (.ref x :: st) ah Q := wp_s i123_23 rfl rfl rfl rfl
theorem i123_24 : insAt 123 24 = some (.getfield 8012, 27) := by decide +kernel
theorem r123_24 {E : aEnv} {c : Nat} {ah : aHp} {st : List Value} {Q : Option Value → aHp → Prop} {a0 a1 a2 a3 : Option Value} {a : Nat} : WP E c 123 24 [a0, a1, a2, a3] (.ref a :: st) ah Q = WPo (oGF (hg E ah a) 8 1) (fun v => WP E c 123 27 [a0, a1, a2, a3] (v :: st) ah Q) := wp_getf i123_24
theorem i123_27 : insAt 123 27 = some (.aload 0, 28) := by decide +kernel
theorem r123_27 {E : aEnv} {c : Nat} {ah : aHp} {st : List Value} {Q : Option Value → aHp → Prop} {a1 a2 a3 : Option Value} {x : Nat} : WP E c 123 27 [some (.ref x), a1, a2, a3] (st) ah Q = WP E c 123 28 [some (.ref x), a1, a2, a3] (.ref x :: st) ah Q := wp_s i123_27 rfl rfl rfl rfl
theorem i123_28 : insAt 123 28 = some (.getfield 8070, 31) := by decide +kernel
theorem r123_28 {E : aEnv} {c : Nat} {ah : aHp} {st : List Value} {Q : Option Value → aHp → Prop} {a0 a1 a2 a3 : Option Value} {a : Nat} : WP E c 123 28 [a0, a1, a2, a3] (.ref a :: st) ah Q = WPo (oGF (hg E ah a) 8 7) (fun v => WP E c 123 31 [a0, a1, a2, a3] (v :: st) ah Q) := wp_getf i123_28
theorem i123_31 : insAt 123 31 = some (.iload 3, 32) := by decide +kernel
theorem r123_31 {E : aEnv} {c : Nat} {ah : aHp} {st : List Value} {Q : Option Value → aHp → Prop} {a0 a1 a2 : Option Value} {x : Int32} : WP E c 123 31 [a0, a1, a2, some (.int x)] (st) ah Q = WP E c 123 32 [a0, a1, a2, some (.int x)] (.int x :: st) ah Q := wp_s i123_31 rfl rfl rfl rfl
theorem i123_32 : insAt 123 32 = some (.iastore, 33) := by decide +kernel
theorem r123_32 {E : aEnv} {c : Nat} {ah : aHp} {st : List Value} {Q : Option Value → aHp → Prop} {a0 a1 a2 a3 : Option Value} {x : Int32} {i : Int32} {a : Nat} : WP E c 123 32 [a0, a1, a2, a3] (.int x :: .int i :: .ref a :: st) ah Q = WPo (pI E ah (.int x :: .int i :: .ref a :: st)) (fun q9 => WP E c 123 33 [a0, a1, a2, a3] q9.1 q9.2 Q) := wp_hw i123_32 rfl rfl rfl rfl rfl rfl rfl rfl
theorem i123_33 : insAt 123 33 = some (.aload 0, 34) := by decide +kernel
theorem r123_33 {E : aEnv} {c : Nat} {ah : aHp} {st : List Value} {Q : Option Value → aHp → Prop} {a1 a2 a3 : Option Value} {x : Nat} : WP E c 123 33 [some (.ref x), a1, a2, a3] (st) ah Q = WP E c 123 34 [some (.ref x), a1, a2, a3] (.ref x :: st) ah Q := wp_s i123_33 rfl rfl rfl rfl
theorem i123_34 : insAt 123 34 = some (.dup, 35) := by decide +kernel
theorem r123_34 {E : aEnv} {c : Nat} {ah : aHp} {st : List Value} {Q : Option Value → aHp → Prop} {a0 a1 a2 a3 : Option Value} {x : Nat} : WP E c 123 34 [a0, a1, a2, a3] (.ref x :: st) ah Q = WP E c 123 35 [a0, a1, a2, a3] (.ref x :: .ref x :: st) ah Q := wp_s i123_34 rfl rfl rfl rfl
theorem r123_34i {E : aEnv} {c : Nat} {ah : aHp} {st : List Value} {Q : Option Value → aHp → Prop} {a0 a1 a2 a3 : Option Value} {x : Int32} : WP E c 123 34 [a0, a1, a2, a3] (.int x :: st) ah Q = WP E c 123 35 [a0, a1, a2, a3] (.int x :: .int x :: st) ah Q := wp_s i123_34 rfl rfl rfl rfl
theorem i123_35 : insAt 123 35 = some (.getfield 8070, 38) := by decide +kernel
theorem r123_35 {E : aEnv} {c : Nat} {ah : aHp} {st : List Value} {Q : Option Value → aHp → Prop} {a0 a1 a2 a3 : Option Value} {a : Nat} : WP E c 123 35 [a0, a1, a2, a3] (.ref a :: st) ah Q = WPo (oGF (hg E ah a) 8 7) (fun v => WP E c 123 38 [a0, a1, a2, a3] (v :: st) ah Q) := wp_getf i123_35
theorem i123_38 : insAt 123 38 = some (.iconst 1, 39) := by decide +kernel
theorem r123_38 {E : aEnv} {c : Nat} {ah : aHp} {st : List Value} {Q : Option Value → aHp → Prop} {a0 a1 a2 a3 : Option Value} : WP E c 123 38 [a0, a1, a2, a3] (st) ah Q = WP E c 123 39 [a0, a1, a2, a3] (.int (1) :: st) ah Q := wp_s i123_38 rfl rfl rfl rfl
theorem i123_39 : insAt 123 39 = some (.iadd, 40) := by decide +kernel
theorem r123_39 {E : aEnv} {c : Nat} {ah : aHp} {st : List Value} {Q : Option Value → aHp → Prop} {a0 a1 a2 a3 : Option Value} {x y : Int32} : WP E c 123 39 [a0, a1, a2, a3] (.int y :: .int x :: st) ah Q = WP E c 123 40 [a0, a1, a2, a3] (.int (x + y) :: st) ah Q := wp_s i123_39 rfl rfl rfl rfl
theorem i123_40 : insAt 123 40 = some (.putfield 8070, 43) := by decide +kernel
theorem r123_40 {E : aEnv} {c : Nat} {ah : aHp} {st : List Value} {Q : Option Value → aHp → Prop} {a0 a1 a2 a3 : Option Value} {a : Nat} {v : Value} : WP E c 123 40 [a0, a1, a2, a3] (v :: .ref a :: st) ah Q = WPo (oPF (hg E ah a) 8070 v) (fun e => WP E c 123 43 [a0, a1, a2, a3] st (hs E ah a e) Q) := wp_putf i123_40
theorem i123_43 : insAt 123 43 = some (.return_, 44) := by decide +kernel
theorem r123_43 {E : aEnv} {c : Nat} {ah : aHp} {Q : Option Value → aHp → Prop} {a0 a1 a2 a3 : Option Value} : WP E c 123 43 [a0, a1, a2, a3] ([]) ah Q = Q none ah := wp_rt i123_43 rfl
theorem e124 {E : aEnv} {c : Nat} {ah ahF : aHp} {r : Option Value} {p0 : Nat} {p1 : Int32} {p2 : Int32} {p3 : Int32} (h : WP E c 124 0 [some (.ref p0), some (.int p1), some (.int p2), some (.int p3)] [] ah (fun r1 x1 => r1 = r ∧ x1 = ahF)) : EV E c 124 [.ref p0, .int p1, .int p2, .int p3] ah r ahF := EV.of (by rw [mr124.2.1]; exact h)
theorem i124_0 : insAt 124 0 = some (.aload 0, 1) := by decide +kernel
theorem r124_0 {E : aEnv} {c : Nat} {ah : aHp} {st : List Value} {Q : Option Value → aHp → Prop} {a1 a2 a3 : Option Value} {x : Nat} : WP E c 124 0 [some (.ref x), a1, a2, a3] (st) ah Q = WP E c 124 1 [some (.ref x), a1, a2, a3] (.ref x :: st) ah Q := wp_s i124_0 rfl rfl rfl rfl
theorem i124_1 : insAt 124 1 = some (.invokevirtual 120, 4) := by decide +kernel
theorem r124_1 {E : aEnv} {c : Nat} {ah ah1 : aHp} {r : Option Value} {st : List Value} {Q : Option Value → aHp → Prop} {a0 a1 a2 a3 : Option Value} {p0 : Nat} (h : EV E c 120 [.ref p0] ah r ah1) (h2 : oCI (hg E ah p0) = 8) (h3 : wds st ≤ 8) : WP E (c + 1) 124 1 [a0, a1, a2, a3] (.ref p0 :: st) ah Q = WP E (c + 1) 124 4 [a0, a1, a2, a3] (r.toList ++ st) ah1 Q := wp_call (As := [.ref p0]) i124_1 (fun _ => rfl) rfl mr120.1 (rcv_1 h2 mr120.2.2 (by decide)) h3 (by rw [mr120.2.1]; exact Nat.le_of_ble_eq_true rfl) h
theorem i124_4 : insAt 124 4 = some (.ifCond .eq 8, 7) := by decide +kernel
theorem r124_4 {E : aEnv} {c : Nat} {ah : aHp} {st : List Value} {Q : Option Value → aHp → Prop} {a0 a1 a2 a3 : Option Value} {x : Int32} : WP E c 124 4 [a0, a1, a2, a3] (.int x :: st) ah Q = if x = 0 then WP E c 124 8 [a0, a1, a2, a3] st ah Q else WP E c 124 7 [a0, a1, a2, a3] st ah Q := wp_j i124_4 rfl rfl rfl rfl
theorem i124_7 : insAt 124 7 = some (.return_, 8) := by decide +kernel
theorem r124_7 {E : aEnv} {c : Nat} {ah : aHp} {Q : Option Value → aHp → Prop} {a0 a1 a2 a3 : Option Value} : WP E c 124 7 [a0, a1, a2, a3] ([]) ah Q = Q none ah := wp_rt i124_7 rfl
theorem i124_8 : insAt 124 8 = some (.aload 0, 9) := by decide +kernel
theorem r124_8 {E : aEnv} {c : Nat} {ah : aHp} {st : List Value} {Q : Option Value → aHp → Prop} {a1 a2 a3 : Option Value} {x : Nat} : WP E c 124 8 [some (.ref x), a1, a2, a3] (st) ah Q = WP E c 124 9 [some (.ref x), a1, a2, a3] (.ref x :: st) ah Q := wp_s i124_8 rfl rfl rfl rfl
theorem i124_9 : insAt 124 9 = some (.iload 1, 10) := by decide +kernel
theorem r124_9 {E : aEnv} {c : Nat} {ah : aHp} {st : List Value} {Q : Option Value → aHp → Prop} {a0 a2 a3 : Option Value} {x : Int32} : WP E c 124 9 [a0, some (.int x), a2, a3] (st) ah Q = WP E c 124 10 [a0, some (.int x), a2, a3] (.int x :: st) ah Q := wp_s i124_9 rfl rfl rfl rfl
theorem i124_10 : insAt 124 10 = some (.putfield 8100, 13) := by decide +kernel
theorem r124_10 {E : aEnv} {c : Nat} {ah : aHp} {st : List Value} {Q : Option Value → aHp → Prop} {a0 a1 a2 a3 : Option Value} {a : Nat} {v : Value} : WP E c 124 10 [a0, a1, a2, a3] (v :: .ref a :: st) ah Q = WPo (oPF (hg E ah a) 8100 v) (fun e => WP E c 124 13 [a0, a1, a2, a3] st (hs E ah a e) Q) := wp_putf i124_10
theorem i124_13 : insAt 124 13 = some (.aload 0, 14) := by decide +kernel
theorem r124_13 {E : aEnv} {c : Nat} {ah : aHp} {st : List Value} {Q : Option Value → aHp → Prop} {a1 a2 a3 : Option Value} {x : Nat} : WP E c 124 13 [some (.ref x), a1, a2, a3] (st) ah Q = WP E c 124 14 [some (.ref x), a1, a2, a3] (.ref x :: st) ah Q := wp_s i124_13 rfl rfl rfl rfl
theorem i124_14 : insAt 124 14 = some (.getfield 8042, 17) := by decide +kernel
theorem r124_14 {E : aEnv} {c : Nat} {ah : aHp} {st : List Value} {Q : Option Value → aHp → Prop} {a0 a1 a2 a3 : Option Value} {a : Nat} : WP E c 124 14 [a0, a1, a2, a3] (.ref a :: st) ah Q = WPo (oGF (hg E ah a) 8 4) (fun v => WP E c 124 17 [a0, a1, a2, a3] (v :: st) ah Q) := wp_getf i124_14
theorem i124_17 : insAt 124 17 = some (.aload 0, 18) := by decide +kernel
theorem r124_17 {E : aEnv} {c : Nat} {ah : aHp} {st : List Value} {Q : Option Value → aHp → Prop} {a1 a2 a3 : Option Value} {x : Nat} : WP E c 124 17 [some (.ref x), a1, a2, a3] (st) ah Q = WP E c 124 18 [some (.ref x), a1, a2, a3] (.ref x :: st) ah Q := wp_s i124_17 rfl rfl rfl rfl
theorem i124_18 : insAt 124 18 = some (.getfield 8090, 21) := by decide +kernel
theorem r124_18 {E : aEnv} {c : Nat} {ah : aHp} {st : List Value} {Q : Option Value → aHp → Prop} {a0 a1 a2 a3 : Option Value} {a : Nat} : WP E c 124 18 [a0, a1, a2, a3] (.ref a :: st) ah Q = WPo (oGF (hg E ah a) 8 9) (fun v => WP E c 124 21 [a0, a1, a2, a3] (v :: st) ah Q) := wp_getf i124_18
theorem i124_21 : insAt 124 21 = some (.iload 1, 22) := by decide +kernel
theorem r124_21 {E : aEnv} {c : Nat} {ah : aHp} {st : List Value} {Q : Option Value → aHp → Prop} {a0 a2 a3 : Option Value} {x : Int32} : WP E c 124 21 [a0, some (.int x), a2, a3] (st) ah Q = WP E c 124 22 [a0, some (.int x), a2, a3] (.int x :: st) ah Q := wp_s i124_21 rfl rfl rfl rfl
theorem i124_22 : insAt 124 22 = some (.iastore, 23) := by decide +kernel
theorem r124_22 {E : aEnv} {c : Nat} {ah : aHp} {st : List Value} {Q : Option Value → aHp → Prop} {a0 a1 a2 a3 : Option Value} {x : Int32} {i : Int32} {a : Nat} : WP E c 124 22 [a0, a1, a2, a3] (.int x :: .int i :: .ref a :: st) ah Q = WPo (pI E ah (.int x :: .int i :: .ref a :: st)) (fun q9 => WP E c 124 23 [a0, a1, a2, a3] q9.1 q9.2 Q) := wp_hw i124_22 rfl rfl rfl rfl rfl rfl rfl rfl
theorem i124_23 : insAt 124 23 = some (.aload 0, 24) := by decide +kernel
theorem r124_23 {E : aEnv} {c : Nat} {ah : aHp} {st : List Value} {Q : Option Value → aHp → Prop} {a1 a2 a3 : Option Value} {x : Nat} : WP E c 124 23 [some (.ref x), a1, a2, a3] (st) ah Q = WP E c 124 24 [some (.ref x), a1, a2, a3] (.ref x :: st) ah Q := wp_s i124_23 rfl rfl rfl rfl
theorem i124_24 : insAt 124 24 = some (.getfield 8052, 27) := by decide +kernel
theorem r124_24 {E : aEnv} {c : Nat} {ah : aHp} {st : List Value} {Q : Option Value → aHp → Prop} {a0 a1 a2 a3 : Option Value} {a : Nat} : WP E c 124 24 [a0, a1, a2, a3] (.ref a :: st) ah Q = WPo (oGF (hg E ah a) 8 5) (fun v => WP E c 124 27 [a0, a1, a2, a3] (v :: st) ah Q) := wp_getf i124_24
theorem i124_27 : insAt 124 27 = some (.aload 0, 28) := by decide +kernel
theorem r124_27 {E : aEnv} {c : Nat} {ah : aHp} {st : List Value} {Q : Option Value → aHp → Prop} {a1 a2 a3 : Option Value} {x : Nat} : WP E c 124 27 [some (.ref x), a1, a2, a3] (st) ah Q = WP E c 124 28 [some (.ref x), a1, a2, a3] (.ref x :: st) ah Q := wp_s i124_27 rfl rfl rfl rfl
theorem i124_28 : insAt 124 28 = some (.getfield 8090, 31) := by decide +kernel
theorem r124_28 {E : aEnv} {c : Nat} {ah : aHp} {st : List Value} {Q : Option Value → aHp → Prop} {a0 a1 a2 a3 : Option Value} {a : Nat} : WP E c 124 28 [a0, a1, a2, a3] (.ref a :: st) ah Q = WPo (oGF (hg E ah a) 8 9) (fun v => WP E c 124 31 [a0, a1, a2, a3] (v :: st) ah Q) := wp_getf i124_28
theorem i124_31 : insAt 124 31 = some (.iload 2, 32) := by decide +kernel
theorem r124_31 {E : aEnv} {c : Nat} {ah : aHp} {st : List Value} {Q : Option Value → aHp → Prop} {a0 a1 a3 : Option Value} {x : Int32} : WP E c 124 31 [a0, a1, some (.int x), a3] (st) ah Q = WP E c 124 32 [a0, a1, some (.int x), a3] (.int x :: st) ah Q := wp_s i124_31 rfl rfl rfl rfl
theorem i124_32 : insAt 124 32 = some (.iastore, 33) := by decide +kernel
theorem r124_32 {E : aEnv} {c : Nat} {ah : aHp} {st : List Value} {Q : Option Value → aHp → Prop} {a0 a1 a2 a3 : Option Value} {x : Int32} {i : Int32} {a : Nat} : WP E c 124 32 [a0, a1, a2, a3] (.int x :: .int i :: .ref a :: st) ah Q = WPo (pI E ah (.int x :: .int i :: .ref a :: st)) (fun q9 => WP E c 124 33 [a0, a1, a2, a3] q9.1 q9.2 Q) := wp_hw i124_32 rfl rfl rfl rfl rfl rfl rfl rfl
theorem i124_33 : insAt 124 33 = some (.aload 0, 34) := by decide +kernel
theorem r124_33 {E : aEnv} {c : Nat} {ah : aHp} {st : List Value} {Q : Option Value → aHp → Prop} {a1 a2 a3 : Option Value} {x : Nat} : WP E c 124 33 [some (.ref x), a1, a2, a3] (st) ah Q = WP E c 124 34 [some (.ref x), a1, a2, a3] (.ref x :: st) ah Q := wp_s i124_33 rfl rfl rfl rfl
theorem i124_34 : insAt 124 34 = some (.getfield 8062, 37) := by decide +kernel
theorem r124_34 {E : aEnv} {c : Nat} {ah : aHp} {st : List Value} {Q : Option Value → aHp → Prop} {a0 a1 a2 a3 : Option Value} {a : Nat} : WP E c 124 34 [a0, a1, a2, a3] (.ref a :: st) ah Q = WPo (oGF (hg E ah a) 8 6) (fun v => WP E c 124 37 [a0, a1, a2, a3] (v :: st) ah Q) := wp_getf i124_34
theorem i124_37 : insAt 124 37 = some (.aload 0, 38) := by decide +kernel
theorem r124_37 {E : aEnv} {c : Nat} {ah : aHp} {st : List Value} {Q : Option Value → aHp → Prop} {a1 a2 a3 : Option Value} {x : Nat} : WP E c 124 37 [some (.ref x), a1, a2, a3] (st) ah Q = WP E c 124 38 [some (.ref x), a1, a2, a3] (.ref x :: st) ah Q := wp_s i124_37 rfl rfl rfl rfl
theorem i124_38 : insAt 124 38 = some (.getfield 8090, 41) := by decide +kernel
theorem r124_38 {E : aEnv} {c : Nat} {ah : aHp} {st : List Value} {Q : Option Value → aHp → Prop} {a0 a1 a2 a3 : Option Value} {a : Nat} : WP E c 124 38 [a0, a1, a2, a3] (.ref a :: st) ah Q = WPo (oGF (hg E ah a) 8 9) (fun v => WP E c 124 41 [a0, a1, a2, a3] (v :: st) ah Q) := wp_getf i124_38
theorem i124_41 : insAt 124 41 = some (.iload 3, 42) := by decide +kernel
theorem r124_41 {E : aEnv} {c : Nat} {ah : aHp} {st : List Value} {Q : Option Value → aHp → Prop} {a0 a1 a2 : Option Value} {x : Int32} : WP E c 124 41 [a0, a1, a2, some (.int x)] (st) ah Q = WP E c 124 42 [a0, a1, a2, some (.int x)] (.int x :: st) ah Q := wp_s i124_41 rfl rfl rfl rfl
theorem i124_42 : insAt 124 42 = some (.iastore, 43) := by decide +kernel
theorem r124_42 {E : aEnv} {c : Nat} {ah : aHp} {st : List Value} {Q : Option Value → aHp → Prop} {a0 a1 a2 a3 : Option Value} {x : Int32} {i : Int32} {a : Nat} : WP E c 124 42 [a0, a1, a2, a3] (.int x :: .int i :: .ref a :: st) ah Q = WPo (pI E ah (.int x :: .int i :: .ref a :: st)) (fun q9 => WP E c 124 43 [a0, a1, a2, a3] q9.1 q9.2 Q) := wp_hw i124_42 rfl rfl rfl rfl rfl rfl rfl rfl
theorem i124_43 : insAt 124 43 = some (.aload 0, 44) := by decide +kernel
theorem r124_43 {E : aEnv} {c : Nat} {ah : aHp} {st : List Value} {Q : Option Value → aHp → Prop} {a1 a2 a3 : Option Value} {x : Nat} : WP E c 124 43 [some (.ref x), a1, a2, a3] (st) ah Q = WP E c 124 44 [some (.ref x), a1, a2, a3] (.ref x :: st) ah Q := wp_s i124_43 rfl rfl rfl rfl
theorem i124_44 : insAt 124 44 = some (.dup, 45) := by decide +kernel
theorem r124_44 {E : aEnv} {c : Nat} {ah : aHp} {st : List Value} {Q : Option Value → aHp → Prop} {a0 a1 a2 a3 : Option Value} {x : Nat} : WP E c 124 44 [a0, a1, a2, a3] (.ref x :: st) ah Q = WP E c 124 45 [a0, a1, a2, a3] (.ref x :: .ref x :: st) ah Q := wp_s i124_44 rfl rfl rfl rfl
theorem r124_44i {E : aEnv} {c : Nat} {ah : aHp} {st : List Value} {Q : Option Value → aHp → Prop} {a0 a1 a2 a3 : Option Value} {x : Int32} : WP E c 124 44 [a0, a1, a2, a3] (.int x :: st) ah Q = WP E c 124 45 [a0, a1, a2, a3] (.int x :: .int x :: st) ah Q := wp_s i124_44 rfl rfl rfl rfl
theorem i124_45 : insAt 124 45 = some (.getfield 8090, 48) := by decide +kernel
theorem r124_45 {E : aEnv} {c : Nat} {ah : aHp} {st : List Value} {Q : Option Value → aHp → Prop} {a0 a1 a2 a3 : Option Value} {a : Nat} : WP E c 124 45 [a0, a1, a2, a3] (.ref a :: st) ah Q = WPo (oGF (hg E ah a) 8 9) (fun v => WP E c 124 48 [a0, a1, a2, a3] (v :: st) ah Q) := wp_getf i124_45
theorem i124_48 : insAt 124 48 = some (.iconst 1, 49) := by decide +kernel
theorem r124_48 {E : aEnv} {c : Nat} {ah : aHp} {st : List Value} {Q : Option Value → aHp → Prop} {a0 a1 a2 a3 : Option Value} : WP E c 124 48 [a0, a1, a2, a3] (st) ah Q = WP E c 124 49 [a0, a1, a2, a3] (.int (1) :: st) ah Q := wp_s i124_48 rfl rfl rfl rfl
theorem i124_49 : insAt 124 49 = some (.iadd, 50) := by decide +kernel
theorem r124_49 {E : aEnv} {c : Nat} {ah : aHp} {st : List Value} {Q : Option Value → aHp → Prop} {a0 a1 a2 a3 : Option Value} {x y : Int32} : WP E c 124 49 [a0, a1, a2, a3] (.int y :: .int x :: st) ah Q = WP E c 124 50 [a0, a1, a2, a3] (.int (x + y) :: st) ah Q := wp_s i124_49 rfl rfl rfl rfl
theorem i124_50 : insAt 124 50 = some (.putfield 8090, 53) := by decide +kernel
theorem r124_50 {E : aEnv} {c : Nat} {ah : aHp} {st : List Value} {Q : Option Value → aHp → Prop} {a0 a1 a2 a3 : Option Value} {a : Nat} {v : Value} : WP E c 124 50 [a0, a1, a2, a3] (v :: .ref a :: st) ah Q = WPo (oPF (hg E ah a) 8090 v) (fun e => WP E c 124 53 [a0, a1, a2, a3] st (hs E ah a e) Q) := wp_putf i124_50
theorem i124_53 : insAt 124 53 = some (.return_, 54) := by decide +kernel
theorem r124_53 {E : aEnv} {c : Nat} {ah : aHp} {Q : Option Value → aHp → Prop} {a0 a1 a2 a3 : Option Value} : WP E c 124 53 [a0, a1, a2, a3] ([]) ah Q = Q none ah := wp_rt i124_53 rfl
theorem e125 {E : aEnv} {c : Nat} {ah ahF : aHp} {r : Option Value} {p0 : Nat} {p1 : Int32} {p2 : Int32} (h : WP E c 125 0 [some (.ref p0), some (.int p1), some (.int p2)] [] ah (fun r1 x1 => r1 = r ∧ x1 = ahF)) : EV E c 125 [.ref p0, .int p1, .int p2] ah r ahF := EV.of (by rw [mr125.2.1]; exact h)
theorem i125_0 : insAt 125 0 = some (.aload 0, 1) := by decide +kernel
theorem r125_0 {E : aEnv} {c : Nat} {ah : aHp} {st : List Value} {Q : Option Value → aHp → Prop} {a1 a2 : Option Value} {x : Nat} : WP E c 125 0 [some (.ref x), a1, a2] (st) ah Q = WP E c 125 1 [some (.ref x), a1, a2] (.ref x :: st) ah Q := wp_s i125_0 rfl rfl rfl rfl
theorem i125_1 : insAt 125 1 = some (.getfield 8080, 4) := by decide +kernel
theorem r125_1 {E : aEnv} {c : Nat} {ah : aHp} {st : List Value} {Q : Option Value → aHp → Prop} {a0 a1 a2 : Option Value} {a : Nat} : WP E c 125 1 [a0, a1, a2] (.ref a :: st) ah Q = WPo (oGF (hg E ah a) 8 8) (fun v => WP E c 125 4 [a0, a1, a2] (v :: st) ah Q) := wp_getf i125_1
theorem i125_4 : insAt 125 4 = some (.iconst 20, 6) := by decide +kernel
theorem r125_4 {E : aEnv} {c : Nat} {ah : aHp} {st : List Value} {Q : Option Value → aHp → Prop} {a0 a1 a2 : Option Value} : WP E c 125 4 [a0, a1, a2] (st) ah Q = WP E c 125 6 [a0, a1, a2] (.int (20) :: st) ah Q := wp_s i125_4 rfl rfl rfl rfl
theorem i125_6 : insAt 125 6 = some (.if_icmp .lt 11, 9) := by decide +kernel
theorem r125_6 {E : aEnv} {c : Nat} {ah : aHp} {st : List Value} {Q : Option Value → aHp → Prop} {a0 a1 a2 : Option Value} {x y : Int32} : WP E c 125 6 [a0, a1, a2] (.int y :: .int x :: st) ah Q = if x < y then WP E c 125 11 [a0, a1, a2] st ah Q else WP E c 125 9 [a0, a1, a2] st ah Q := wp_j i125_6 rfl rfl rfl rfl
theorem i125_9 : insAt 125 9 = some (.iconst (-1), 10) := by decide +kernel
theorem r125_9 {E : aEnv} {c : Nat} {ah : aHp} {st : List Value} {Q : Option Value → aHp → Prop} {a0 a1 a2 : Option Value} : WP E c 125 9 [a0, a1, a2] (st) ah Q = WP E c 125 10 [a0, a1, a2] (.int ((-1)) :: st) ah Q := wp_s i125_9 rfl rfl rfl rfl
theorem i125_10 : insAt 125 10 = some (.ireturn, 11) := by decide +kernel
theorem r125_10 {E : aEnv} {c : Nat} {ah : aHp} {Q : Option Value → aHp → Prop} {a0 a1 a2 : Option Value} {x : Int32} : WP E c 125 10 [a0, a1, a2] ([.int x]) ah Q = Q (some (.int x)) ah := wp_rt i125_10 rfl
theorem i125_11 : insAt 125 11 = some (.aload 0, 12) := by decide +kernel
theorem r125_11 {E : aEnv} {c : Nat} {ah : aHp} {st : List Value} {Q : Option Value → aHp → Prop} {a1 a2 : Option Value} {x : Nat} : WP E c 125 11 [some (.ref x), a1, a2] (st) ah Q = WP E c 125 12 [some (.ref x), a1, a2] (.ref x :: st) ah Q := wp_s i125_11 rfl rfl rfl rfl
theorem i125_12 : insAt 125 12 = some (.iload 1, 13) := by decide +kernel
theorem r125_12 {E : aEnv} {c : Nat} {ah : aHp} {st : List Value} {Q : Option Value → aHp → Prop} {a0 a2 : Option Value} {x : Int32} : WP E c 125 12 [a0, some (.int x), a2] (st) ah Q = WP E c 125 13 [a0, some (.int x), a2] (.int x :: st) ah Q := wp_s i125_12 rfl rfl rfl rfl
theorem i125_13 : insAt 125 13 = some (.putfield 8100, 16) := by decide +kernel
theorem r125_13 {E : aEnv} {c : Nat} {ah : aHp} {st : List Value} {Q : Option Value → aHp → Prop} {a0 a1 a2 : Option Value} {a : Nat} {v : Value} : WP E c 125 13 [a0, a1, a2] (v :: .ref a :: st) ah Q = WPo (oPF (hg E ah a) 8100 v) (fun e => WP E c 125 16 [a0, a1, a2] st (hs E ah a e) Q) := wp_putf i125_13
theorem i125_16 : insAt 125 16 = some (.aload 0, 17) := by decide +kernel
theorem r125_16 {E : aEnv} {c : Nat} {ah : aHp} {st : List Value} {Q : Option Value → aHp → Prop} {a1 a2 : Option Value} {x : Nat} : WP E c 125 16 [some (.ref x), a1, a2] (st) ah Q = WP E c 125 17 [some (.ref x), a1, a2] (.ref x :: st) ah Q := wp_s i125_16 rfl rfl rfl rfl
theorem i125_17 : insAt 125 17 = some (.getfield 8022, 20) := by decide +kernel
theorem r125_17 {E : aEnv} {c : Nat} {ah : aHp} {st : List Value} {Q : Option Value → aHp → Prop} {a0 a1 a2 : Option Value} {a : Nat} : WP E c 125 17 [a0, a1, a2] (.ref a :: st) ah Q = WPo (oGF (hg E ah a) 8 2) (fun v => WP E c 125 20 [a0, a1, a2] (v :: st) ah Q) := wp_getf i125_17
theorem i125_20 : insAt 125 20 = some (.aload 0, 21) := by decide +kernel
theorem r125_20 {E : aEnv} {c : Nat} {ah : aHp} {st : List Value} {Q : Option Value → aHp → Prop} {a1 a2 : Option Value} {x : Nat} : WP E c 125 20 [some (.ref x), a1, a2] (st) ah Q = WP E c 125 21 [some (.ref x), a1, a2] (.ref x :: st) ah Q := wp_s i125_20 rfl rfl rfl rfl
theorem i125_21 : insAt 125 21 = some (.getfield 8080, 24) := by decide +kernel
theorem r125_21 {E : aEnv} {c : Nat} {ah : aHp} {st : List Value} {Q : Option Value → aHp → Prop} {a0 a1 a2 : Option Value} {a : Nat} : WP E c 125 21 [a0, a1, a2] (.ref a :: st) ah Q = WPo (oGF (hg E ah a) 8 8) (fun v => WP E c 125 24 [a0, a1, a2] (v :: st) ah Q) := wp_getf i125_21
theorem i125_24 : insAt 125 24 = some (.aload 0, 25) := by decide +kernel
theorem r125_24 {E : aEnv} {c : Nat} {ah : aHp} {st : List Value} {Q : Option Value → aHp → Prop} {a1 a2 : Option Value} {x : Nat} : WP E c 125 24 [some (.ref x), a1, a2] (st) ah Q = WP E c 125 25 [some (.ref x), a1, a2] (.ref x :: st) ah Q := wp_s i125_24 rfl rfl rfl rfl
theorem i125_25 : insAt 125 25 = some (.aload 0, 26) := by decide +kernel
theorem r125_25 {E : aEnv} {c : Nat} {ah : aHp} {st : List Value} {Q : Option Value → aHp → Prop} {a1 a2 : Option Value} {x : Nat} : WP E c 125 25 [some (.ref x), a1, a2] (st) ah Q = WP E c 125 26 [some (.ref x), a1, a2] (.ref x :: st) ah Q := wp_s i125_25 rfl rfl rfl rfl
theorem i125_26 : insAt 125 26 = some (.getfield 8080, 29) := by decide +kernel
theorem r125_26 {E : aEnv} {c : Nat} {ah : aHp} {st : List Value} {Q : Option Value → aHp → Prop} {a0 a1 a2 : Option Value} {a : Nat} : WP E c 125 26 [a0, a1, a2] (.ref a :: st) ah Q = WPo (oGF (hg E ah a) 8 8) (fun v => WP E c 125 29 [a0, a1, a2] (v :: st) ah Q) := wp_getf i125_26
theorem i125_29 : insAt 125 29 = some (.invokevirtual 126, 32) := by decide +kernel
theorem r125_29 {E : aEnv} {c : Nat} {ah ah1 : aHp} {r : Option Value} {st : List Value} {Q : Option Value → aHp → Prop} {a0 a1 a2 : Option Value} {p0 : Nat} {p1 : Int32} (h : EV E c 126 [.ref p0, .int p1] ah r ah1) (h2 : oCI (hg E ah p0) = 8) (h3 : wds st ≤ 8) : WP E (c + 1) 125 29 [a0, a1, a2] (.int p1 :: .ref p0 :: st) ah Q = WP E (c + 1) 125 32 [a0, a1, a2] (r.toList ++ st) ah1 Q := wp_call (As := [.ref p0, .int p1]) i125_29 (fun _ => rfl) rfl mr126.1 (rcv_1 h2 mr126.2.2 (by decide)) h3 (by rw [mr126.2.1]; exact Nat.le_of_ble_eq_true rfl) h
theorem i125_32 : insAt 125 32 = some (.iload 2, 33) := by decide +kernel
theorem r125_32 {E : aEnv} {c : Nat} {ah : aHp} {st : List Value} {Q : Option Value → aHp → Prop} {a0 a1 : Option Value} {x : Int32} : WP E c 125 32 [a0, a1, some (.int x)] (st) ah Q = WP E c 125 33 [a0, a1, some (.int x)] (.int x :: st) ah Q := wp_s i125_32 rfl rfl rfl rfl
theorem i125_33 : insAt 125 33 = some (.iadd, 34) := by decide +kernel
theorem r125_33 {E : aEnv} {c : Nat} {ah : aHp} {st : List Value} {Q : Option Value → aHp → Prop} {a0 a1 a2 : Option Value} {x y : Int32} : WP E c 125 33 [a0, a1, a2] (.int y :: .int x :: st) ah Q = WP E c 125 34 [a0, a1, a2] (.int (x + y) :: st) ah Q := wp_s i125_33 rfl rfl rfl rfl
theorem i125_34 : insAt 125 34 = some (.iastore, 35) := by decide +kernel
theorem r125_34 {E : aEnv} {c : Nat} {ah : aHp} {st : List Value} {Q : Option Value → aHp → Prop} {a0 a1 a2 : Option Value} {x : Int32} {i : Int32} {a : Nat} : WP E c 125 34 [a0, a1, a2] (.int x :: .int i :: .ref a :: st) ah Q = WPo (pI E ah (.int x :: .int i :: .ref a :: st)) (fun q9 => WP E c 125 35 [a0, a1, a2] q9.1 q9.2 Q) := wp_hw i125_34 rfl rfl rfl rfl rfl rfl rfl rfl
theorem i125_35 : insAt 125 35 = some (.aload 0, 36) := by decide +kernel
theorem r125_35 {E : aEnv} {c : Nat} {ah : aHp} {st : List Value} {Q : Option Value → aHp → Prop} {a1 a2 : Option Value} {x : Nat} : WP E c 125 35 [some (.ref x), a1, a2] (st) ah Q = WP E c 125 36 [some (.ref x), a1, a2] (.ref x :: st) ah Q := wp_s i125_35 rfl rfl rfl rfl
theorem i125_36 : insAt 125 36 = some (.getfield 8032, 39) := by decide +kernel
theorem r125_36 {E : aEnv} {c : Nat} {ah : aHp} {st : List Value} {Q : Option Value → aHp → Prop} {a0 a1 a2 : Option Value} {a : Nat} : WP E c 125 36 [a0, a1, a2] (.ref a :: st) ah Q = WPo (oGF (hg E ah a) 8 3) (fun v => WP E c 125 39 [a0, a1, a2] (v :: st) ah Q) := wp_getf i125_36
theorem i125_39 : insAt 125 39 = some (.aload 0, 40) := by decide +kernel
theorem r125_39 {E : aEnv} {c : Nat} {ah : aHp} {st : List Value} {Q : Option Value → aHp → Prop} {a1 a2 : Option Value} {x : Nat} : WP E c 125 39 [some (.ref x), a1, a2] (st) ah Q = WP E c 125 40 [some (.ref x), a1, a2] (.ref x :: st) ah Q := wp_s i125_39 rfl rfl rfl rfl
theorem i125_40 : insAt 125 40 = some (.getfield 8080, 43) := by decide +kernel
theorem r125_40 {E : aEnv} {c : Nat} {ah : aHp} {st : List Value} {Q : Option Value → aHp → Prop} {a0 a1 a2 : Option Value} {a : Nat} : WP E c 125 40 [a0, a1, a2] (.ref a :: st) ah Q = WPo (oGF (hg E ah a) 8 8) (fun v => WP E c 125 43 [a0, a1, a2] (v :: st) ah Q) := wp_getf i125_40
theorem i125_43 : insAt 125 43 = some (.aload 0, 44) := by decide +kernel
theorem r125_43 {E : aEnv} {c : Nat} {ah : aHp} {st : List Value} {Q : Option Value → aHp → Prop} {a1 a2 : Option Value} {x : Nat} : WP E c 125 43 [some (.ref x), a1, a2] (st) ah Q = WP E c 125 44 [some (.ref x), a1, a2] (.ref x :: st) ah Q := wp_s i125_43 rfl rfl rfl rfl
theorem i125_44 : insAt 125 44 = some (.getfield 8070, 47) := by decide +kernel
theorem r125_44 {E : aEnv} {c : Nat} {ah : aHp} {st : List Value} {Q : Option Value → aHp → Prop} {a0 a1 a2 : Option Value} {a : Nat} : WP E c 125 44 [a0, a1, a2] (.ref a :: st) ah Q = WPo (oGF (hg E ah a) 8 7) (fun v => WP E c 125 47 [a0, a1, a2] (v :: st) ah Q) := wp_getf i125_44
theorem i125_47 : insAt 125 47 = some (.iastore, 48) := by decide +kernel
theorem r125_47 {E : aEnv} {c : Nat} {ah : aHp} {st : List Value} {Q : Option Value → aHp → Prop} {a0 a1 a2 : Option Value} {x : Int32} {i : Int32} {a : Nat} : WP E c 125 47 [a0, a1, a2] (.int x :: .int i :: .ref a :: st) ah Q = WPo (pI E ah (.int x :: .int i :: .ref a :: st)) (fun q9 => WP E c 125 48 [a0, a1, a2] q9.1 q9.2 Q) := wp_hw i125_47 rfl rfl rfl rfl rfl rfl rfl rfl
theorem i125_48 : insAt 125 48 = some (.aload 0, 49) := by decide +kernel
theorem r125_48 {E : aEnv} {c : Nat} {ah : aHp} {st : List Value} {Q : Option Value → aHp → Prop} {a1 a2 : Option Value} {x : Nat} : WP E c 125 48 [some (.ref x), a1, a2] (st) ah Q = WP E c 125 49 [some (.ref x), a1, a2] (.ref x :: st) ah Q := wp_s i125_48 rfl rfl rfl rfl
theorem i125_49 : insAt 125 49 = some (.dup, 50) := by decide +kernel
theorem r125_49 {E : aEnv} {c : Nat} {ah : aHp} {st : List Value} {Q : Option Value → aHp → Prop} {a0 a1 a2 : Option Value} {x : Nat} : WP E c 125 49 [a0, a1, a2] (.ref x :: st) ah Q = WP E c 125 50 [a0, a1, a2] (.ref x :: .ref x :: st) ah Q := wp_s i125_49 rfl rfl rfl rfl
theorem r125_49i {E : aEnv} {c : Nat} {ah : aHp} {st : List Value} {Q : Option Value → aHp → Prop} {a0 a1 a2 : Option Value} {x : Int32} : WP E c 125 49 [a0, a1, a2] (.int x :: st) ah Q = WP E c 125 50 [a0, a1, a2] (.int x :: .int x :: st) ah Q := wp_s i125_49 rfl rfl rfl rfl
theorem i125_50 : insAt 125 50 = some (.getfield 8080, 53) := by decide +kernel
theorem r125_50 {E : aEnv} {c : Nat} {ah : aHp} {st : List Value} {Q : Option Value → aHp → Prop} {a0 a1 a2 : Option Value} {a : Nat} : WP E c 125 50 [a0, a1, a2] (.ref a :: st) ah Q = WPo (oGF (hg E ah a) 8 8) (fun v => WP E c 125 53 [a0, a1, a2] (v :: st) ah Q) := wp_getf i125_50
theorem i125_53 : insAt 125 53 = some (.iconst 1, 54) := by decide +kernel
theorem r125_53 {E : aEnv} {c : Nat} {ah : aHp} {st : List Value} {Q : Option Value → aHp → Prop} {a0 a1 a2 : Option Value} : WP E c 125 53 [a0, a1, a2] (st) ah Q = WP E c 125 54 [a0, a1, a2] (.int (1) :: st) ah Q := wp_s i125_53 rfl rfl rfl rfl
theorem i125_54 : insAt 125 54 = some (.iadd, 55) := by decide +kernel
theorem r125_54 {E : aEnv} {c : Nat} {ah : aHp} {st : List Value} {Q : Option Value → aHp → Prop} {a0 a1 a2 : Option Value} {x y : Int32} : WP E c 125 54 [a0, a1, a2] (.int y :: .int x :: st) ah Q = WP E c 125 55 [a0, a1, a2] (.int (x + y) :: st) ah Q := wp_s i125_54 rfl rfl rfl rfl
theorem i125_55 : insAt 125 55 = some (.putfield 8080, 58) := by decide +kernel
theorem r125_55 {E : aEnv} {c : Nat} {ah : aHp} {st : List Value} {Q : Option Value → aHp → Prop} {a0 a1 a2 : Option Value} {a : Nat} {v : Value} : WP E c 125 55 [a0, a1, a2] (v :: .ref a :: st) ah Q = WPo (oPF (hg E ah a) 8080 v) (fun e => WP E c 125 58 [a0, a1, a2] st (hs E ah a e) Q) := wp_putf i125_55
theorem i125_58 : insAt 125 58 = some (.aload 0, 59) := by decide +kernel
theorem r125_58 {E : aEnv} {c : Nat} {ah : aHp} {st : List Value} {Q : Option Value → aHp → Prop} {a1 a2 : Option Value} {x : Nat} : WP E c 125 58 [some (.ref x), a1, a2] (st) ah Q = WP E c 125 59 [some (.ref x), a1, a2] (.ref x :: st) ah Q := wp_s i125_58 rfl rfl rfl rfl
theorem i125_59 : insAt 125 59 = some (.getfield 8022, 62) := by decide +kernel
theorem r125_59 {E : aEnv} {c : Nat} {ah : aHp} {st : List Value} {Q : Option Value → aHp → Prop} {a0 a1 a2 : Option Value} {a : Nat} : WP E c 125 59 [a0, a1, a2] (.ref a :: st) ah Q = WPo (oGF (hg E ah a) 8 2) (fun v => WP E c 125 62 [a0, a1, a2] (v :: st) ah Q) := wp_getf i125_59
theorem i125_62 : insAt 125 62 = some (.aload 0, 63) := by decide +kernel
theorem r125_62 {E : aEnv} {c : Nat} {ah : aHp} {st : List Value} {Q : Option Value → aHp → Prop} {a1 a2 : Option Value} {x : Nat} : WP E c 125 62 [some (.ref x), a1, a2] (st) ah Q = WP E c 125 63 [some (.ref x), a1, a2] (.ref x :: st) ah Q := wp_s i125_62 rfl rfl rfl rfl
theorem i125_63 : insAt 125 63 = some (.getfield 8080, 66) := by decide +kernel
theorem r125_63 {E : aEnv} {c : Nat} {ah : aHp} {st : List Value} {Q : Option Value → aHp → Prop} {a0 a1 a2 : Option Value} {a : Nat} : WP E c 125 63 [a0, a1, a2] (.ref a :: st) ah Q = WPo (oGF (hg E ah a) 8 8) (fun v => WP E c 125 66 [a0, a1, a2] (v :: st) ah Q) := wp_getf i125_63
theorem i125_66 : insAt 125 66 = some (.iconst 1, 67) := by decide +kernel
theorem r125_66 {E : aEnv} {c : Nat} {ah : aHp} {st : List Value} {Q : Option Value → aHp → Prop} {a0 a1 a2 : Option Value} : WP E c 125 66 [a0, a1, a2] (st) ah Q = WP E c 125 67 [a0, a1, a2] (.int (1) :: st) ah Q := wp_s i125_66 rfl rfl rfl rfl
theorem i125_67 : insAt 125 67 = some (.isub, 68) := by decide +kernel
theorem r125_67 {E : aEnv} {c : Nat} {ah : aHp} {st : List Value} {Q : Option Value → aHp → Prop} {a0 a1 a2 : Option Value} {x y : Int32} : WP E c 125 67 [a0, a1, a2] (.int y :: .int x :: st) ah Q = WP E c 125 68 [a0, a1, a2] (.int (x - y) :: st) ah Q := wp_s i125_67 rfl rfl rfl rfl
theorem i125_68 : insAt 125 68 = some (.iaload, 69) := by decide +kernel
theorem r125_68 {E : aEnv} {c : Nat} {ah : aHp} {st : List Value} {Q : Option Value → aHp → Prop} {a0 a1 a2 : Option Value} {i : Int32} {a : Nat} : WP E c 125 68 [a0, a1, a2] (.int i :: .ref a :: st) ah Q = WPo (gI E ah (.int i :: .ref a :: st)) (fun s9 => WP E c 125 69 [a0, a1, a2] s9 ah Q) := wp_hr i125_68 rfl rfl rfl rfl rfl rfl rfl rfl
theorem i125_69 : insAt 125 69 = some (.ireturn, 70) := by decide +kernel
theorem r125_69 {E : aEnv} {c : Nat} {ah : aHp} {Q : Option Value → aHp → Prop} {a0 a1 a2 : Option Value} {x : Int32} : WP E c 125 69 [a0, a1, a2] ([.int x]) ah Q = Q (some (.int x)) ah := wp_rt i125_69 rfl
theorem e126 {E : aEnv} {c : Nat} {ah ahF : aHp} {r : Option Value} {p0 : Nat} {p1 : Int32} (h : WP E c 126 0 [some (.ref p0), some (.int p1)] [] ah (fun r1 x1 => r1 = r ∧ x1 = ahF)) : EV E c 126 [.ref p0, .int p1] ah r ahF := EV.of (by rw [mr126.2.1]; exact h)
theorem i126_0 : insAt 126 0 = some (.iload 1, 1) := by decide +kernel
theorem r126_0 {E : aEnv} {c : Nat} {ah : aHp} {st : List Value} {Q : Option Value → aHp → Prop} {a0 : Option Value} {x : Int32} : WP E c 126 0 [a0, some (.int x)] (st) ah Q = WP E c 126 1 [a0, some (.int x)] (.int x :: st) ah Q := wp_s i126_0 rfl rfl rfl rfl
theorem i126_1 : insAt 126 1 = some (.ifCond .le 15, 4) := by decide +kernel
theorem r126_1 {E : aEnv} {c : Nat} {ah : aHp} {st : List Value} {Q : Option Value → aHp → Prop} {a0 a1 : Option Value} {x : Int32} : WP E c 126 1 [a0, a1] (.int x :: st) ah Q = if x ≤ 0 then WP E c 126 15 [a0, a1] st ah Q else WP E c 126 4 [a0, a1] st ah Q := wp_j i126_1 rfl rfl rfl rfl
theorem i126_4 : insAt 126 4 = some (.aload 0, 5) := by decide +kernel
theorem r126_4 {E : aEnv} {c : Nat} {ah : aHp} {st : List Value} {Q : Option Value → aHp → Prop} {a1 : Option Value} {x : Nat} : WP E c 126 4 [some (.ref x), a1] (st) ah Q = WP E c 126 5 [some (.ref x), a1] (.ref x :: st) ah Q := wp_s i126_4 rfl rfl rfl rfl
theorem i126_5 : insAt 126 5 = some (.getfield 8022, 8) := by decide +kernel
theorem r126_5 {E : aEnv} {c : Nat} {ah : aHp} {st : List Value} {Q : Option Value → aHp → Prop} {a0 a1 : Option Value} {a : Nat} : WP E c 126 5 [a0, a1] (.ref a :: st) ah Q = WPo (oGF (hg E ah a) 8 2) (fun v => WP E c 126 8 [a0, a1] (v :: st) ah Q) := wp_getf i126_5
theorem i126_8 : insAt 126 8 = some (.iload 1, 9) := by decide +kernel
theorem r126_8 {E : aEnv} {c : Nat} {ah : aHp} {st : List Value} {Q : Option Value → aHp → Prop} {a0 : Option Value} {x : Int32} : WP E c 126 8 [a0, some (.int x)] (st) ah Q = WP E c 126 9 [a0, some (.int x)] (.int x :: st) ah Q := wp_s i126_8 rfl rfl rfl rfl
theorem i126_9 : insAt 126 9 = some (.iconst 1, 10) := by decide +kernel
theorem r126_9 {E : aEnv} {c : Nat} {ah : aHp} {st : List Value} {Q : Option Value → aHp → Prop} {a0 a1 : Option Value} : WP E c 126 9 [a0, a1] (st) ah Q = WP E c 126 10 [a0, a1] (.int (1) :: st) ah Q := wp_s i126_9 rfl rfl rfl rfl
theorem i126_10 : insAt 126 10 = some (.isub, 11) := by decide +kernel
theorem r126_10 {E : aEnv} {c : Nat} {ah : aHp} {st : List Value} {Q : Option Value → aHp → Prop} {a0 a1 : Option Value} {x y : Int32} : WP E c 126 10 [a0, a1] (.int y :: .int x :: st) ah Q = WP E c 126 11 [a0, a1] (.int (x - y) :: st) ah Q := wp_s i126_10 rfl rfl rfl rfl
theorem i126_11 : insAt 126 11 = some (.iaload, 12) := by decide +kernel
theorem r126_11 {E : aEnv} {c : Nat} {ah : aHp} {st : List Value} {Q : Option Value → aHp → Prop} {a0 a1 : Option Value} {i : Int32} {a : Nat} : WP E c 126 11 [a0, a1] (.int i :: .ref a :: st) ah Q = WPo (gI E ah (.int i :: .ref a :: st)) (fun s9 => WP E c 126 12 [a0, a1] s9 ah Q) := wp_hr i126_11 rfl rfl rfl rfl rfl rfl rfl rfl
theorem i126_12 : insAt 126 12 = some (.goto 16, 15) := by decide +kernel
theorem r126_12 {E : aEnv} {c : Nat} {ah : aHp} {st : List Value} {Q : Option Value → aHp → Prop} {a0 a1 : Option Value} : WP E c 126 12 [a0, a1] (st) ah Q = WP E c 126 16 [a0, a1] st ah Q := wp_s i126_12 rfl rfl rfl rfl
theorem i126_15 : insAt 126 15 = some (.iconst 0, 16) := by decide +kernel
theorem r126_15 {E : aEnv} {c : Nat} {ah : aHp} {st : List Value} {Q : Option Value → aHp → Prop} {a0 a1 : Option Value} : WP E c 126 15 [a0, a1] (st) ah Q = WP E c 126 16 [a0, a1] (.int (0) :: st) ah Q := wp_s i126_15 rfl rfl rfl rfl
theorem i126_16 : insAt 126 16 = some (.ireturn, 17) := by decide +kernel
theorem r126_16 {E : aEnv} {c : Nat} {ah : aHp} {Q : Option Value → aHp → Prop} {a0 a1 : Option Value} {x : Int32} : WP E c 126 16 [a0, a1] ([.int x]) ah Q = Q (some (.int x)) ah := wp_rt i126_16 rfl
theorem e127 {E : aEnv} {c : Nat} {ah ahF : aHp} {r : Option Value} {p0 : Nat} {p1 : Int32} (h : WP E c 127 0 [some (.ref p0), some (.int p1), none] [] ah (fun r1 x1 => r1 = r ∧ x1 = ahF)) : EV E c 127 [.ref p0, .int p1] ah r ahF := EV.of (by rw [mr127.2.1]; exact h)
theorem i127_0 : insAt 127 0 = some (.iconst 0, 1) := by decide +kernel
theorem r127_0 {E : aEnv} {c : Nat} {ah : aHp} {st : List Value} {Q : Option Value → aHp → Prop} {a0 a1 a2 : Option Value} : WP E c 127 0 [a0, a1, a2] (st) ah Q = WP E c 127 1 [a0, a1, a2] (.int (0) :: st) ah Q := wp_s i127_0 rfl rfl rfl rfl
theorem i127_1 : insAt 127 1 = some (.istore 2, 2) := by decide +kernel
theorem r127_1 {E : aEnv} {c : Nat} {ah : aHp} {st : List Value} {Q : Option Value → aHp → Prop} {a0 a1 a2 : Option Value} {x : Int32} : WP E c 127 1 [a0, a1, a2] (.int x :: st) ah Q = WP E c 127 2 [a0, kil a1, some (.int x)] (st) ah Q := wp_s i127_1 rfl rfl rfl rfl
theorem i127_2 : insAt 127 2 = some (.iload 2, 3) := by decide +kernel
theorem r127_2 {E : aEnv} {c : Nat} {ah : aHp} {st : List Value} {Q : Option Value → aHp → Prop} {a0 a1 : Option Value} {x : Int32} : WP E c 127 2 [a0, a1, some (.int x)] (st) ah Q = WP E c 127 3 [a0, a1, some (.int x)] (.int x :: st) ah Q := wp_s i127_2 rfl rfl rfl rfl
theorem i127_3 : insAt 127 3 = some (.aload 0, 4) := by decide +kernel
theorem r127_3 {E : aEnv} {c : Nat} {ah : aHp} {st : List Value} {Q : Option Value → aHp → Prop} {a1 a2 : Option Value} {x : Nat} : WP E c 127 3 [some (.ref x), a1, a2] (st) ah Q = WP E c 127 4 [some (.ref x), a1, a2] (.ref x :: st) ah Q := wp_s i127_3 rfl rfl rfl rfl
theorem i127_4 : insAt 127 4 = some (.getfield 8080, 7) := by decide +kernel
theorem r127_4 {E : aEnv} {c : Nat} {ah : aHp} {st : List Value} {Q : Option Value → aHp → Prop} {a0 a1 a2 : Option Value} {a : Nat} : WP E c 127 4 [a0, a1, a2] (.ref a :: st) ah Q = WPo (oGF (hg E ah a) 8 8) (fun v => WP E c 127 7 [a0, a1, a2] (v :: st) ah Q) := wp_getf i127_4
theorem i127_7 : insAt 127 7 = some (.if_icmp .ge 33, 10) := by decide +kernel
theorem r127_7 {E : aEnv} {c : Nat} {ah : aHp} {st : List Value} {Q : Option Value → aHp → Prop} {a0 a1 a2 : Option Value} {x y : Int32} : WP E c 127 7 [a0, a1, a2] (.int y :: .int x :: st) ah Q = if y ≤ x then WP E c 127 33 [a0, a1, a2] st ah Q else WP E c 127 10 [a0, a1, a2] st ah Q := wp_j i127_7 rfl rfl rfl rfl
theorem i127_10 : insAt 127 10 = some (.iload 1, 11) := by decide +kernel
theorem r127_10 {E : aEnv} {c : Nat} {ah : aHp} {st : List Value} {Q : Option Value → aHp → Prop} {a0 a2 : Option Value} {x : Int32} : WP E c 127 10 [a0, some (.int x), a2] (st) ah Q = WP E c 127 11 [a0, some (.int x), a2] (.int x :: st) ah Q := wp_s i127_10 rfl rfl rfl rfl
theorem i127_11 : insAt 127 11 = some (.iconst 1, 12) := by decide +kernel
theorem r127_11 {E : aEnv} {c : Nat} {ah : aHp} {st : List Value} {Q : Option Value → aHp → Prop} {a0 a1 a2 : Option Value} : WP E c 127 11 [a0, a1, a2] (st) ah Q = WP E c 127 12 [a0, a1, a2] (.int (1) :: st) ah Q := wp_s i127_11 rfl rfl rfl rfl
theorem i127_12 : insAt 127 12 = some (.if_icmp .lt 27, 15) := by decide +kernel
theorem r127_12 {E : aEnv} {c : Nat} {ah : aHp} {st : List Value} {Q : Option Value → aHp → Prop} {a0 a1 a2 : Option Value} {x y : Int32} : WP E c 127 12 [a0, a1, a2] (.int y :: .int x :: st) ah Q = if x < y then WP E c 127 27 [a0, a1, a2] st ah Q else WP E c 127 15 [a0, a1, a2] st ah Q := wp_j i127_12 rfl rfl rfl rfl
theorem i127_15 : insAt 127 15 = some (.iload 1, 16) := by decide +kernel
theorem r127_15 {E : aEnv} {c : Nat} {ah : aHp} {st : List Value} {Q : Option Value → aHp → Prop} {a0 a2 : Option Value} {x : Int32} : WP E c 127 15 [a0, some (.int x), a2] (st) ah Q = WP E c 127 16 [a0, some (.int x), a2] (.int x :: st) ah Q := wp_s i127_15 rfl rfl rfl rfl
theorem i127_16 : insAt 127 16 = some (.aload 0, 17) := by decide +kernel
theorem r127_16 {E : aEnv} {c : Nat} {ah : aHp} {st : List Value} {Q : Option Value → aHp → Prop} {a1 a2 : Option Value} {x : Nat} : WP E c 127 16 [some (.ref x), a1, a2] (st) ah Q = WP E c 127 17 [some (.ref x), a1, a2] (.ref x :: st) ah Q := wp_s i127_16 rfl rfl rfl rfl
theorem i127_17 : insAt 127 17 = some (.getfield 8022, 20) := by decide +kernel
theorem r127_17 {E : aEnv} {c : Nat} {ah : aHp} {st : List Value} {Q : Option Value → aHp → Prop} {a0 a1 a2 : Option Value} {a : Nat} : WP E c 127 17 [a0, a1, a2] (.ref a :: st) ah Q = WPo (oGF (hg E ah a) 8 2) (fun v => WP E c 127 20 [a0, a1, a2] (v :: st) ah Q) := wp_getf i127_17
theorem i127_20 : insAt 127 20 = some (.iload 2, 21) := by decide +kernel
theorem r127_20 {E : aEnv} {c : Nat} {ah : aHp} {st : List Value} {Q : Option Value → aHp → Prop} {a0 a1 : Option Value} {x : Int32} : WP E c 127 20 [a0, a1, some (.int x)] (st) ah Q = WP E c 127 21 [a0, a1, some (.int x)] (.int x :: st) ah Q := wp_s i127_20 rfl rfl rfl rfl
theorem i127_21 : insAt 127 21 = some (.iaload, 22) := by decide +kernel
theorem r127_21 {E : aEnv} {c : Nat} {ah : aHp} {st : List Value} {Q : Option Value → aHp → Prop} {a0 a1 a2 : Option Value} {i : Int32} {a : Nat} : WP E c 127 21 [a0, a1, a2] (.int i :: .ref a :: st) ah Q = WPo (gI E ah (.int i :: .ref a :: st)) (fun s9 => WP E c 127 22 [a0, a1, a2] s9 ah Q) := wp_hr i127_21 rfl rfl rfl rfl rfl rfl rfl rfl
theorem i127_22 : insAt 127 22 = some (.if_icmp .gt 27, 25) := by decide +kernel
theorem r127_22 {E : aEnv} {c : Nat} {ah : aHp} {st : List Value} {Q : Option Value → aHp → Prop} {a0 a1 a2 : Option Value} {x y : Int32} : WP E c 127 22 [a0, a1, a2] (.int y :: .int x :: st) ah Q = if y < x then WP E c 127 27 [a0, a1, a2] st ah Q else WP E c 127 25 [a0, a1, a2] st ah Q := wp_j i127_22 rfl rfl rfl rfl
theorem i127_25 : insAt 127 25 = some (.iload 2, 26) := by decide +kernel
theorem r127_25 {E : aEnv} {c : Nat} {ah : aHp} {st : List Value} {Q : Option Value → aHp → Prop} {a0 a1 : Option Value} {x : Int32} : WP E c 127 25 [a0, a1, some (.int x)] (st) ah Q = WP E c 127 26 [a0, a1, some (.int x)] (.int x :: st) ah Q := wp_s i127_25 rfl rfl rfl rfl
theorem i127_26 : insAt 127 26 = some (.ireturn, 27) := by decide +kernel
theorem r127_26 {E : aEnv} {c : Nat} {ah : aHp} {Q : Option Value → aHp → Prop} {a0 a1 a2 : Option Value} {x : Int32} : WP E c 127 26 [a0, a1, a2] ([.int x]) ah Q = Q (some (.int x)) ah := wp_rt i127_26 rfl
theorem i127_27 : insAt 127 27 = some (.iinc 2 1, 30) := by decide +kernel
theorem r127_27 {E : aEnv} {c : Nat} {ah : aHp} {st : List Value} {Q : Option Value → aHp → Prop} {a0 a1 : Option Value} {x : Int32} : WP E c 127 27 [a0, a1, some (.int x)] (st) ah Q = WP E c 127 30 [a0, kil a1, some (.int (x + 1))] (st) ah Q := wp_s i127_27 rfl rfl rfl rfl
theorem i127_30 : insAt 127 30 = some (.goto 2, 33) := by decide +kernel
theorem r127_30 {E : aEnv} {c : Nat} {ah : aHp} {st : List Value} {Q : Option Value → aHp → Prop} {a0 a1 a2 : Option Value} : WP E c 127 30 [a0, a1, a2] (st) ah Q = WP E c 127 2 [a0, a1, a2] st ah Q := wp_s i127_30 rfl rfl rfl rfl
theorem i127_33 : insAt 127 33 = some (.iconst (-1), 34) := by decide +kernel
theorem r127_33 {E : aEnv} {c : Nat} {ah : aHp} {st : List Value} {Q : Option Value → aHp → Prop} {a0 a1 a2 : Option Value} : WP E c 127 33 [a0, a1, a2] (st) ah Q = WP E c 127 34 [a0, a1, a2] (.int ((-1)) :: st) ah Q := wp_s i127_33 rfl rfl rfl rfl
theorem i127_34 : insAt 127 34 = some (.ireturn, 35) := by decide +kernel
theorem r127_34 {E : aEnv} {c : Nat} {ah : aHp} {Q : Option Value → aHp → Prop} {a0 a1 a2 : Option Value} {x : Int32} : WP E c 127 34 [a0, a1, a2] ([.int x]) ah Q = Q (some (.int x)) ah := wp_rt i127_34 rfl
theorem e128 {E : aEnv} {c : Nat} {ah ahF : aHp} {r : Option Value} {p0 : Nat} {p1 : Int32} {p2 : Int32} (h : WP E c 128 0 [some (.ref p0), some (.int p1), some (.int p2), none] [] ah (fun r1 x1 => r1 = r ∧ x1 = ahF)) : EV E c 128 [.ref p0, .int p1, .int p2] ah r ahF := EV.of (by rw [mr128.2.1]; exact h)
theorem i128_0 : insAt 128 0 = some (.aload 0, 1) := by decide +kernel
theorem r128_0 {E : aEnv} {c : Nat} {ah : aHp} {st : List Value} {Q : Option Value → aHp → Prop} {a1 a2 a3 : Option Value} {x : Nat} : WP E c 128 0 [some (.ref x), a1, a2, a3] (st) ah Q = WP E c 128 1 [some (.ref x), a1, a2, a3] (.ref x :: st) ah Q := wp_s i128_0 rfl rfl rfl rfl
theorem i128_1 : insAt 128 1 = some (.getfield 8032, 4) := by decide +kernel
theorem r128_1 {E : aEnv} {c : Nat} {ah : aHp} {st : List Value} {Q : Option Value → aHp → Prop} {a0 a1 a2 a3 : Option Value} {a : Nat} : WP E c 128 1 [a0, a1, a2, a3] (.ref a :: st) ah Q = WPo (oGF (hg E ah a) 8 3) (fun v => WP E c 128 4 [a0, a1, a2, a3] (v :: st) ah Q) := wp_getf i128_1
theorem i128_4 : insAt 128 4 = some (.iload 1, 5) := by decide +kernel
theorem r128_4 {E : aEnv} {c : Nat} {ah : aHp} {st : List Value} {Q : Option Value → aHp → Prop} {a0 a2 a3 : Option Value} {x : Int32} : WP E c 128 4 [a0, some (.int x), a2, a3] (st) ah Q = WP E c 128 5 [a0, some (.int x), a2, a3] (.int x :: st) ah Q := wp_s i128_4 rfl rfl rfl rfl
theorem i128_5 : insAt 128 5 = some (.iaload, 6) := by decide +kernel
theorem r128_5 {E : aEnv} {c : Nat} {ah : aHp} {st : List Value} {Q : Option Value → aHp → Prop} {a0 a1 a2 a3 : Option Value} {i : Int32} {a : Nat} : WP E c 128 5 [a0, a1, a2, a3] (.int i :: .ref a :: st) ah Q = WPo (gI E ah (.int i :: .ref a :: st)) (fun s9 => WP E c 128 6 [a0, a1, a2, a3] s9 ah Q) := wp_hr i128_5 rfl rfl rfl rfl rfl rfl rfl rfl
theorem i128_6 : insAt 128 6 = some (.iconst 1, 7) := by decide +kernel
theorem r128_6 {E : aEnv} {c : Nat} {ah : aHp} {st : List Value} {Q : Option Value → aHp → Prop} {a0 a1 a2 a3 : Option Value} : WP E c 128 6 [a0, a1, a2, a3] (st) ah Q = WP E c 128 7 [a0, a1, a2, a3] (.int (1) :: st) ah Q := wp_s i128_6 rfl rfl rfl rfl
theorem i128_7 : insAt 128 7 = some (.isub, 8) := by decide +kernel
theorem r128_7 {E : aEnv} {c : Nat} {ah : aHp} {st : List Value} {Q : Option Value → aHp → Prop} {a0 a1 a2 a3 : Option Value} {x y : Int32} : WP E c 128 7 [a0, a1, a2, a3] (.int y :: .int x :: st) ah Q = WP E c 128 8 [a0, a1, a2, a3] (.int (x - y) :: st) ah Q := wp_s i128_7 rfl rfl rfl rfl
theorem i128_8 : insAt 128 8 = some (.istore 3, 9) := by decide +kernel
theorem r128_8 {E : aEnv} {c : Nat} {ah : aHp} {st : List Value} {Q : Option Value → aHp → Prop} {a0 a1 a2 a3 : Option Value} {x : Int32} : WP E c 128 8 [a0, a1, a2, a3] (.int x :: st) ah Q = WP E c 128 9 [a0, a1, kil a2, some (.int x)] (st) ah Q := wp_s i128_8 rfl rfl rfl rfl
theorem i128_9 : insAt 128 9 = some (.iload 3, 10) := by decide +kernel
theorem r128_9 {E : aEnv} {c : Nat} {ah : aHp} {st : List Value} {Q : Option Value → aHp → Prop} {a0 a1 a2 : Option Value} {x : Int32} : WP E c 128 9 [a0, a1, a2, some (.int x)] (st) ah Q = WP E c 128 10 [a0, a1, a2, some (.int x)] (.int x :: st) ah Q := wp_s i128_9 rfl rfl rfl rfl
theorem i128_10 : insAt 128 10 = some (.ifCond .lt 36, 13) := by decide +kernel
theorem r128_10 {E : aEnv} {c : Nat} {ah : aHp} {st : List Value} {Q : Option Value → aHp → Prop} {a0 a1 a2 a3 : Option Value} {x : Int32} : WP E c 128 10 [a0, a1, a2, a3] (.int x :: st) ah Q = if x < 0 then WP E c 128 36 [a0, a1, a2, a3] st ah Q else WP E c 128 13 [a0, a1, a2, a3] st ah Q := wp_j i128_10 rfl rfl rfl rfl
theorem i128_13 : insAt 128 13 = some (.aload 0, 14) := by decide +kernel
theorem r128_13 {E : aEnv} {c : Nat} {ah : aHp} {st : List Value} {Q : Option Value → aHp → Prop} {a1 a2 a3 : Option Value} {x : Nat} : WP E c 128 13 [some (.ref x), a1, a2, a3] (st) ah Q = WP E c 128 14 [some (.ref x), a1, a2, a3] (.ref x :: st) ah Q := wp_s i128_13 rfl rfl rfl rfl
theorem i128_14 : insAt 128 14 = some (.getfield 8002, 17) := by decide +kernel
theorem r128_14 {E : aEnv} {c : Nat} {ah : aHp} {st : List Value} {Q : Option Value → aHp → Prop} {a0 a1 a2 a3 : Option Value} {a : Nat} : WP E c 128 14 [a0, a1, a2, a3] (.ref a :: st) ah Q = WPo (oGF (hg E ah a) 8 0) (fun v => WP E c 128 17 [a0, a1, a2, a3] (v :: st) ah Q) := wp_getf i128_14
theorem i128_17 : insAt 128 17 = some (.iload 3, 18) := by decide +kernel
theorem r128_17 {E : aEnv} {c : Nat} {ah : aHp} {st : List Value} {Q : Option Value → aHp → Prop} {a0 a1 a2 : Option Value} {x : Int32} : WP E c 128 17 [a0, a1, a2, some (.int x)] (st) ah Q = WP E c 128 18 [a0, a1, a2, some (.int x)] (.int x :: st) ah Q := wp_s i128_17 rfl rfl rfl rfl
theorem i128_18 : insAt 128 18 = some (.iaload, 19) := by decide +kernel
theorem r128_18 {E : aEnv} {c : Nat} {ah : aHp} {st : List Value} {Q : Option Value → aHp → Prop} {a0 a1 a2 a3 : Option Value} {i : Int32} {a : Nat} : WP E c 128 18 [a0, a1, a2, a3] (.int i :: .ref a :: st) ah Q = WPo (gI E ah (.int i :: .ref a :: st)) (fun s9 => WP E c 128 19 [a0, a1, a2, a3] s9 ah Q) := wp_hr i128_18 rfl rfl rfl rfl rfl rfl rfl rfl
theorem i128_19 : insAt 128 19 = some (.iload 2, 20) := by decide +kernel
theorem r128_19 {E : aEnv} {c : Nat} {ah : aHp} {st : List Value} {Q : Option Value → aHp → Prop} {a0 a1 a3 : Option Value} {x : Int32} : WP E c 128 19 [a0, a1, some (.int x), a3] (st) ah Q = WP E c 128 20 [a0, a1, some (.int x), a3] (.int x :: st) ah Q := wp_s i128_19 rfl rfl rfl rfl
theorem i128_20 : insAt 128 20 = some (.if_icmp .ne 30, 23) := by decide +kernel
theorem r128_20 {E : aEnv} {c : Nat} {ah : aHp} {st : List Value} {Q : Option Value → aHp → Prop} {a0 a1 a2 a3 : Option Value} {x y : Int32} : WP E c 128 20 [a0, a1, a2, a3] (.int y :: .int x :: st) ah Q = if ¬ x = y then WP E c 128 30 [a0, a1, a2, a3] st ah Q else WP E c 128 23 [a0, a1, a2, a3] st ah Q := wp_j i128_20 rfl rfl rfl rfl
theorem i128_23 : insAt 128 23 = some (.aload 0, 24) := by decide +kernel
theorem r128_23 {E : aEnv} {c : Nat} {ah : aHp} {st : List Value} {Q : Option Value → aHp → Prop} {a1 a2 a3 : Option Value} {x : Nat} : WP E c 128 23 [some (.ref x), a1, a2, a3] (st) ah Q = WP E c 128 24 [some (.ref x), a1, a2, a3] (.ref x :: st) ah Q := wp_s i128_23 rfl rfl rfl rfl
theorem i128_24 : insAt 128 24 = some (.getfield 8012, 27) := by decide +kernel
theorem r128_24 {E : aEnv} {c : Nat} {ah : aHp} {st : List Value} {Q : Option Value → aHp → Prop} {a0 a1 a2 a3 : Option Value} {a : Nat} : WP E c 128 24 [a0, a1, a2, a3] (.ref a :: st) ah Q = WPo (oGF (hg E ah a) 8 1) (fun v => WP E c 128 27 [a0, a1, a2, a3] (v :: st) ah Q) := wp_getf i128_24
theorem i128_27 : insAt 128 27 = some (.iload 3, 28) := by decide +kernel
theorem r128_27 {E : aEnv} {c : Nat} {ah : aHp} {st : List Value} {Q : Option Value → aHp → Prop} {a0 a1 a2 : Option Value} {x : Int32} : WP E c 128 27 [a0, a1, a2, some (.int x)] (st) ah Q = WP E c 128 28 [a0, a1, a2, some (.int x)] (.int x :: st) ah Q := wp_s i128_27 rfl rfl rfl rfl
theorem i128_28 : insAt 128 28 = some (.iaload, 29) := by decide +kernel
theorem r128_28 {E : aEnv} {c : Nat} {ah : aHp} {st : List Value} {Q : Option Value → aHp → Prop} {a0 a1 a2 a3 : Option Value} {i : Int32} {a : Nat} : WP E c 128 28 [a0, a1, a2, a3] (.int i :: .ref a :: st) ah Q = WPo (gI E ah (.int i :: .ref a :: st)) (fun s9 => WP E c 128 29 [a0, a1, a2, a3] s9 ah Q) := wp_hr i128_28 rfl rfl rfl rfl rfl rfl rfl rfl
theorem i128_29 : insAt 128 29 = some (.ireturn, 30) := by decide +kernel
theorem r128_29 {E : aEnv} {c : Nat} {ah : aHp} {Q : Option Value → aHp → Prop} {a0 a1 a2 a3 : Option Value} {x : Int32} : WP E c 128 29 [a0, a1, a2, a3] ([.int x]) ah Q = Q (some (.int x)) ah := wp_rt i128_29 rfl
theorem i128_30 : insAt 128 30 = some (.iinc 3 (-1), 33) := by decide +kernel
theorem r128_30 {E : aEnv} {c : Nat} {ah : aHp} {st : List Value} {Q : Option Value → aHp → Prop} {a0 a1 a2 : Option Value} {x : Int32} : WP E c 128 30 [a0, a1, a2, some (.int x)] (st) ah Q = WP E c 128 33 [a0, a1, kil a2, some (.int (x + (-1)))] (st) ah Q := wp_s i128_30 rfl rfl rfl rfl
theorem i128_33 : insAt 128 33 = some (.goto 9, 36) := by decide +kernel
theorem r128_33 {E : aEnv} {c : Nat} {ah : aHp} {st : List Value} {Q : Option Value → aHp → Prop} {a0 a1 a2 a3 : Option Value} : WP E c 128 33 [a0, a1, a2, a3] (st) ah Q = WP E c 128 9 [a0, a1, a2, a3] st ah Q := wp_s i128_33 rfl rfl rfl rfl
theorem i128_36 : insAt 128 36 = some (.iconst 0, 37) := by decide +kernel
theorem r128_36 {E : aEnv} {c : Nat} {ah : aHp} {st : List Value} {Q : Option Value → aHp → Prop} {a0 a1 a2 a3 : Option Value} : WP E c 128 36 [a0, a1, a2, a3] (st) ah Q = WP E c 128 37 [a0, a1, a2, a3] (.int (0) :: st) ah Q := wp_s i128_36 rfl rfl rfl rfl
theorem i128_37 : insAt 128 37 = some (.ireturn, 38) := by decide +kernel
theorem r128_37 {E : aEnv} {c : Nat} {ah : aHp} {Q : Option Value → aHp → Prop} {a0 a1 a2 a3 : Option Value} {x : Int32} : WP E c 128 37 [a0, a1, a2, a3] ([.int x]) ah Q = Q (some (.int x)) ah := wp_rt i128_37 rfl
theorem e129 {E : aEnv} {c : Nat} {ah ahF : aHp} {r : Option Value} {p0 : Nat} {p1 : Int32} {p2 : Int32} (h : WP E c 129 0 [some (.ref p0), some (.int p1), some (.int p2), none, none, none] [] ah (fun r1 x1 => r1 = r ∧ x1 = ahF)) : EV E c 129 [.ref p0, .int p1, .int p2] ah r ahF := EV.of (by rw [mr129.2.1]; exact h)
theorem i129_0 : insAt 129 0 = some (.iconst 0, 1) := by decide +kernel
theorem r129_0 {E : aEnv} {c : Nat} {ah : aHp} {st : List Value} {Q : Option Value → aHp → Prop} {a0 a1 a2 a3 a4 a5 : Option Value} : WP E c 129 0 [a0, a1, a2, a3, a4, a5] (st) ah Q = WP E c 129 1 [a0, a1, a2, a3, a4, a5] (.int (0) :: st) ah Q := wp_s i129_0 rfl rfl rfl rfl
theorem i129_1 : insAt 129 1 = some (.istore 3, 2) := by decide +kernel
theorem r129_1 {E : aEnv} {c : Nat} {ah : aHp} {st : List Value} {Q : Option Value → aHp → Prop} {a0 a1 a2 a3 a4 a5 : Option Value} {x : Int32} : WP E c 129 1 [a0, a1, a2, a3, a4, a5] (.int x :: st) ah Q = WP E c 129 2 [a0, a1, kil a2, some (.int x), a4, a5] (st) ah Q := wp_s i129_1 rfl rfl rfl rfl
theorem i129_2 : insAt 129 2 = some (.iconst 0, 3) := by decide +kernel
theorem r129_2 {E : aEnv} {c : Nat} {ah : aHp} {st : List Value} {Q : Option Value → aHp → Prop} {a0 a1 a2 a3 a4 a5 : Option Value} : WP E c 129 2 [a0, a1, a2, a3, a4, a5] (st) ah Q = WP E c 129 3 [a0, a1, a2, a3, a4, a5] (.int (0) :: st) ah Q := wp_s i129_2 rfl rfl rfl rfl
theorem i129_3 : insAt 129 3 = some (.istore 4, 5) := by decide +kernel
theorem r129_3 {E : aEnv} {c : Nat} {ah : aHp} {st : List Value} {Q : Option Value → aHp → Prop} {a0 a1 a2 a3 a4 a5 : Option Value} {x : Int32} : WP E c 129 3 [a0, a1, a2, a3, a4, a5] (.int x :: st) ah Q = WP E c 129 5 [a0, a1, a2, kil a3, some (.int x), a5] (st) ah Q := wp_s i129_3 rfl rfl rfl rfl
theorem i129_5 : insAt 129 5 = some (.iload 4, 7) := by decide +kernel
theorem r129_5 {E : aEnv} {c : Nat} {ah : aHp} {st : List Value} {Q : Option Value → aHp → Prop} {a0 a1 a2 a3 a5 : Option Value} {x : Int32} : WP E c 129 5 [a0, a1, a2, a3, some (.int x), a5] (st) ah Q = WP E c 129 7 [a0, a1, a2, a3, some (.int x), a5] (.int x :: st) ah Q := wp_s i129_5 rfl rfl rfl rfl
theorem i129_7 : insAt 129 7 = some (.iconst 40, 9) := by decide +kernel
theorem r129_7 {E : aEnv} {c : Nat} {ah : aHp} {st : List Value} {Q : Option Value → aHp → Prop} {a0 a1 a2 a3 a4 a5 : Option Value} : WP E c 129 7 [a0, a1, a2, a3, a4, a5] (st) ah Q = WP E c 129 9 [a0, a1, a2, a3, a4, a5] (.int (40) :: st) ah Q := wp_s i129_7 rfl rfl rfl rfl
theorem i129_9 : insAt 129 9 = some (.if_icmp .ge 53, 12) := by decide +kernel
theorem r129_9 {E : aEnv} {c : Nat} {ah : aHp} {st : List Value} {Q : Option Value → aHp → Prop} {a0 a1 a2 a3 a4 a5 : Option Value} {x y : Int32} : WP E c 129 9 [a0, a1, a2, a3, a4, a5] (.int y :: .int x :: st) ah Q = if y ≤ x then WP E c 129 53 [a0, a1, a2, a3, a4, a5] st ah Q else WP E c 129 12 [a0, a1, a2, a3, a4, a5] st ah Q := wp_j i129_9 rfl rfl rfl rfl
theorem i129_12 : insAt 129 12 = some (.aload 0, 13) := by decide +kernel
theorem r129_12 {E : aEnv} {c : Nat} {ah : aHp} {st : List Value} {Q : Option Value → aHp → Prop} {a1 a2 a3 a4 a5 : Option Value} {x : Nat} : WP E c 129 12 [some (.ref x), a1, a2, a3, a4, a5] (st) ah Q = WP E c 129 13 [some (.ref x), a1, a2, a3, a4, a5] (.ref x :: st) ah Q := wp_s i129_12 rfl rfl rfl rfl
theorem i129_13 : insAt 129 13 = some (.iload 4, 15) := by decide +kernel
theorem r129_13 {E : aEnv} {c : Nat} {ah : aHp} {st : List Value} {Q : Option Value → aHp → Prop} {a0 a1 a2 a3 a5 : Option Value} {x : Int32} : WP E c 129 13 [a0, a1, a2, a3, some (.int x), a5] (st) ah Q = WP E c 129 15 [a0, a1, a2, a3, some (.int x), a5] (.int x :: st) ah Q := wp_s i129_13 rfl rfl rfl rfl
theorem i129_15 : insAt 129 15 = some (.iload 2, 16) := by decide +kernel
theorem r129_15 {E : aEnv} {c : Nat} {ah : aHp} {st : List Value} {Q : Option Value → aHp → Prop} {a0 a1 a3 a4 a5 : Option Value} {x : Int32} : WP E c 129 15 [a0, a1, some (.int x), a3, a4, a5] (st) ah Q = WP E c 129 16 [a0, a1, some (.int x), a3, a4, a5] (.int x :: st) ah Q := wp_s i129_15 rfl rfl rfl rfl
theorem i129_16 : insAt 129 16 = some (.invokevirtual 130, 19) := by decide +kernel
theorem r129_16 {E : aEnv} {c : Nat} {ah ah1 : aHp} {r : Option Value} {st : List Value} {Q : Option Value → aHp → Prop} {a0 a1 a2 a3 a4 a5 : Option Value} {p0 : Nat} {p1 : Int32} {p2 : Int32} (h : EV E c 130 [.ref p0, .int p1, .int p2] ah r ah1) (h2 : oCI (hg E ah p0) = 8) (h3 : wds st ≤ 8) : WP E (c + 1) 129 16 [a0, a1, a2, a3, a4, a5] (.int p2 :: .int p1 :: .ref p0 :: st) ah Q = WP E (c + 1) 129 19 [a0, a1, a2, a3, a4, a5] (r.toList ++ st) ah1 Q := wp_call (As := [.ref p0, .int p1, .int p2]) i129_16 (fun _ => rfl) rfl mr130.1 (rcv_1 h2 mr130.2.2 (by decide)) h3 (by rw [mr130.2.1]; exact Nat.le_of_ble_eq_true rfl) h
theorem i129_19 : insAt 129 19 = some (.istore 5, 21) := by decide +kernel
theorem r129_19 {E : aEnv} {c : Nat} {ah : aHp} {st : List Value} {Q : Option Value → aHp → Prop} {a0 a1 a2 a3 a4 a5 : Option Value} {x : Int32} : WP E c 129 19 [a0, a1, a2, a3, a4, a5] (.int x :: st) ah Q = WP E c 129 21 [a0, a1, a2, a3, kil a4, some (.int x)] (st) ah Q := wp_s i129_19 rfl rfl rfl rfl
theorem i129_21 : insAt 129 21 = some (.iload 5, 23) := by decide +kernel
theorem r129_21 {E : aEnv} {c : Nat} {ah : aHp} {st : List Value} {Q : Option Value → aHp → Prop} {a0 a1 a2 a3 a4 : Option Value} {x : Int32} : WP E c 129 21 [a0, a1, a2, a3, a4, some (.int x)] (st) ah Q = WP E c 129 23 [a0, a1, a2, a3, a4, some (.int x)] (.int x :: st) ah Q := wp_s i129_21 rfl rfl rfl rfl
theorem i129_23 : insAt 129 23 = some (.iconst (-1), 24) := by decide +kernel
theorem r129_23 {E : aEnv} {c : Nat} {ah : aHp} {st : List Value} {Q : Option Value → aHp → Prop} {a0 a1 a2 a3 a4 a5 : Option Value} : WP E c 129 23 [a0, a1, a2, a3, a4, a5] (st) ah Q = WP E c 129 24 [a0, a1, a2, a3, a4, a5] (.int ((-1)) :: st) ah Q := wp_s i129_23 rfl rfl rfl rfl
theorem i129_24 : insAt 129 24 = some (.if_icmp .eq 47, 27) := by decide +kernel
theorem r129_24 {E : aEnv} {c : Nat} {ah : aHp} {st : List Value} {Q : Option Value → aHp → Prop} {a0 a1 a2 a3 a4 a5 : Option Value} {x y : Int32} : WP E c 129 24 [a0, a1, a2, a3, a4, a5] (.int y :: .int x :: st) ah Q = if x = y then WP E c 129 47 [a0, a1, a2, a3, a4, a5] st ah Q else WP E c 129 27 [a0, a1, a2, a3, a4, a5] st ah Q := wp_j i129_24 rfl rfl rfl rfl
theorem i129_27 : insAt 129 27 = some (.aload 0, 28) := by decide +kernel
theorem r129_27 {E : aEnv} {c : Nat} {ah : aHp} {st : List Value} {Q : Option Value → aHp → Prop} {a1 a2 a3 a4 a5 : Option Value} {x : Nat} : WP E c 129 27 [some (.ref x), a1, a2, a3, a4, a5] (st) ah Q = WP E c 129 28 [some (.ref x), a1, a2, a3, a4, a5] (.ref x :: st) ah Q := wp_s i129_27 rfl rfl rfl rfl
theorem i129_28 : insAt 129 28 = some (.getfield 8062, 31) := by decide +kernel
theorem r129_28 {E : aEnv} {c : Nat} {ah : aHp} {st : List Value} {Q : Option Value → aHp → Prop} {a0 a1 a2 a3 a4 a5 : Option Value} {a : Nat} : WP E c 129 28 [a0, a1, a2, a3, a4, a5] (.ref a :: st) ah Q = WPo (oGF (hg E ah a) 8 6) (fun v => WP E c 129 31 [a0, a1, a2, a3, a4, a5] (v :: st) ah Q) := wp_getf i129_28
theorem i129_31 : insAt 129 31 = some (.iload 5, 33) := by decide +kernel
theorem r129_31 {E : aEnv} {c : Nat} {ah : aHp} {st : List Value} {Q : Option Value → aHp → Prop} {a0 a1 a2 a3 a4 : Option Value} {x : Int32} : WP E c 129 31 [a0, a1, a2, a3, a4, some (.int x)] (st) ah Q = WP E c 129 33 [a0, a1, a2, a3, a4, some (.int x)] (.int x :: st) ah Q := wp_s i129_31 rfl rfl rfl rfl
theorem i129_33 : insAt 129 33 = some (.iaload, 34) := by decide +kernel
theorem r129_33 {E : aEnv} {c : Nat} {ah : aHp} {st : List Value} {Q : Option Value → aHp → Prop} {a0 a1 a2 a3 a4 a5 : Option Value} {i : Int32} {a : Nat} : WP E c 129 33 [a0, a1, a2, a3, a4, a5] (.int i :: .ref a :: st) ah Q = WPo (gI E ah (.int i :: .ref a :: st)) (fun s9 => WP E c 129 34 [a0, a1, a2, a3, a4, a5] s9 ah Q) := wp_hr i129_33 rfl rfl rfl rfl rfl rfl rfl rfl
theorem i129_34 : insAt 129 34 = some (.aload 0, 35) := by decide +kernel
theorem r129_34 {E : aEnv} {c : Nat} {ah : aHp} {st : List Value} {Q : Option Value → aHp → Prop} {a1 a2 a3 a4 a5 : Option Value} {x : Nat} : WP E c 129 34 [some (.ref x), a1, a2, a3, a4, a5] (st) ah Q = WP E c 129 35 [some (.ref x), a1, a2, a3, a4, a5] (.ref x :: st) ah Q := wp_s i129_34 rfl rfl rfl rfl
theorem i129_35 : insAt 129 35 = some (.iload 1, 36) := by decide +kernel
theorem r129_35 {E : aEnv} {c : Nat} {ah : aHp} {st : List Value} {Q : Option Value → aHp → Prop} {a0 a2 a3 a4 a5 : Option Value} {x : Int32} : WP E c 129 35 [a0, some (.int x), a2, a3, a4, a5] (st) ah Q = WP E c 129 36 [a0, some (.int x), a2, a3, a4, a5] (.int x :: st) ah Q := wp_s i129_35 rfl rfl rfl rfl
theorem i129_36 : insAt 129 36 = some (.iload 4, 38) := by decide +kernel
theorem r129_36 {E : aEnv} {c : Nat} {ah : aHp} {st : List Value} {Q : Option Value → aHp → Prop} {a0 a1 a2 a3 a5 : Option Value} {x : Int32} : WP E c 129 36 [a0, a1, a2, a3, some (.int x), a5] (st) ah Q = WP E c 129 38 [a0, a1, a2, a3, some (.int x), a5] (.int x :: st) ah Q := wp_s i129_36 rfl rfl rfl rfl
theorem i129_38 : insAt 129 38 = some (.invokevirtual 128, 41) := by decide +kernel
theorem r129_38 {E : aEnv} {c : Nat} {ah ah1 : aHp} {r : Option Value} {st : List Value} {Q : Option Value → aHp → Prop} {a0 a1 a2 a3 a4 a5 : Option Value} {p0 : Nat} {p1 : Int32} {p2 : Int32} (h : EV E c 128 [.ref p0, .int p1, .int p2] ah r ah1) (h2 : oCI (hg E ah p0) = 8) (h3 : wds st ≤ 8) : WP E (c + 1) 129 38 [a0, a1, a2, a3, a4, a5] (.int p2 :: .int p1 :: .ref p0 :: st) ah Q = WP E (c + 1) 129 41 [a0, a1, a2, a3, a4, a5] (r.toList ++ st) ah1 Q := wp_call (As := [.ref p0, .int p1, .int p2]) i129_38 (fun _ => rfl) rfl mr128.1 (rcv_1 h2 mr128.2.2 (by decide)) h3 (by rw [mr128.2.1]; exact Nat.le_of_ble_eq_true rfl) h
theorem i129_41 : insAt 129 41 = some (.if_icmp .eq 47, 44) := by decide +kernel
theorem r129_41 {E : aEnv} {c : Nat} {ah : aHp} {st : List Value} {Q : Option Value → aHp → Prop} {a0 a1 a2 a3 a4 a5 : Option Value} {x y : Int32} : WP E c 129 41 [a0, a1, a2, a3, a4, a5] (.int y :: .int x :: st) ah Q = if x = y then WP E c 129 47 [a0, a1, a2, a3, a4, a5] st ah Q else WP E c 129 44 [a0, a1, a2, a3, a4, a5] st ah Q := wp_j i129_41 rfl rfl rfl rfl
theorem i129_44 : insAt 129 44 = some (.iinc 3 1, 47) := by decide +kernel
theorem r129_44 {E : aEnv} {c : Nat} {ah : aHp} {st : List Value} {Q : Option Value → aHp → Prop} {a0 a1 a2 a4 a5 : Option Value} {x : Int32} : WP E c 129 44 [a0, a1, a2, some (.int x), a4, a5] (st) ah Q = WP E c 129 47 [a0, a1, kil a2, some (.int (x + 1)), a4, a5] (st) ah Q := wp_s i129_44 rfl rfl rfl rfl
theorem i129_47 : insAt 129 47 = some (.iinc 4 1, 50) := by decide +kernel
theorem r129_47 {E : aEnv} {c : Nat} {ah : aHp} {st : List Value} {Q : Option Value → aHp → Prop} {a0 a1 a2 a3 a5 : Option Value} {x : Int32} : WP E c 129 47 [a0, a1, a2, a3, some (.int x), a5] (st) ah Q = WP E c 129 50 [a0, a1, a2, kil a3, some (.int (x + 1)), a5] (st) ah Q := wp_s i129_47 rfl rfl rfl rfl
theorem i129_50 : insAt 129 50 = some (.goto 5, 53) := by decide +kernel
theorem r129_50 {E : aEnv} {c : Nat} {ah : aHp} {st : List Value} {Q : Option Value → aHp → Prop} {a0 a1 a2 a3 a4 a5 : Option Value} : WP E c 129 50 [a0, a1, a2, a3, a4, a5] (st) ah Q = WP E c 129 5 [a0, a1, a2, a3, a4, a5] st ah Q := wp_s i129_50 rfl rfl rfl rfl
theorem i129_53 : insAt 129 53 = some (.iload 3, 54) := by decide +kernel
theorem r129_53 {E : aEnv} {c : Nat} {ah : aHp} {st : List Value} {Q : Option Value → aHp → Prop} {a0 a1 a2 a4 a5 : Option Value} {x : Int32} : WP E c 129 53 [a0, a1, a2, some (.int x), a4, a5] (st) ah Q = WP E c 129 54 [a0, a1, a2, some (.int x), a4, a5] (.int x :: st) ah Q := wp_s i129_53 rfl rfl rfl rfl
theorem i129_54 : insAt 129 54 = some (.ireturn, 55) := by decide +kernel
theorem r129_54 {E : aEnv} {c : Nat} {ah : aHp} {Q : Option Value → aHp → Prop} {a0 a1 a2 a3 a4 a5 : Option Value} {x : Int32} : WP E c 129 54 [a0, a1, a2, a3, a4, a5] ([.int x]) ah Q = Q (some (.int x)) ah := wp_rt i129_54 rfl
theorem e130 {E : aEnv} {c : Nat} {ah ahF : aHp} {r : Option Value} {p0 : Nat} {p1 : Int32} {p2 : Int32} (h : WP E c 130 0 [some (.ref p0), some (.int p1), some (.int p2), none] [] ah (fun r1 x1 => r1 = r ∧ x1 = ahF)) : EV E c 130 [.ref p0, .int p1, .int p2] ah r ahF := EV.of (by rw [mr130.2.1]; exact h)
theorem i130_0 : insAt 130 0 = some (.aload 0, 1) := by decide +kernel
theorem r130_0 {E : aEnv} {c : Nat} {ah : aHp} {st : List Value} {Q : Option Value → aHp → Prop} {a1 a2 a3 : Option Value} {x : Nat} : WP E c 130 0 [some (.ref x), a1, a2, a3] (st) ah Q = WP E c 130 1 [some (.ref x), a1, a2, a3] (.ref x :: st) ah Q := wp_s i130_0 rfl rfl rfl rfl
theorem i130_1 : insAt 130 1 = some (.getfield 8090, 4) := by decide +kernel
theorem r130_1 {E : aEnv} {c : Nat} {ah : aHp} {st : List Value} {Q : Option Value → aHp → Prop} {a0 a1 a2 a3 : Option Value} {a : Nat} : WP E c 130 1 [a0, a1, a2, a3] (.ref a :: st) ah Q = WPo (oGF (hg E ah a) 8 9) (fun v => WP E c 130 4 [a0, a1, a2, a3] (v :: st) ah Q) := wp_getf i130_1
theorem i130_4 : insAt 130 4 = some (.iconst 1, 5) := by decide +kernel
theorem r130_4 {E : aEnv} {c : Nat} {ah : aHp} {st : List Value} {Q : Option Value → aHp → Prop} {a0 a1 a2 a3 : Option Value} : WP E c 130 4 [a0, a1, a2, a3] (st) ah Q = WP E c 130 5 [a0, a1, a2, a3] (.int (1) :: st) ah Q := wp_s i130_4 rfl rfl rfl rfl
theorem i130_5 : insAt 130 5 = some (.isub, 6) := by decide +kernel
theorem r130_5 {E : aEnv} {c : Nat} {ah : aHp} {st : List Value} {Q : Option Value → aHp → Prop} {a0 a1 a2 a3 : Option Value} {x y : Int32} : WP E c 130 5 [a0, a1, a2, a3] (.int y :: .int x :: st) ah Q = WP E c 130 6 [a0, a1, a2, a3] (.int (x - y) :: st) ah Q := wp_s i130_5 rfl rfl rfl rfl
theorem i130_6 : insAt 130 6 = some (.istore 3, 7) := by decide +kernel
theorem r130_6 {E : aEnv} {c : Nat} {ah : aHp} {st : List Value} {Q : Option Value → aHp → Prop} {a0 a1 a2 a3 : Option Value} {x : Int32} : WP E c 130 6 [a0, a1, a2, a3] (.int x :: st) ah Q = WP E c 130 7 [a0, a1, kil a2, some (.int x)] (st) ah Q := wp_s i130_6 rfl rfl rfl rfl
theorem i130_7 : insAt 130 7 = some (.iload 3, 8) := by decide +kernel
theorem r130_7 {E : aEnv} {c : Nat} {ah : aHp} {st : List Value} {Q : Option Value → aHp → Prop} {a0 a1 a2 : Option Value} {x : Int32} : WP E c 130 7 [a0, a1, a2, some (.int x)] (st) ah Q = WP E c 130 8 [a0, a1, a2, some (.int x)] (.int x :: st) ah Q := wp_s i130_7 rfl rfl rfl rfl
theorem i130_8 : insAt 130 8 = some (.ifCond .lt 39, 11) := by decide +kernel
theorem r130_8 {E : aEnv} {c : Nat} {ah : aHp} {st : List Value} {Q : Option Value → aHp → Prop} {a0 a1 a2 a3 : Option Value} {x : Int32} : WP E c 130 8 [a0, a1, a2, a3] (.int x :: st) ah Q = if x < 0 then WP E c 130 39 [a0, a1, a2, a3] st ah Q else WP E c 130 11 [a0, a1, a2, a3] st ah Q := wp_j i130_8 rfl rfl rfl rfl
theorem i130_11 : insAt 130 11 = some (.aload 0, 12) := by decide +kernel
theorem r130_11 {E : aEnv} {c : Nat} {ah : aHp} {st : List Value} {Q : Option Value → aHp → Prop} {a1 a2 a3 : Option Value} {x : Nat} : WP E c 130 11 [some (.ref x), a1, a2, a3] (st) ah Q = WP E c 130 12 [some (.ref x), a1, a2, a3] (.ref x :: st) ah Q := wp_s i130_11 rfl rfl rfl rfl
theorem i130_12 : insAt 130 12 = some (.getfield 8052, 15) := by decide +kernel
theorem r130_12 {E : aEnv} {c : Nat} {ah : aHp} {st : List Value} {Q : Option Value → aHp → Prop} {a0 a1 a2 a3 : Option Value} {a : Nat} : WP E c 130 12 [a0, a1, a2, a3] (.ref a :: st) ah Q = WPo (oGF (hg E ah a) 8 5) (fun v => WP E c 130 15 [a0, a1, a2, a3] (v :: st) ah Q) := wp_getf i130_12
theorem i130_15 : insAt 130 15 = some (.iload 3, 16) := by decide +kernel
theorem r130_15 {E : aEnv} {c : Nat} {ah : aHp} {st : List Value} {Q : Option Value → aHp → Prop} {a0 a1 a2 : Option Value} {x : Int32} : WP E c 130 15 [a0, a1, a2, some (.int x)] (st) ah Q = WP E c 130 16 [a0, a1, a2, some (.int x)] (.int x :: st) ah Q := wp_s i130_15 rfl rfl rfl rfl
theorem i130_16 : insAt 130 16 = some (.iaload, 17) := by decide +kernel
theorem r130_16 {E : aEnv} {c : Nat} {ah : aHp} {st : List Value} {Q : Option Value → aHp → Prop} {a0 a1 a2 a3 : Option Value} {i : Int32} {a : Nat} : WP E c 130 16 [a0, a1, a2, a3] (.int i :: .ref a :: st) ah Q = WPo (gI E ah (.int i :: .ref a :: st)) (fun s9 => WP E c 130 17 [a0, a1, a2, a3] s9 ah Q) := wp_hr i130_16 rfl rfl rfl rfl rfl rfl rfl rfl
theorem i130_17 : insAt 130 17 = some (.iload 1, 18) := by decide +kernel
theorem r130_17 {E : aEnv} {c : Nat} {ah : aHp} {st : List Value} {Q : Option Value → aHp → Prop} {a0 a2 a3 : Option Value} {x : Int32} : WP E c 130 17 [a0, some (.int x), a2, a3] (st) ah Q = WP E c 130 18 [a0, some (.int x), a2, a3] (.int x :: st) ah Q := wp_s i130_17 rfl rfl rfl rfl
theorem i130_18 : insAt 130 18 = some (.if_icmp .ne 33, 21) := by decide +kernel
theorem r130_18 {E : aEnv} {c : Nat} {ah : aHp} {st : List Value} {Q : Option Value → aHp → Prop} {a0 a1 a2 a3 : Option Value} {x y : Int32} : WP E c 130 18 [a0, a1, a2, a3] (.int y :: .int x :: st) ah Q = if ¬ x = y then WP E c 130 33 [a0, a1, a2, a3] st ah Q else WP E c 130 21 [a0, a1, a2, a3] st ah Q := wp_j i130_18 rfl rfl rfl rfl
theorem i130_21 : insAt 130 21 = some (.aload 0, 22) := by decide +kernel
theorem r130_21 {E : aEnv} {c : Nat} {ah : aHp} {st : List Value} {Q : Option Value → aHp → Prop} {a1 a2 a3 : Option Value} {x : Nat} : WP E c 130 21 [some (.ref x), a1, a2, a3] (st) ah Q = WP E c 130 22 [some (.ref x), a1, a2, a3] (.ref x :: st) ah Q := wp_s i130_21 rfl rfl rfl rfl
theorem i130_22 : insAt 130 22 = some (.getfield 8042, 25) := by decide +kernel
theorem r130_22 {E : aEnv} {c : Nat} {ah : aHp} {st : List Value} {Q : Option Value → aHp → Prop} {a0 a1 a2 a3 : Option Value} {a : Nat} : WP E c 130 22 [a0, a1, a2, a3] (.ref a :: st) ah Q = WPo (oGF (hg E ah a) 8 4) (fun v => WP E c 130 25 [a0, a1, a2, a3] (v :: st) ah Q) := wp_getf i130_22
theorem i130_25 : insAt 130 25 = some (.iload 3, 26) := by decide +kernel
theorem r130_25 {E : aEnv} {c : Nat} {ah : aHp} {st : List Value} {Q : Option Value → aHp → Prop} {a0 a1 a2 : Option Value} {x : Int32} : WP E c 130 25 [a0, a1, a2, some (.int x)] (st) ah Q = WP E c 130 26 [a0, a1, a2, some (.int x)] (.int x :: st) ah Q := wp_s i130_25 rfl rfl rfl rfl
theorem i130_26 : insAt 130 26 = some (.iaload, 27) := by decide +kernel
theorem r130_26 {E : aEnv} {c : Nat} {ah : aHp} {st : List Value} {Q : Option Value → aHp → Prop} {a0 a1 a2 a3 : Option Value} {i : Int32} {a : Nat} : WP E c 130 26 [a0, a1, a2, a3] (.int i :: .ref a :: st) ah Q = WPo (gI E ah (.int i :: .ref a :: st)) (fun s9 => WP E c 130 27 [a0, a1, a2, a3] s9 ah Q) := wp_hr i130_26 rfl rfl rfl rfl rfl rfl rfl rfl
theorem i130_27 : insAt 130 27 = some (.iload 2, 28) := by decide +kernel
theorem r130_27 {E : aEnv} {c : Nat} {ah : aHp} {st : List Value} {Q : Option Value → aHp → Prop} {a0 a1 a3 : Option Value} {x : Int32} : WP E c 130 27 [a0, a1, some (.int x), a3] (st) ah Q = WP E c 130 28 [a0, a1, some (.int x), a3] (.int x :: st) ah Q := wp_s i130_27 rfl rfl rfl rfl
theorem i130_28 : insAt 130 28 = some (.if_icmp .gt 33, 31) := by decide +kernel
theorem r130_28 {E : aEnv} {c : Nat} {ah : aHp} {st : List Value} {Q : Option Value → aHp → Prop} {a0 a1 a2 a3 : Option Value} {x y : Int32} : WP E c 130 28 [a0, a1, a2, a3] (.int y :: .int x :: st) ah Q = if y < x then WP E c 130 33 [a0, a1, a2, a3] st ah Q else WP E c 130 31 [a0, a1, a2, a3] st ah Q := wp_j i130_28 rfl rfl rfl rfl
theorem i130_31 : insAt 130 31 = some (.iload 3, 32) := by decide +kernel
theorem r130_31 {E : aEnv} {c : Nat} {ah : aHp} {st : List Value} {Q : Option Value → aHp → Prop} {a0 a1 a2 : Option Value} {x : Int32} : WP E c 130 31 [a0, a1, a2, some (.int x)] (st) ah Q = WP E c 130 32 [a0, a1, a2, some (.int x)] (.int x :: st) ah Q := wp_s i130_31 rfl rfl rfl rfl
theorem i130_32 : insAt 130 32 = some (.ireturn, 33) := by decide +kernel
theorem r130_32 {E : aEnv} {c : Nat} {ah : aHp} {Q : Option Value → aHp → Prop} {a0 a1 a2 a3 : Option Value} {x : Int32} : WP E c 130 32 [a0, a1, a2, a3] ([.int x]) ah Q = Q (some (.int x)) ah := wp_rt i130_32 rfl
theorem i130_33 : insAt 130 33 = some (.iinc 3 (-1), 36) := by decide +kernel
theorem r130_33 {E : aEnv} {c : Nat} {ah : aHp} {st : List Value} {Q : Option Value → aHp → Prop} {a0 a1 a2 : Option Value} {x : Int32} : WP E c 130 33 [a0, a1, a2, some (.int x)] (st) ah Q = WP E c 130 36 [a0, a1, kil a2, some (.int (x + (-1)))] (st) ah Q := wp_s i130_33 rfl rfl rfl rfl
theorem i130_36 : insAt 130 36 = some (.goto 7, 39) := by decide +kernel
theorem r130_36 {E : aEnv} {c : Nat} {ah : aHp} {st : List Value} {Q : Option Value → aHp → Prop} {a0 a1 a2 a3 : Option Value} : WP E c 130 36 [a0, a1, a2, a3] (st) ah Q = WP E c 130 7 [a0, a1, a2, a3] st ah Q := wp_s i130_36 rfl rfl rfl rfl
theorem i130_39 : insAt 130 39 = some (.iconst (-1), 40) := by decide +kernel
theorem r130_39 {E : aEnv} {c : Nat} {ah : aHp} {st : List Value} {Q : Option Value → aHp → Prop} {a0 a1 a2 a3 : Option Value} : WP E c 130 39 [a0, a1, a2, a3] (st) ah Q = WP E c 130 40 [a0, a1, a2, a3] (.int ((-1)) :: st) ah Q := wp_s i130_39 rfl rfl rfl rfl
theorem i130_40 : insAt 130 40 = some (.ireturn, 41) := by decide +kernel
theorem r130_40 {E : aEnv} {c : Nat} {ah : aHp} {Q : Option Value → aHp → Prop} {a0 a1 a2 a3 : Option Value} {x : Int32} : WP E c 130 40 [a0, a1, a2, a3] ([.int x]) ah Q = Q (some (.int x)) ah := wp_rt i130_40 rfl
theorem e131 {E : aEnv} {c : Nat} {ah ahF : aHp} {r : Option Value} {p0 : Nat} {p1 : Int32} (h : WP E c 131 0 [some (.ref p0), some (.int p1), none, none] [] ah (fun r1 x1 => r1 = r ∧ x1 = ahF)) : EV E c 131 [.ref p0, .int p1] ah r ahF := EV.of (by rw [mr131.2.1]; exact h)
theorem i131_0 : insAt 131 0 = some (.iconst 0, 1) := by decide +kernel
theorem r131_0 {E : aEnv} {c : Nat} {ah : aHp} {st : List Value} {Q : Option Value → aHp → Prop} {a0 a1 a2 a3 : Option Value} : WP E c 131 0 [a0, a1, a2, a3] (st) ah Q = WP E c 131 1 [a0, a1, a2, a3] (.int (0) :: st) ah Q := wp_s i131_0 rfl rfl rfl rfl
theorem i131_1 : insAt 131 1 = some (.istore 2, 2) := by decide +kernel
theorem r131_1 {E : aEnv} {c : Nat} {ah : aHp} {st : List Value} {Q : Option Value → aHp → Prop} {a0 a1 a2 a3 : Option Value} {x : Int32} : WP E c 131 1 [a0, a1, a2, a3] (.int x :: st) ah Q = WP E c 131 2 [a0, kil a1, some (.int x), a3] (st) ah Q := wp_s i131_1 rfl rfl rfl rfl
theorem i131_2 : insAt 131 2 = some (.iconst 0, 3) := by decide +kernel
theorem r131_2 {E : aEnv} {c : Nat} {ah : aHp} {st : List Value} {Q : Option Value → aHp → Prop} {a0 a1 a2 a3 : Option Value} : WP E c 131 2 [a0, a1, a2, a3] (st) ah Q = WP E c 131 3 [a0, a1, a2, a3] (.int (0) :: st) ah Q := wp_s i131_2 rfl rfl rfl rfl
theorem i131_3 : insAt 131 3 = some (.istore 3, 4) := by decide +kernel
theorem r131_3 {E : aEnv} {c : Nat} {ah : aHp} {st : List Value} {Q : Option Value → aHp → Prop} {a0 a1 a2 a3 : Option Value} {x : Int32} : WP E c 131 3 [a0, a1, a2, a3] (.int x :: st) ah Q = WP E c 131 4 [a0, a1, kil a2, some (.int x)] (st) ah Q := wp_s i131_3 rfl rfl rfl rfl
theorem i131_4 : insAt 131 4 = some (.iload 3, 5) := by decide +kernel
theorem r131_4 {E : aEnv} {c : Nat} {ah : aHp} {st : List Value} {Q : Option Value → aHp → Prop} {a0 a1 a2 : Option Value} {x : Int32} : WP E c 131 4 [a0, a1, a2, some (.int x)] (st) ah Q = WP E c 131 5 [a0, a1, a2, some (.int x)] (.int x :: st) ah Q := wp_s i131_4 rfl rfl rfl rfl
theorem i131_5 : insAt 131 5 = some (.aload 0, 6) := by decide +kernel
theorem r131_5 {E : aEnv} {c : Nat} {ah : aHp} {st : List Value} {Q : Option Value → aHp → Prop} {a1 a2 a3 : Option Value} {x : Nat} : WP E c 131 5 [some (.ref x), a1, a2, a3] (st) ah Q = WP E c 131 6 [some (.ref x), a1, a2, a3] (.ref x :: st) ah Q := wp_s i131_5 rfl rfl rfl rfl
theorem i131_6 : insAt 131 6 = some (.getfield 8080, 9) := by decide +kernel
theorem r131_6 {E : aEnv} {c : Nat} {ah : aHp} {st : List Value} {Q : Option Value → aHp → Prop} {a0 a1 a2 a3 : Option Value} {a : Nat} : WP E c 131 6 [a0, a1, a2, a3] (.ref a :: st) ah Q = WPo (oGF (hg E ah a) 8 8) (fun v => WP E c 131 9 [a0, a1, a2, a3] (v :: st) ah Q) := wp_getf i131_6
theorem i131_9 : insAt 131 9 = some (.if_icmp .ge 42, 12) := by decide +kernel
theorem r131_9 {E : aEnv} {c : Nat} {ah : aHp} {st : List Value} {Q : Option Value → aHp → Prop} {a0 a1 a2 a3 : Option Value} {x y : Int32} : WP E c 131 9 [a0, a1, a2, a3] (.int y :: .int x :: st) ah Q = if y ≤ x then WP E c 131 42 [a0, a1, a2, a3] st ah Q else WP E c 131 12 [a0, a1, a2, a3] st ah Q := wp_j i131_9 rfl rfl rfl rfl
theorem i131_12 : insAt 131 12 = some (.aload 0, 13) := by decide +kernel
theorem r131_12 {E : aEnv} {c : Nat} {ah : aHp} {st : List Value} {Q : Option Value → aHp → Prop} {a1 a2 a3 : Option Value} {x : Nat} : WP E c 131 12 [some (.ref x), a1, a2, a3] (st) ah Q = WP E c 131 13 [some (.ref x), a1, a2, a3] (.ref x :: st) ah Q := wp_s i131_12 rfl rfl rfl rfl
theorem i131_13 : insAt 131 13 = some (.iload 3, 14) := by decide +kernel
theorem r131_13 {E : aEnv} {c : Nat} {ah : aHp} {st : List Value} {Q : Option Value → aHp → Prop} {a0 a1 a2 : Option Value} {x : Int32} : WP E c 131 13 [a0, a1, a2, some (.int x)] (st) ah Q = WP E c 131 14 [a0, a1, a2, some (.int x)] (.int x :: st) ah Q := wp_s i131_13 rfl rfl rfl rfl
theorem i131_14 : insAt 131 14 = some (.iload 1, 15) := by decide +kernel
theorem r131_14 {E : aEnv} {c : Nat} {ah : aHp} {st : List Value} {Q : Option Value → aHp → Prop} {a0 a2 a3 : Option Value} {x : Int32} : WP E c 131 14 [a0, some (.int x), a2, a3] (st) ah Q = WP E c 131 15 [a0, some (.int x), a2, a3] (.int x :: st) ah Q := wp_s i131_14 rfl rfl rfl rfl
theorem i131_15 : insAt 131 15 = some (.invokevirtual 129, 18) := by decide +kernel
theorem r131_15 {E : aEnv} {c : Nat} {ah ah1 : aHp} {r : Option Value} {st : List Value} {Q : Option Value → aHp → Prop} {a0 a1 a2 a3 : Option Value} {p0 : Nat} {p1 : Int32} {p2 : Int32} (h : EV E c 129 [.ref p0, .int p1, .int p2] ah r ah1) (h2 : oCI (hg E ah p0) = 8) (h3 : wds st ≤ 8) : WP E (c + 1) 131 15 [a0, a1, a2, a3] (.int p2 :: .int p1 :: .ref p0 :: st) ah Q = WP E (c + 1) 131 18 [a0, a1, a2, a3] (r.toList ++ st) ah1 Q := wp_call (As := [.ref p0, .int p1, .int p2]) i131_15 (fun _ => rfl) rfl mr129.1 (rcv_1 h2 mr129.2.2 (by decide)) h3 (by rw [mr129.2.1]; exact Nat.le_of_ble_eq_true rfl) h
theorem i131_18 : insAt 131 18 = some (.ifCond .le 36, 21) := by decide +kernel
theorem r131_18 {E : aEnv} {c : Nat} {ah : aHp} {st : List Value} {Q : Option Value → aHp → Prop} {a0 a1 a2 a3 : Option Value} {x : Int32} : WP E c 131 18 [a0, a1, a2, a3] (.int x :: st) ah Q = if x ≤ 0 then WP E c 131 36 [a0, a1, a2, a3] st ah Q else WP E c 131 21 [a0, a1, a2, a3] st ah Q := wp_j i131_18 rfl rfl rfl rfl
theorem i131_21 : insAt 131 21 = some (.iload 2, 22) := by decide +kernel
theorem r131_21 {E : aEnv} {c : Nat} {ah : aHp} {st : List Value} {Q : Option Value → aHp → Prop} {a0 a1 a3 : Option Value} {x : Int32} : WP E c 131 21 [a0, a1, some (.int x), a3] (st) ah Q = WP E c 131 22 [a0, a1, some (.int x), a3] (.int x :: st) ah Q := wp_s i131_21 rfl rfl rfl rfl
theorem i131_22 : insAt 131 22 = some (.aload 0, 23) := by decide +kernel
theorem r131_22 {E : aEnv} {c : Nat} {ah : aHp} {st : List Value} {Q : Option Value → aHp → Prop} {a1 a2 a3 : Option Value} {x : Nat} : WP E c 131 22 [some (.ref x), a1, a2, a3] (st) ah Q = WP E c 131 23 [some (.ref x), a1, a2, a3] (.ref x :: st) ah Q := wp_s i131_22 rfl rfl rfl rfl
theorem i131_23 : insAt 131 23 = some (.getfield 8022, 26) := by decide +kernel
theorem r131_23 {E : aEnv} {c : Nat} {ah : aHp} {st : List Value} {Q : Option Value → aHp → Prop} {a0 a1 a2 a3 : Option Value} {a : Nat} : WP E c 131 23 [a0, a1, a2, a3] (.ref a :: st) ah Q = WPo (oGF (hg E ah a) 8 2) (fun v => WP E c 131 26 [a0, a1, a2, a3] (v :: st) ah Q) := wp_getf i131_23
theorem i131_26 : insAt 131 26 = some (.iload 3, 27) := by decide +kernel
theorem r131_26 {E : aEnv} {c : Nat} {ah : aHp} {st : List Value} {Q : Option Value → aHp → Prop} {a0 a1 a2 : Option Value} {x : Int32} : WP E c 131 26 [a0, a1, a2, some (.int x)] (st) ah Q = WP E c 131 27 [a0, a1, a2, some (.int x)] (.int x :: st) ah Q := wp_s i131_26 rfl rfl rfl rfl
theorem i131_27 : insAt 131 27 = some (.iaload, 28) := by decide +kernel
theorem r131_27 {E : aEnv} {c : Nat} {ah : aHp} {st : List Value} {Q : Option Value → aHp → Prop} {a0 a1 a2 a3 : Option Value} {i : Int32} {a : Nat} : WP E c 131 27 [a0, a1, a2, a3] (.int i :: .ref a :: st) ah Q = WPo (gI E ah (.int i :: .ref a :: st)) (fun s9 => WP E c 131 28 [a0, a1, a2, a3] s9 ah Q) := wp_hr i131_27 rfl rfl rfl rfl rfl rfl rfl rfl
theorem i131_28 : insAt 131 28 = some (.aload 0, 29) := by decide +kernel
theorem r131_28 {E : aEnv} {c : Nat} {ah : aHp} {st : List Value} {Q : Option Value → aHp → Prop} {a1 a2 a3 : Option Value} {x : Nat} : WP E c 131 28 [some (.ref x), a1, a2, a3] (st) ah Q = WP E c 131 29 [some (.ref x), a1, a2, a3] (.ref x :: st) ah Q := wp_s i131_28 rfl rfl rfl rfl
theorem i131_29 : insAt 131 29 = some (.iload 3, 30) := by decide +kernel
theorem r131_29 {E : aEnv} {c : Nat} {ah : aHp} {st : List Value} {Q : Option Value → aHp → Prop} {a0 a1 a2 : Option Value} {x : Int32} : WP E c 131 29 [a0, a1, a2, some (.int x)] (st) ah Q = WP E c 131 30 [a0, a1, a2, some (.int x)] (.int x :: st) ah Q := wp_s i131_29 rfl rfl rfl rfl
theorem i131_30 : insAt 131 30 = some (.invokevirtual 126, 33) := by decide +kernel
theorem r131_30 {E : aEnv} {c : Nat} {ah ah1 : aHp} {r : Option Value} {st : List Value} {Q : Option Value → aHp → Prop} {a0 a1 a2 a3 : Option Value} {p0 : Nat} {p1 : Int32} (h : EV E c 126 [.ref p0, .int p1] ah r ah1) (h2 : oCI (hg E ah p0) = 8) (h3 : wds st ≤ 8) : WP E (c + 1) 131 30 [a0, a1, a2, a3] (.int p1 :: .ref p0 :: st) ah Q = WP E (c + 1) 131 33 [a0, a1, a2, a3] (r.toList ++ st) ah1 Q := wp_call (As := [.ref p0, .int p1]) i131_30 (fun _ => rfl) rfl mr126.1 (rcv_1 h2 mr126.2.2 (by decide)) h3 (by rw [mr126.2.1]; exact Nat.le_of_ble_eq_true rfl) h
theorem i131_33 : insAt 131 33 = some (.isub, 34) := by decide +kernel
theorem r131_33 {E : aEnv} {c : Nat} {ah : aHp} {st : List Value} {Q : Option Value → aHp → Prop} {a0 a1 a2 a3 : Option Value} {x y : Int32} : WP E c 131 33 [a0, a1, a2, a3] (.int y :: .int x :: st) ah Q = WP E c 131 34 [a0, a1, a2, a3] (.int (x - y) :: st) ah Q := wp_s i131_33 rfl rfl rfl rfl
theorem i131_34 : insAt 131 34 = some (.iadd, 35) := by decide +kernel
theorem r131_34 {E : aEnv} {c : Nat} {ah : aHp} {st : List Value} {Q : Option Value → aHp → Prop} {a0 a1 a2 a3 : Option Value} {x y : Int32} : WP E c 131 34 [a0, a1, a2, a3] (.int y :: .int x :: st) ah Q = WP E c 131 35 [a0, a1, a2, a3] (.int (x + y) :: st) ah Q := wp_s i131_34 rfl rfl rfl rfl
theorem i131_35 : insAt 131 35 = some (.istore 2, 36) := by decide +kernel
theorem r131_35 {E : aEnv} {c : Nat} {ah : aHp} {st : List Value} {Q : Option Value → aHp → Prop} {a0 a1 a2 a3 : Option Value} {x : Int32} : WP E c 131 35 [a0, a1, a2, a3] (.int x :: st) ah Q = WP E c 131 36 [a0, kil a1, some (.int x), a3] (st) ah Q := wp_s i131_35 rfl rfl rfl rfl
theorem i131_36 : insAt 131 36 = some (.iinc 3 1, 39) := by decide +kernel
theorem r131_36 {E : aEnv} {c : Nat} {ah : aHp} {st : List Value} {Q : Option Value → aHp → Prop} {a0 a1 a2 : Option Value} {x : Int32} : WP E c 131 36 [a0, a1, a2, some (.int x)] (st) ah Q = WP E c 131 39 [a0, a1, kil a2, some (.int (x + 1))] (st) ah Q := wp_s i131_36 rfl rfl rfl rfl
theorem i131_39 : insAt 131 39 = some (.goto 4, 42) := by decide +kernel
theorem r131_39 {E : aEnv} {c : Nat} {ah : aHp} {st : List Value} {Q : Option Value → aHp → Prop} {a0 a1 a2 a3 : Option Value} : WP E c 131 39 [a0, a1, a2, a3] (st) ah Q = WP E c 131 4 [a0, a1, a2, a3] st ah Q := wp_s i131_39 rfl rfl rfl rfl
theorem i131_42 : insAt 131 42 = some (.iload 2, 43) := by decide +kernel
theorem r131_42 {E : aEnv} {c : Nat} {ah : aHp} {st : List Value} {Q : Option Value → aHp → Prop} {a0 a1 a3 : Option Value} {x : Int32} : WP E c 131 42 [a0, a1, some (.int x), a3] (st) ah Q = WP E c 131 43 [a0, a1, some (.int x), a3] (.int x :: st) ah Q := wp_s i131_42 rfl rfl rfl rfl
theorem i131_43 : insAt 131 43 = some (.ireturn, 44) := by decide +kernel
theorem r131_43 {E : aEnv} {c : Nat} {ah : aHp} {Q : Option Value → aHp → Prop} {a0 a1 a2 a3 : Option Value} {x : Int32} : WP E c 131 43 [a0, a1, a2, a3] ([.int x]) ah Q = Q (some (.int x)) ah := wp_rt i131_43 rfl
