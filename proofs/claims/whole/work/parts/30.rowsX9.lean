/-! rows of the code, by program (genrows.py) -/
theorem mr116 : (mrow 116).2.2.2.2.1 = 1 ∧ (mrow 116).2.2.1 = 1 ∧ (mrow 116).2.2.2.2.2 = 8 := by decide +kernel
theorem mr117 : (mrow 117).2.2.2.2.1 = 2 ∧ (mrow 117).2.2.1 = 2 ∧ (mrow 117).2.2.2.2.2 = 8 := by decide +kernel
theorem mr118 : (mrow 118).2.2.2.2.1 = 2 ∧ (mrow 118).2.2.1 = 2 ∧ (mrow 118).2.2.2.2.2 = 8 := by decide +kernel
theorem mr119 : (mrow 119).2.2.2.2.1 = 1 ∧ (mrow 119).2.2.1 = 1 ∧ (mrow 119).2.2.2.2.2 = 8 := by decide +kernel
theorem mr120 : (mrow 120).2.2.2.2.1 = 1 ∧ (mrow 120).2.2.1 = 1 ∧ (mrow 120).2.2.2.2.2 = 8 := by decide +kernel
theorem mr121 : (mrow 121).2.2.2.2.1 = 5 ∧ (mrow 121).2.2.1 = 5 ∧ (mrow 121).2.2.2.2.2 = 8 := by decide +kernel
theorem mr122 : (mrow 122).2.2.2.2.1 = 3 ∧ (mrow 122).2.2.1 = 3 ∧ (mrow 122).2.2.2.2.2 = 8 := by decide +kernel
theorem mr123 : (mrow 123).2.2.2.2.1 = 4 ∧ (mrow 123).2.2.1 = 4 ∧ (mrow 123).2.2.2.2.2 = 8 := by decide +kernel
theorem mr124 : (mrow 124).2.2.2.2.1 = 4 ∧ (mrow 124).2.2.1 = 4 ∧ (mrow 124).2.2.2.2.2 = 8 := by decide +kernel
theorem mr125 : (mrow 125).2.2.2.2.1 = 3 ∧ (mrow 125).2.2.1 = 3 ∧ (mrow 125).2.2.2.2.2 = 8 := by decide +kernel
theorem mr126 : (mrow 126).2.2.2.2.1 = 2 ∧ (mrow 126).2.2.1 = 2 ∧ (mrow 126).2.2.2.2.2 = 8 := by decide +kernel
theorem mr127 : (mrow 127).2.2.2.2.1 = 2 ∧ (mrow 127).2.2.1 = 3 ∧ (mrow 127).2.2.2.2.2 = 8 := by decide +kernel
theorem mr128 : (mrow 128).2.2.2.2.1 = 3 ∧ (mrow 128).2.2.1 = 4 ∧ (mrow 128).2.2.2.2.2 = 8 := by decide +kernel
theorem mr129 : (mrow 129).2.2.2.2.1 = 3 ∧ (mrow 129).2.2.1 = 6 ∧ (mrow 129).2.2.2.2.2 = 8 := by decide +kernel
theorem mr130 : (mrow 130).2.2.2.2.1 = 3 ∧ (mrow 130).2.2.1 = 4 ∧ (mrow 130).2.2.2.2.2 = 8 := by decide +kernel
theorem mr131 : (mrow 131).2.2.2.2.1 = 2 ∧ (mrow 131).2.2.1 = 4 ∧ (mrow 131).2.2.2.2.2 = 8 := by decide +kernel
theorem e116 {E : aEnv} {c : Nat} {ah ahF : aHp} {r : Option Value} {p0 : Nat} (h : WP E c 116 0 [some (.ref p0)] [] ah (fun r1 x1 => r1 = r ∧ x1 = ahF)) : EV E c 116 [.ref p0] ah r ahF := EV.of (by rw [mr116.2.1]; exact h)
theorem i116_0 : insAt 116 0 = some (.aload 0, 1) := by decide +kernel
theorem r116_0 {E : aEnv} {c : Nat} {ah : aHp} {st : List Value} {Q : Option Value → aHp → Prop} {x : Nat} : WP E c 116 0 [some (.ref x)] (st) ah Q = WP E c 116 1 [some (.ref x)] (.ref x :: st) ah Q := wp_s i116_0 rfl rfl rfl rfl
theorem i116_1 : insAt 116 1 = some (.ldc_w 4, 4) := by decide +kernel
-- 116 1 .ldc_w 4
theorem i116_4 : insAt 116 4 = some (.aload 0, 5) := by decide +kernel
theorem r116_4 {E : aEnv} {c : Nat} {ah : aHp} {st : List Value} {Q : Option Value → aHp → Prop} {x : Nat} : WP E c 116 4 [some (.ref x)] (st) ah Q = WP E c 116 5 [some (.ref x)] (.ref x :: st) ah Q := wp_s i116_4 rfl rfl rfl rfl
theorem i116_5 : insAt 116 5 = some (.iconst 100, 7) := by decide +kernel
theorem r116_5 {E : aEnv} {c : Nat} {ah : aHp} {st : List Value} {Q : Option Value → aHp → Prop} {a0 : Option Value} : WP E c 116 5 [a0] (st) ah Q = WP E c 116 7 [a0] (.int (100) :: st) ah Q := wp_s i116_5 rfl rfl rfl rfl
theorem i116_7 : insAt 116 7 = some (.newarray .int, 9) := by decide +kernel
theorem r116_7 {E : aEnv} {c : Nat} {ah : aHp} {st : List Value} {Q : Option Value → aHp → Prop} {a0 : Option Value} {x : Int32} : WP E c 116 7 [a0] (.int x :: st) ah Q = WPo (nR E ah 0 (.int x :: st)) (fun q9 => WP E c 116 9 [a0] q9.1 q9.2 Q) := wp_hw i116_7 rfl rfl rfl rfl rfl rfl rfl rfl
theorem i116_9 : insAt 116 9 = some (.putfield 8002, 12) := by decide +kernel
theorem r116_9 {E : aEnv} {c : Nat} {ah : aHp} {st : List Value} {Q : Option Value → aHp → Prop} {a0 : Option Value} {a : Nat} {v : Value} : WP E c 116 9 [a0] (v :: .ref a :: st) ah Q = WPo (oPF (hg E ah a) 8002 v) (fun e => WP E c 116 12 [a0] st (hs E ah a e) Q) := wp_putf i116_9
theorem i116_12 : insAt 116 12 = some (.aload 0, 13) := by decide +kernel
theorem r116_12 {E : aEnv} {c : Nat} {ah : aHp} {st : List Value} {Q : Option Value → aHp → Prop} {x : Nat} : WP E c 116 12 [some (.ref x)] (st) ah Q = WP E c 116 13 [some (.ref x)] (.ref x :: st) ah Q := wp_s i116_12 rfl rfl rfl rfl
theorem i116_13 : insAt 116 13 = some (.iconst 100, 15) := by decide +kernel
theorem r116_13 {E : aEnv} {c : Nat} {ah : aHp} {st : List Value} {Q : Option Value → aHp → Prop} {a0 : Option Value} : WP E c 116 13 [a0] (st) ah Q = WP E c 116 15 [a0] (.int (100) :: st) ah Q := wp_s i116_13 rfl rfl rfl rfl
theorem i116_15 : insAt 116 15 = some (.newarray .int, 17) := by decide +kernel
theorem r116_15 {E : aEnv} {c : Nat} {ah : aHp} {st : List Value} {Q : Option Value → aHp → Prop} {a0 : Option Value} {x : Int32} : WP E c 116 15 [a0] (.int x :: st) ah Q = WPo (nR E ah 0 (.int x :: st)) (fun q9 => WP E c 116 17 [a0] q9.1 q9.2 Q) := wp_hw i116_15 rfl rfl rfl rfl rfl rfl rfl rfl
theorem i116_17 : insAt 116 17 = some (.putfield 8012, 20) := by decide +kernel
theorem r116_17 {E : aEnv} {c : Nat} {ah : aHp} {st : List Value} {Q : Option Value → aHp → Prop} {a0 : Option Value} {a : Nat} {v : Value} : WP E c 116 17 [a0] (v :: .ref a :: st) ah Q = WPo (oPF (hg E ah a) 8012 v) (fun e => WP E c 116 20 [a0] st (hs E ah a e) Q) := wp_putf i116_17
theorem i116_20 : insAt 116 20 = some (.aload 0, 21) := by decide +kernel
theorem r116_20 {E : aEnv} {c : Nat} {ah : aHp} {st : List Value} {Q : Option Value → aHp → Prop} {x : Nat} : WP E c 116 20 [some (.ref x)] (st) ah Q = WP E c 116 21 [some (.ref x)] (.ref x :: st) ah Q := wp_s i116_20 rfl rfl rfl rfl
theorem i116_21 : insAt 116 21 = some (.iconst 20, 23) := by decide +kernel
theorem r116_21 {E : aEnv} {c : Nat} {ah : aHp} {st : List Value} {Q : Option Value → aHp → Prop} {a0 : Option Value} : WP E c 116 21 [a0] (st) ah Q = WP E c 116 23 [a0] (.int (20) :: st) ah Q := wp_s i116_21 rfl rfl rfl rfl
theorem i116_23 : insAt 116 23 = some (.newarray .int, 25) := by decide +kernel
theorem r116_23 {E : aEnv} {c : Nat} {ah : aHp} {st : List Value} {Q : Option Value → aHp → Prop} {a0 : Option Value} {x : Int32} : WP E c 116 23 [a0] (.int x :: st) ah Q = WPo (nR E ah 0 (.int x :: st)) (fun q9 => WP E c 116 25 [a0] q9.1 q9.2 Q) := wp_hw i116_23 rfl rfl rfl rfl rfl rfl rfl rfl
theorem i116_25 : insAt 116 25 = some (.putfield 8022, 28) := by decide +kernel
theorem r116_25 {E : aEnv} {c : Nat} {ah : aHp} {st : List Value} {Q : Option Value → aHp → Prop} {a0 : Option Value} {a : Nat} {v : Value} : WP E c 116 25 [a0] (v :: .ref a :: st) ah Q = WPo (oPF (hg E ah a) 8022 v) (fun e => WP E c 116 28 [a0] st (hs E ah a e) Q) := wp_putf i116_25
theorem i116_28 : insAt 116 28 = some (.aload 0, 29) := by decide +kernel
theorem r116_28 {E : aEnv} {c : Nat} {ah : aHp} {st : List Value} {Q : Option Value → aHp → Prop} {x : Nat} : WP E c 116 28 [some (.ref x)] (st) ah Q = WP E c 116 29 [some (.ref x)] (.ref x :: st) ah Q := wp_s i116_28 rfl rfl rfl rfl
theorem i116_29 : insAt 116 29 = some (.iconst 20, 31) := by decide +kernel
theorem r116_29 {E : aEnv} {c : Nat} {ah : aHp} {st : List Value} {Q : Option Value → aHp → Prop} {a0 : Option Value} : WP E c 116 29 [a0] (st) ah Q = WP E c 116 31 [a0] (.int (20) :: st) ah Q := wp_s i116_29 rfl rfl rfl rfl
theorem i116_31 : insAt 116 31 = some (.newarray .int, 33) := by decide +kernel
theorem r116_31 {E : aEnv} {c : Nat} {ah : aHp} {st : List Value} {Q : Option Value → aHp → Prop} {a0 : Option Value} {x : Int32} : WP E c 116 31 [a0] (.int x :: st) ah Q = WPo (nR E ah 0 (.int x :: st)) (fun q9 => WP E c 116 33 [a0] q9.1 q9.2 Q) := wp_hw i116_31 rfl rfl rfl rfl rfl rfl rfl rfl
theorem i116_33 : insAt 116 33 = some (.putfield 8032, 36) := by decide +kernel
theorem r116_33 {E : aEnv} {c : Nat} {ah : aHp} {st : List Value} {Q : Option Value → aHp → Prop} {a0 : Option Value} {a : Nat} {v : Value} : WP E c 116 33 [a0] (v :: .ref a :: st) ah Q = WPo (oPF (hg E ah a) 8032 v) (fun e => WP E c 116 36 [a0] st (hs E ah a e) Q) := wp_putf i116_33
theorem i116_36 : insAt 116 36 = some (.aload 0, 37) := by decide +kernel
theorem r116_36 {E : aEnv} {c : Nat} {ah : aHp} {st : List Value} {Q : Option Value → aHp → Prop} {x : Nat} : WP E c 116 36 [some (.ref x)] (st) ah Q = WP E c 116 37 [some (.ref x)] (.ref x :: st) ah Q := wp_s i116_36 rfl rfl rfl rfl
theorem i116_37 : insAt 116 37 = some (.iconst 60, 39) := by decide +kernel
theorem r116_37 {E : aEnv} {c : Nat} {ah : aHp} {st : List Value} {Q : Option Value → aHp → Prop} {a0 : Option Value} : WP E c 116 37 [a0] (st) ah Q = WP E c 116 39 [a0] (.int (60) :: st) ah Q := wp_s i116_37 rfl rfl rfl rfl
theorem i116_39 : insAt 116 39 = some (.newarray .int, 41) := by decide +kernel
theorem r116_39 {E : aEnv} {c : Nat} {ah : aHp} {st : List Value} {Q : Option Value → aHp → Prop} {a0 : Option Value} {x : Int32} : WP E c 116 39 [a0] (.int x :: st) ah Q = WPo (nR E ah 0 (.int x :: st)) (fun q9 => WP E c 116 41 [a0] q9.1 q9.2 Q) := wp_hw i116_39 rfl rfl rfl rfl rfl rfl rfl rfl
theorem i116_41 : insAt 116 41 = some (.putfield 8042, 44) := by decide +kernel
theorem r116_41 {E : aEnv} {c : Nat} {ah : aHp} {st : List Value} {Q : Option Value → aHp → Prop} {a0 : Option Value} {a : Nat} {v : Value} : WP E c 116 41 [a0] (v :: .ref a :: st) ah Q = WPo (oPF (hg E ah a) 8042 v) (fun e => WP E c 116 44 [a0] st (hs E ah a e) Q) := wp_putf i116_41
theorem i116_44 : insAt 116 44 = some (.aload 0, 45) := by decide +kernel
theorem r116_44 {E : aEnv} {c : Nat} {ah : aHp} {st : List Value} {Q : Option Value → aHp → Prop} {x : Nat} : WP E c 116 44 [some (.ref x)] (st) ah Q = WP E c 116 45 [some (.ref x)] (.ref x :: st) ah Q := wp_s i116_44 rfl rfl rfl rfl
theorem i116_45 : insAt 116 45 = some (.iconst 60, 47) := by decide +kernel
theorem r116_45 {E : aEnv} {c : Nat} {ah : aHp} {st : List Value} {Q : Option Value → aHp → Prop} {a0 : Option Value} : WP E c 116 45 [a0] (st) ah Q = WP E c 116 47 [a0] (.int (60) :: st) ah Q := wp_s i116_45 rfl rfl rfl rfl
theorem i116_47 : insAt 116 47 = some (.newarray .int, 49) := by decide +kernel
theorem r116_47 {E : aEnv} {c : Nat} {ah : aHp} {st : List Value} {Q : Option Value → aHp → Prop} {a0 : Option Value} {x : Int32} : WP E c 116 47 [a0] (.int x :: st) ah Q = WPo (nR E ah 0 (.int x :: st)) (fun q9 => WP E c 116 49 [a0] q9.1 q9.2 Q) := wp_hw i116_47 rfl rfl rfl rfl rfl rfl rfl rfl
theorem i116_49 : insAt 116 49 = some (.putfield 8052, 52) := by decide +kernel
theorem r116_49 {E : aEnv} {c : Nat} {ah : aHp} {st : List Value} {Q : Option Value → aHp → Prop} {a0 : Option Value} {a : Nat} {v : Value} : WP E c 116 49 [a0] (v :: .ref a :: st) ah Q = WPo (oPF (hg E ah a) 8052 v) (fun e => WP E c 116 52 [a0] st (hs E ah a e) Q) := wp_putf i116_49
theorem i116_52 : insAt 116 52 = some (.aload 0, 53) := by decide +kernel
theorem r116_52 {E : aEnv} {c : Nat} {ah : aHp} {st : List Value} {Q : Option Value → aHp → Prop} {x : Nat} : WP E c 116 52 [some (.ref x)] (st) ah Q = WP E c 116 53 [some (.ref x)] (.ref x :: st) ah Q := wp_s i116_52 rfl rfl rfl rfl
theorem i116_53 : insAt 116 53 = some (.iconst 60, 55) := by decide +kernel
theorem r116_53 {E : aEnv} {c : Nat} {ah : aHp} {st : List Value} {Q : Option Value → aHp → Prop} {a0 : Option Value} : WP E c 116 53 [a0] (st) ah Q = WP E c 116 55 [a0] (.int (60) :: st) ah Q := wp_s i116_53 rfl rfl rfl rfl
theorem i116_55 : insAt 116 55 = some (.newarray .int, 57) := by decide +kernel
theorem r116_55 {E : aEnv} {c : Nat} {ah : aHp} {st : List Value} {Q : Option Value → aHp → Prop} {a0 : Option Value} {x : Int32} : WP E c 116 55 [a0] (.int x :: st) ah Q = WPo (nR E ah 0 (.int x :: st)) (fun q9 => WP E c 116 57 [a0] q9.1 q9.2 Q) := wp_hw i116_55 rfl rfl rfl rfl rfl rfl rfl rfl
theorem i116_57 : insAt 116 57 = some (.putfield 8062, 60) := by decide +kernel
theorem r116_57 {E : aEnv} {c : Nat} {ah : aHp} {st : List Value} {Q : Option Value → aHp → Prop} {a0 : Option Value} {a : Nat} {v : Value} : WP E c 116 57 [a0] (v :: .ref a :: st) ah Q = WPo (oPF (hg E ah a) 8062 v) (fun e => WP E c 116 60 [a0] st (hs E ah a e) Q) := wp_putf i116_57
theorem i116_60 : insAt 116 60 = some (.return_, 61) := by decide +kernel
theorem r116_60 {E : aEnv} {c : Nat} {ah : aHp} {Q : Option Value → aHp → Prop} {a0 : Option Value} : WP E c 116 60 [a0] ([]) ah Q = Q none ah := wp_rt i116_60 rfl
theorem e117 {E : aEnv} {c : Nat} {ah ahF : aHp} {r : Option Value} {p0 : Nat} {p1 : Int32} (h : WP E c 117 0 [some (.ref p0), some (.int p1)] [] ah (fun r1 x1 => r1 = r ∧ x1 = ahF)) : EV E c 117 [.ref p0, .int p1] ah r ahF := EV.of (by rw [mr117.2.1]; exact h)
theorem i117_0 : insAt 117 0 = some (.iload 1, 1) := by decide +kernel
theorem r117_0 {E : aEnv} {c : Nat} {ah : aHp} {st : List Value} {Q : Option Value → aHp → Prop} {a0 : Option Value} {x : Int32} : WP E c 117 0 [a0, some (.int x)] (st) ah Q = WP E c 117 1 [a0, some (.int x)] (.int x :: st) ah Q := wp_s i117_0 rfl rfl rfl rfl
theorem i117_1 : insAt 117 1 = some (.ifCond .lt 14, 4) := by decide +kernel
theorem r117_1 {E : aEnv} {c : Nat} {ah : aHp} {st : List Value} {Q : Option Value → aHp → Prop} {a0 a1 : Option Value} {x : Int32} : WP E c 117 1 [a0, a1] (.int x :: st) ah Q = if x < 0 then WP E c 117 14 [a0, a1] st ah Q else WP E c 117 4 [a0, a1] st ah Q := wp_j i117_1 rfl rfl rfl rfl
theorem i117_4 : insAt 117 4 = some (.iload 1, 5) := by decide +kernel
theorem r117_4 {E : aEnv} {c : Nat} {ah : aHp} {st : List Value} {Q : Option Value → aHp → Prop} {a0 : Option Value} {x : Int32} : WP E c 117 4 [a0, some (.int x)] (st) ah Q = WP E c 117 5 [a0, some (.int x)] (.int x :: st) ah Q := wp_s i117_4 rfl rfl rfl rfl
theorem i117_5 : insAt 117 5 = some (.iconst 40, 7) := by decide +kernel
theorem r117_5 {E : aEnv} {c : Nat} {ah : aHp} {st : List Value} {Q : Option Value → aHp → Prop} {a0 a1 : Option Value} : WP E c 117 5 [a0, a1] (st) ah Q = WP E c 117 7 [a0, a1] (.int (40) :: st) ah Q := wp_s i117_5 rfl rfl rfl rfl
theorem i117_7 : insAt 117 7 = some (.if_icmp .ge 14, 10) := by decide +kernel
theorem r117_7 {E : aEnv} {c : Nat} {ah : aHp} {st : List Value} {Q : Option Value → aHp → Prop} {a0 a1 : Option Value} {x y : Int32} : WP E c 117 7 [a0, a1] (.int y :: .int x :: st) ah Q = if y ≤ x then WP E c 117 14 [a0, a1] st ah Q else WP E c 117 10 [a0, a1] st ah Q := wp_j i117_7 rfl rfl rfl rfl
theorem i117_10 : insAt 117 10 = some (.iconst 1, 11) := by decide +kernel
theorem r117_10 {E : aEnv} {c : Nat} {ah : aHp} {st : List Value} {Q : Option Value → aHp → Prop} {a0 a1 : Option Value} : WP E c 117 10 [a0, a1] (st) ah Q = WP E c 117 11 [a0, a1] (.int (1) :: st) ah Q := wp_s i117_10 rfl rfl rfl rfl
theorem i117_11 : insAt 117 11 = some (.goto 15, 14) := by decide +kernel
theorem r117_11 {E : aEnv} {c : Nat} {ah : aHp} {st : List Value} {Q : Option Value → aHp → Prop} {a0 a1 : Option Value} : WP E c 117 11 [a0, a1] (st) ah Q = WP E c 117 15 [a0, a1] st ah Q := wp_s i117_11 rfl rfl rfl rfl
theorem i117_14 : insAt 117 14 = some (.iconst 0, 15) := by decide +kernel
theorem r117_14 {E : aEnv} {c : Nat} {ah : aHp} {st : List Value} {Q : Option Value → aHp → Prop} {a0 a1 : Option Value} : WP E c 117 14 [a0, a1] (st) ah Q = WP E c 117 15 [a0, a1] (.int (0) :: st) ah Q := wp_s i117_14 rfl rfl rfl rfl
theorem i117_15 : insAt 117 15 = some (.freturn, 16) := by decide +kernel
theorem r117_15 {E : aEnv} {c : Nat} {ah : aHp} {Q : Option Value → aHp → Prop} {a0 a1 : Option Value} {x : Int32} (hx : x = 0 ∨ x = 1) : WP E c 117 15 [a0, a1] ([.int x]) ah Q = Q (some (.int x)) ah := wp_rt i117_15 (by simp only [rtA, if_pos hx])
theorem e118 {E : aEnv} {c : Nat} {ah ahF : aHp} {r : Option Value} {p0 : Nat} {p1 : Int32} (h : WP E c 118 0 [some (.ref p0), some (.int p1)] [] ah (fun r1 x1 => r1 = r ∧ x1 = ahF)) : EV E c 118 [.ref p0, .int p1] ah r ahF := EV.of (by rw [mr118.2.1]; exact h)
theorem i118_0 : insAt 118 0 = some (.iload 1, 1) := by decide +kernel
theorem r118_0 {E : aEnv} {c : Nat} {ah : aHp} {st : List Value} {Q : Option Value → aHp → Prop} {a0 : Option Value} {x : Int32} : WP E c 118 0 [a0, some (.int x)] (st) ah Q = WP E c 118 1 [a0, some (.int x)] (.int x :: st) ah Q := wp_s i118_0 rfl rfl rfl rfl
theorem i118_1 : insAt 118 1 = some (.ifCond .lt 15, 4) := by decide +kernel
theorem r118_1 {E : aEnv} {c : Nat} {ah : aHp} {st : List Value} {Q : Option Value → aHp → Prop} {a0 a1 : Option Value} {x : Int32} : WP E c 118 1 [a0, a1] (.int x :: st) ah Q = if x < 0 then WP E c 118 15 [a0, a1] st ah Q else WP E c 118 4 [a0, a1] st ah Q := wp_j i118_1 rfl rfl rfl rfl
theorem i118_4 : insAt 118 4 = some (.iload 1, 5) := by decide +kernel
theorem r118_4 {E : aEnv} {c : Nat} {ah : aHp} {st : List Value} {Q : Option Value → aHp → Prop} {a0 : Option Value} {x : Int32} : WP E c 118 4 [a0, some (.int x)] (st) ah Q = WP E c 118 5 [a0, some (.int x)] (.int x :: st) ah Q := wp_s i118_4 rfl rfl rfl rfl
theorem i118_5 : insAt 118 5 = some (.iconst 9999, 8) := by decide +kernel
theorem r118_5 {E : aEnv} {c : Nat} {ah : aHp} {st : List Value} {Q : Option Value → aHp → Prop} {a0 a1 : Option Value} : WP E c 118 5 [a0, a1] (st) ah Q = WP E c 118 8 [a0, a1] (.int (9999) :: st) ah Q := wp_s i118_5 rfl rfl rfl rfl
theorem i118_8 : insAt 118 8 = some (.if_icmp .gt 15, 11) := by decide +kernel
theorem r118_8 {E : aEnv} {c : Nat} {ah : aHp} {st : List Value} {Q : Option Value → aHp → Prop} {a0 a1 : Option Value} {x y : Int32} : WP E c 118 8 [a0, a1] (.int y :: .int x :: st) ah Q = if y < x then WP E c 118 15 [a0, a1] st ah Q else WP E c 118 11 [a0, a1] st ah Q := wp_j i118_8 rfl rfl rfl rfl
theorem i118_11 : insAt 118 11 = some (.iconst 1, 12) := by decide +kernel
theorem r118_11 {E : aEnv} {c : Nat} {ah : aHp} {st : List Value} {Q : Option Value → aHp → Prop} {a0 a1 : Option Value} : WP E c 118 11 [a0, a1] (st) ah Q = WP E c 118 12 [a0, a1] (.int (1) :: st) ah Q := wp_s i118_11 rfl rfl rfl rfl
theorem i118_12 : insAt 118 12 = some (.goto 16, 15) := by decide +kernel
theorem r118_12 {E : aEnv} {c : Nat} {ah : aHp} {st : List Value} {Q : Option Value → aHp → Prop} {a0 a1 : Option Value} : WP E c 118 12 [a0, a1] (st) ah Q = WP E c 118 16 [a0, a1] st ah Q := wp_s i118_12 rfl rfl rfl rfl
theorem i118_15 : insAt 118 15 = some (.iconst 0, 16) := by decide +kernel
theorem r118_15 {E : aEnv} {c : Nat} {ah : aHp} {st : List Value} {Q : Option Value → aHp → Prop} {a0 a1 : Option Value} : WP E c 118 15 [a0, a1] (st) ah Q = WP E c 118 16 [a0, a1] (.int (0) :: st) ah Q := wp_s i118_15 rfl rfl rfl rfl
theorem i118_16 : insAt 118 16 = some (.freturn, 17) := by decide +kernel
theorem r118_16 {E : aEnv} {c : Nat} {ah : aHp} {Q : Option Value → aHp → Prop} {a0 a1 : Option Value} {x : Int32} (hx : x = 0 ∨ x = 1) : WP E c 118 16 [a0, a1] ([.int x]) ah Q = Q (some (.int x)) ah := wp_rt i118_16 (by simp only [rtA, if_pos hx])
theorem e119 {E : aEnv} {c : Nat} {ah ahF : aHp} {r : Option Value} {p0 : Nat} (h : WP E c 119 0 [some (.ref p0)] [] ah (fun r1 x1 => r1 = r ∧ x1 = ahF)) : EV E c 119 [.ref p0] ah r ahF := EV.of (by rw [mr119.2.1]; exact h)
theorem i119_0 : insAt 119 0 = some (.aload 0, 1) := by decide +kernel
theorem r119_0 {E : aEnv} {c : Nat} {ah : aHp} {st : List Value} {Q : Option Value → aHp → Prop} {x : Nat} : WP E c 119 0 [some (.ref x)] (st) ah Q = WP E c 119 1 [some (.ref x)] (.ref x :: st) ah Q := wp_s i119_0 rfl rfl rfl rfl
theorem i119_1 : insAt 119 1 = some (.getfield 8070, 4) := by decide +kernel
theorem r119_1 {E : aEnv} {c : Nat} {ah : aHp} {st : List Value} {Q : Option Value → aHp → Prop} {a0 : Option Value} {a : Nat} : WP E c 119 1 [a0] (.ref a :: st) ah Q = WPo (oGF (hg E ah a) 8 7) (fun v => WP E c 119 4 [a0] (v :: st) ah Q) := wp_getf i119_1
theorem i119_4 : insAt 119 4 = some (.iconst 100, 6) := by decide +kernel
theorem r119_4 {E : aEnv} {c : Nat} {ah : aHp} {st : List Value} {Q : Option Value → aHp → Prop} {a0 : Option Value} : WP E c 119 4 [a0] (st) ah Q = WP E c 119 6 [a0] (.int (100) :: st) ah Q := wp_s i119_4 rfl rfl rfl rfl
theorem i119_6 : insAt 119 6 = some (.if_icmp .lt 13, 9) := by decide +kernel
theorem r119_6 {E : aEnv} {c : Nat} {ah : aHp} {st : List Value} {Q : Option Value → aHp → Prop} {a0 : Option Value} {x y : Int32} : WP E c 119 6 [a0] (.int y :: .int x :: st) ah Q = if x < y then WP E c 119 13 [a0] st ah Q else WP E c 119 9 [a0] st ah Q := wp_j i119_6 rfl rfl rfl rfl
theorem i119_9 : insAt 119 9 = some (.iconst 1, 10) := by decide +kernel
theorem r119_9 {E : aEnv} {c : Nat} {ah : aHp} {st : List Value} {Q : Option Value → aHp → Prop} {a0 : Option Value} : WP E c 119 9 [a0] (st) ah Q = WP E c 119 10 [a0] (.int (1) :: st) ah Q := wp_s i119_9 rfl rfl rfl rfl
theorem i119_10 : insAt 119 10 = some (.goto 14, 13) := by decide +kernel
theorem r119_10 {E : aEnv} {c : Nat} {ah : aHp} {st : List Value} {Q : Option Value → aHp → Prop} {a0 : Option Value} : WP E c 119 10 [a0] (st) ah Q = WP E c 119 14 [a0] st ah Q := wp_s i119_10 rfl rfl rfl rfl
theorem i119_13 : insAt 119 13 = some (.iconst 0, 14) := by decide +kernel
theorem r119_13 {E : aEnv} {c : Nat} {ah : aHp} {st : List Value} {Q : Option Value → aHp → Prop} {a0 : Option Value} : WP E c 119 13 [a0] (st) ah Q = WP E c 119 14 [a0] (.int (0) :: st) ah Q := wp_s i119_13 rfl rfl rfl rfl
theorem i119_14 : insAt 119 14 = some (.freturn, 15) := by decide +kernel
theorem r119_14 {E : aEnv} {c : Nat} {ah : aHp} {Q : Option Value → aHp → Prop} {a0 : Option Value} {x : Int32} (hx : x = 0 ∨ x = 1) : WP E c 119 14 [a0] ([.int x]) ah Q = Q (some (.int x)) ah := wp_rt i119_14 (by simp only [rtA, if_pos hx])
theorem e120 {E : aEnv} {c : Nat} {ah ahF : aHp} {r : Option Value} {p0 : Nat} (h : WP E c 120 0 [some (.ref p0)] [] ah (fun r1 x1 => r1 = r ∧ x1 = ahF)) : EV E c 120 [.ref p0] ah r ahF := EV.of (by rw [mr120.2.1]; exact h)
theorem i120_0 : insAt 120 0 = some (.aload 0, 1) := by decide +kernel
theorem r120_0 {E : aEnv} {c : Nat} {ah : aHp} {st : List Value} {Q : Option Value → aHp → Prop} {x : Nat} : WP E c 120 0 [some (.ref x)] (st) ah Q = WP E c 120 1 [some (.ref x)] (.ref x :: st) ah Q := wp_s i120_0 rfl rfl rfl rfl
theorem i120_1 : insAt 120 1 = some (.getfield 8090, 4) := by decide +kernel
theorem r120_1 {E : aEnv} {c : Nat} {ah : aHp} {st : List Value} {Q : Option Value → aHp → Prop} {a0 : Option Value} {a : Nat} : WP E c 120 1 [a0] (.ref a :: st) ah Q = WPo (oGF (hg E ah a) 8 9) (fun v => WP E c 120 4 [a0] (v :: st) ah Q) := wp_getf i120_1
theorem i120_4 : insAt 120 4 = some (.iconst 60, 6) := by decide +kernel
theorem r120_4 {E : aEnv} {c : Nat} {ah : aHp} {st : List Value} {Q : Option Value → aHp → Prop} {a0 : Option Value} : WP E c 120 4 [a0] (st) ah Q = WP E c 120 6 [a0] (.int (60) :: st) ah Q := wp_s i120_4 rfl rfl rfl rfl
theorem i120_6 : insAt 120 6 = some (.if_icmp .lt 13, 9) := by decide +kernel
theorem r120_6 {E : aEnv} {c : Nat} {ah : aHp} {st : List Value} {Q : Option Value → aHp → Prop} {a0 : Option Value} {x y : Int32} : WP E c 120 6 [a0] (.int y :: .int x :: st) ah Q = if x < y then WP E c 120 13 [a0] st ah Q else WP E c 120 9 [a0] st ah Q := wp_j i120_6 rfl rfl rfl rfl
theorem i120_9 : insAt 120 9 = some (.iconst 1, 10) := by decide +kernel
theorem r120_9 {E : aEnv} {c : Nat} {ah : aHp} {st : List Value} {Q : Option Value → aHp → Prop} {a0 : Option Value} : WP E c 120 9 [a0] (st) ah Q = WP E c 120 10 [a0] (.int (1) :: st) ah Q := wp_s i120_9 rfl rfl rfl rfl
theorem i120_10 : insAt 120 10 = some (.goto 14, 13) := by decide +kernel
theorem r120_10 {E : aEnv} {c : Nat} {ah : aHp} {st : List Value} {Q : Option Value → aHp → Prop} {a0 : Option Value} : WP E c 120 10 [a0] (st) ah Q = WP E c 120 14 [a0] st ah Q := wp_s i120_10 rfl rfl rfl rfl
theorem i120_13 : insAt 120 13 = some (.iconst 0, 14) := by decide +kernel
theorem r120_13 {E : aEnv} {c : Nat} {ah : aHp} {st : List Value} {Q : Option Value → aHp → Prop} {a0 : Option Value} : WP E c 120 13 [a0] (st) ah Q = WP E c 120 14 [a0] (.int (0) :: st) ah Q := wp_s i120_13 rfl rfl rfl rfl
theorem i120_14 : insAt 120 14 = some (.freturn, 15) := by decide +kernel
theorem r120_14 {E : aEnv} {c : Nat} {ah : aHp} {Q : Option Value → aHp → Prop} {a0 : Option Value} {x : Int32} (hx : x = 0 ∨ x = 1) : WP E c 120 14 [a0] ([.int x]) ah Q = Q (some (.int x)) ah := wp_rt i120_14 (by simp only [rtA, if_pos hx])
theorem e121 {E : aEnv} {c : Nat} {ah ahF : aHp} {r : Option Value} {p0 : Nat} {p1 : Int32} {p2 : Int32} {p3 : Int32} {p4 : Int32} (h : WP E c 121 0 [some (.ref p0), some (.int p1), some (.int p2), some (.int p3), some (.int p4)] [] ah (fun r1 x1 => r1 = r ∧ x1 = ahF)) : EV E c 121 [.ref p0, .int p1, .int p2, .int p3, .int p4] ah r ahF := EV.of (by rw [mr121.2.1]; exact h)
theorem i121_0 : insAt 121 0 = some (.aload 0, 1) := by decide +kernel
theorem r121_0 {E : aEnv} {c : Nat} {ah : aHp} {st : List Value} {Q : Option Value → aHp → Prop} {a1 a2 a3 a4 : Option Value} {x : Nat} : WP E c 121 0 [some (.ref x), a1, a2, a3, a4] (st) ah Q = WP E c 121 1 [some (.ref x), a1, a2, a3, a4] (.ref x :: st) ah Q := wp_s i121_0 rfl rfl rfl rfl
theorem i121_1 : insAt 121 1 = some (.iload 2, 2) := by decide +kernel
theorem r121_1 {E : aEnv} {c : Nat} {ah : aHp} {st : List Value} {Q : Option Value → aHp → Prop} {a0 a1 a3 a4 : Option Value} {x : Int32} : WP E c 121 1 [a0, a1, some (.int x), a3, a4] (st) ah Q = WP E c 121 2 [a0, a1, some (.int x), a3, a4] (.int x :: st) ah Q := wp_s i121_1 rfl rfl rfl rfl
theorem i121_2 : insAt 121 2 = some (.invokevirtual 117, 5) := by decide +kernel
theorem r121_2 {E : aEnv} {c : Nat} {ah ah1 : aHp} {r : Option Value} {st : List Value} {Q : Option Value → aHp → Prop} {a0 a1 a2 a3 a4 : Option Value} {p0 : Nat} {p1 : Int32} (h : EV E c 117 [.ref p0, .int p1] ah r ah1) (h2 : oCI (hg E ah p0) = 8) (h3 : wds st ≤ 8) : WP E (c + 1) 121 2 [a0, a1, a2, a3, a4] (.int p1 :: .ref p0 :: st) ah Q = WP E (c + 1) 121 5 [a0, a1, a2, a3, a4] (r.toList ++ st) ah1 Q := wp_call (As := [.ref p0, .int p1]) i121_2 (fun _ => rfl) rfl mr117.1 (rcv_1 h2 mr117.2.2 (by decide)) h3 (by rw [mr117.2.1]; exact Nat.le_of_ble_eq_true rfl) h
theorem i121_5 : insAt 121 5 = some (.ifCond .ne 10, 8) := by decide +kernel
theorem r121_5 {E : aEnv} {c : Nat} {ah : aHp} {st : List Value} {Q : Option Value → aHp → Prop} {a0 a1 a2 a3 a4 : Option Value} {x : Int32} : WP E c 121 5 [a0, a1, a2, a3, a4] (.int x :: st) ah Q = if ¬ x = 0 then WP E c 121 10 [a0, a1, a2, a3, a4] st ah Q else WP E c 121 8 [a0, a1, a2, a3, a4] st ah Q := wp_j i121_5 rfl rfl rfl rfl
theorem i121_8 : insAt 121 8 = some (.iconst 2, 9) := by decide +kernel
theorem r121_8 {E : aEnv} {c : Nat} {ah : aHp} {st : List Value} {Q : Option Value → aHp → Prop} {a0 a1 a2 a3 a4 : Option Value} : WP E c 121 8 [a0, a1, a2, a3, a4] (st) ah Q = WP E c 121 9 [a0, a1, a2, a3, a4] (.int (2) :: st) ah Q := wp_s i121_8 rfl rfl rfl rfl
theorem i121_9 : insAt 121 9 = some (.ireturn, 10) := by decide +kernel
theorem r121_9 {E : aEnv} {c : Nat} {ah : aHp} {Q : Option Value → aHp → Prop} {a0 a1 a2 a3 a4 : Option Value} {x : Int32} : WP E c 121 9 [a0, a1, a2, a3, a4] ([.int x]) ah Q = Q (some (.int x)) ah := wp_rt i121_9 rfl
theorem i121_10 : insAt 121 10 = some (.aload 0, 11) := by decide +kernel
theorem r121_10 {E : aEnv} {c : Nat} {ah : aHp} {st : List Value} {Q : Option Value → aHp → Prop} {a1 a2 a3 a4 : Option Value} {x : Nat} : WP E c 121 10 [some (.ref x), a1, a2, a3, a4] (st) ah Q = WP E c 121 11 [some (.ref x), a1, a2, a3, a4] (.ref x :: st) ah Q := wp_s i121_10 rfl rfl rfl rfl
theorem i121_11 : insAt 121 11 = some (.iload 1, 12) := by decide +kernel
theorem r121_11 {E : aEnv} {c : Nat} {ah : aHp} {st : List Value} {Q : Option Value → aHp → Prop} {a0 a2 a3 a4 : Option Value} {x : Int32} : WP E c 121 11 [a0, some (.int x), a2, a3, a4] (st) ah Q = WP E c 121 12 [a0, some (.int x), a2, a3, a4] (.int x :: st) ah Q := wp_s i121_11 rfl rfl rfl rfl
theorem i121_12 : insAt 121 12 = some (.invokevirtual 118, 15) := by decide +kernel
theorem r121_12 {E : aEnv} {c : Nat} {ah ah1 : aHp} {r : Option Value} {st : List Value} {Q : Option Value → aHp → Prop} {a0 a1 a2 a3 a4 : Option Value} {p0 : Nat} {p1 : Int32} (h : EV E c 118 [.ref p0, .int p1] ah r ah1) (h2 : oCI (hg E ah p0) = 8) (h3 : wds st ≤ 8) : WP E (c + 1) 121 12 [a0, a1, a2, a3, a4] (.int p1 :: .ref p0 :: st) ah Q = WP E (c + 1) 121 15 [a0, a1, a2, a3, a4] (r.toList ++ st) ah1 Q := wp_call (As := [.ref p0, .int p1]) i121_12 (fun _ => rfl) rfl mr118.1 (rcv_1 h2 mr118.2.2 (by decide)) h3 (by rw [mr118.2.1]; exact Nat.le_of_ble_eq_true rfl) h
theorem i121_15 : insAt 121 15 = some (.ifCond .eq 30, 18) := by decide +kernel
theorem r121_15 {E : aEnv} {c : Nat} {ah : aHp} {st : List Value} {Q : Option Value → aHp → Prop} {a0 a1 a2 a3 a4 : Option Value} {x : Int32} : WP E c 121 15 [a0, a1, a2, a3, a4] (.int x :: st) ah Q = if x = 0 then WP E c 121 30 [a0, a1, a2, a3, a4] st ah Q else WP E c 121 18 [a0, a1, a2, a3, a4] st ah Q := wp_j i121_15 rfl rfl rfl rfl
theorem i121_18 : insAt 121 18 = some (.iload 3, 19) := by decide +kernel
theorem r121_18 {E : aEnv} {c : Nat} {ah : aHp} {st : List Value} {Q : Option Value → aHp → Prop} {a0 a1 a2 a4 : Option Value} {x : Int32} : WP E c 121 18 [a0, a1, a2, some (.int x), a4] (st) ah Q = WP E c 121 19 [a0, a1, a2, some (.int x), a4] (.int x :: st) ah Q := wp_s i121_18 rfl rfl rfl rfl
theorem i121_19 : insAt 121 19 = some (.iconst (-1000000000), 21) := by decide +kernel
theorem r121_19 {E : aEnv} {c : Nat} {ah : aHp} {st : List Value} {Q : Option Value → aHp → Prop} {a0 a1 a2 a3 a4 : Option Value} : WP E c 121 19 [a0, a1, a2, a3, a4] (st) ah Q = WP E c 121 21 [a0, a1, a2, a3, a4] (.int ((-1000000000)) :: st) ah Q := wp_s i121_19 rfl rfl rfl rfl
theorem i121_21 : insAt 121 21 = some (.if_icmp .lt 30, 24) := by decide +kernel
theorem r121_21 {E : aEnv} {c : Nat} {ah : aHp} {st : List Value} {Q : Option Value → aHp → Prop} {a0 a1 a2 a3 a4 : Option Value} {x y : Int32} : WP E c 121 21 [a0, a1, a2, a3, a4] (.int y :: .int x :: st) ah Q = if x < y then WP E c 121 30 [a0, a1, a2, a3, a4] st ah Q else WP E c 121 24 [a0, a1, a2, a3, a4] st ah Q := wp_j i121_21 rfl rfl rfl rfl
theorem i121_24 : insAt 121 24 = some (.iload 3, 25) := by decide +kernel
theorem r121_24 {E : aEnv} {c : Nat} {ah : aHp} {st : List Value} {Q : Option Value → aHp → Prop} {a0 a1 a2 a4 : Option Value} {x : Int32} : WP E c 121 24 [a0, a1, a2, some (.int x), a4] (st) ah Q = WP E c 121 25 [a0, a1, a2, some (.int x), a4] (.int x :: st) ah Q := wp_s i121_24 rfl rfl rfl rfl
theorem i121_25 : insAt 121 25 = some (.iconst 1000000000, 27) := by decide +kernel
theorem r121_25 {E : aEnv} {c : Nat} {ah : aHp} {st : List Value} {Q : Option Value → aHp → Prop} {a0 a1 a2 a3 a4 : Option Value} : WP E c 121 25 [a0, a1, a2, a3, a4] (st) ah Q = WP E c 121 27 [a0, a1, a2, a3, a4] (.int (1000000000) :: st) ah Q := wp_s i121_25 rfl rfl rfl rfl
theorem i121_27 : insAt 121 27 = some (.if_icmp .le 32, 30) := by decide +kernel
theorem r121_27 {E : aEnv} {c : Nat} {ah : aHp} {st : List Value} {Q : Option Value → aHp → Prop} {a0 a1 a2 a3 a4 : Option Value} {x y : Int32} : WP E c 121 27 [a0, a1, a2, a3, a4] (.int y :: .int x :: st) ah Q = if x ≤ y then WP E c 121 32 [a0, a1, a2, a3, a4] st ah Q else WP E c 121 30 [a0, a1, a2, a3, a4] st ah Q := wp_j i121_27 rfl rfl rfl rfl
theorem i121_30 : insAt 121 30 = some (.iconst 5, 31) := by decide +kernel
theorem r121_30 {E : aEnv} {c : Nat} {ah : aHp} {st : List Value} {Q : Option Value → aHp → Prop} {a0 a1 a2 a3 a4 : Option Value} : WP E c 121 30 [a0, a1, a2, a3, a4] (st) ah Q = WP E c 121 31 [a0, a1, a2, a3, a4] (.int (5) :: st) ah Q := wp_s i121_30 rfl rfl rfl rfl
theorem i121_31 : insAt 121 31 = some (.ireturn, 32) := by decide +kernel
theorem r121_31 {E : aEnv} {c : Nat} {ah : aHp} {Q : Option Value → aHp → Prop} {a0 a1 a2 a3 a4 : Option Value} {x : Int32} : WP E c 121 31 [a0, a1, a2, a3, a4] ([.int x]) ah Q = Q (some (.int x)) ah := wp_rt i121_31 rfl
theorem i121_32 : insAt 121 32 = some (.iload 4, 34) := by decide +kernel
theorem r121_32 {E : aEnv} {c : Nat} {ah : aHp} {st : List Value} {Q : Option Value → aHp → Prop} {a0 a1 a2 a3 : Option Value} {x : Int32} : WP E c 121 32 [a0, a1, a2, a3, some (.int x)] (st) ah Q = WP E c 121 34 [a0, a1, a2, a3, some (.int x)] (.int x :: st) ah Q := wp_s i121_32 rfl rfl rfl rfl
theorem i121_34 : insAt 121 34 = some (.ifCond .eq 40, 37) := by decide +kernel
theorem r121_34 {E : aEnv} {c : Nat} {ah : aHp} {st : List Value} {Q : Option Value → aHp → Prop} {a0 a1 a2 a3 a4 : Option Value} {x : Int32} : WP E c 121 34 [a0, a1, a2, a3, a4] (.int x :: st) ah Q = if x = 0 then WP E c 121 40 [a0, a1, a2, a3, a4] st ah Q else WP E c 121 37 [a0, a1, a2, a3, a4] st ah Q := wp_j i121_34 rfl rfl rfl rfl
theorem i121_37 : insAt 121 37 = some (.iconst 7, 39) := by decide +kernel
theorem r121_37 {E : aEnv} {c : Nat} {ah : aHp} {st : List Value} {Q : Option Value → aHp → Prop} {a0 a1 a2 a3 a4 : Option Value} : WP E c 121 37 [a0, a1, a2, a3, a4] (st) ah Q = WP E c 121 39 [a0, a1, a2, a3, a4] (.int (7) :: st) ah Q := wp_s i121_37 rfl rfl rfl rfl
theorem i121_39 : insAt 121 39 = some (.ireturn, 40) := by decide +kernel
theorem r121_39 {E : aEnv} {c : Nat} {ah : aHp} {Q : Option Value → aHp → Prop} {a0 a1 a2 a3 a4 : Option Value} {x : Int32} : WP E c 121 39 [a0, a1, a2, a3, a4] ([.int x]) ah Q = Q (some (.int x)) ah := wp_rt i121_39 rfl
theorem i121_40 : insAt 121 40 = some (.iload 1, 41) := by decide +kernel
theorem r121_40 {E : aEnv} {c : Nat} {ah : aHp} {st : List Value} {Q : Option Value → aHp → Prop} {a0 a2 a3 a4 : Option Value} {x : Int32} : WP E c 121 40 [a0, some (.int x), a2, a3, a4] (st) ah Q = WP E c 121 41 [a0, some (.int x), a2, a3, a4] (.int x :: st) ah Q := wp_s i121_40 rfl rfl rfl rfl
theorem i121_41 : insAt 121 41 = some (.aload 0, 42) := by decide +kernel
theorem r121_41 {E : aEnv} {c : Nat} {ah : aHp} {st : List Value} {Q : Option Value → aHp → Prop} {a1 a2 a3 a4 : Option Value} {x : Nat} : WP E c 121 41 [some (.ref x), a1, a2, a3, a4] (st) ah Q = WP E c 121 42 [some (.ref x), a1, a2, a3, a4] (.ref x :: st) ah Q := wp_s i121_41 rfl rfl rfl rfl
theorem i121_42 : insAt 121 42 = some (.getfield 8100, 45) := by decide +kernel
theorem r121_42 {E : aEnv} {c : Nat} {ah : aHp} {st : List Value} {Q : Option Value → aHp → Prop} {a0 a1 a2 a3 a4 : Option Value} {a : Nat} : WP E c 121 42 [a0, a1, a2, a3, a4] (.ref a :: st) ah Q = WPo (oGF (hg E ah a) 8 10) (fun v => WP E c 121 45 [a0, a1, a2, a3, a4] (v :: st) ah Q) := wp_getf i121_42
theorem i121_45 : insAt 121 45 = some (.if_icmp .ge 53, 48) := by decide +kernel
theorem r121_45 {E : aEnv} {c : Nat} {ah : aHp} {st : List Value} {Q : Option Value → aHp → Prop} {a0 a1 a2 a3 a4 : Option Value} {x y : Int32} : WP E c 121 45 [a0, a1, a2, a3, a4] (.int y :: .int x :: st) ah Q = if y ≤ x then WP E c 121 53 [a0, a1, a2, a3, a4] st ah Q else WP E c 121 48 [a0, a1, a2, a3, a4] st ah Q := wp_j i121_45 rfl rfl rfl rfl
theorem i121_48 : insAt 121 48 = some (.iconst 12, 50) := by decide +kernel
theorem r121_48 {E : aEnv} {c : Nat} {ah : aHp} {st : List Value} {Q : Option Value → aHp → Prop} {a0 a1 a2 a3 a4 : Option Value} : WP E c 121 48 [a0, a1, a2, a3, a4] (st) ah Q = WP E c 121 50 [a0, a1, a2, a3, a4] (.int (12) :: st) ah Q := wp_s i121_48 rfl rfl rfl rfl
theorem i121_50 : insAt 121 50 = some (.goto 54, 53) := by decide +kernel
theorem r121_50 {E : aEnv} {c : Nat} {ah : aHp} {st : List Value} {Q : Option Value → aHp → Prop} {a0 a1 a2 a3 a4 : Option Value} : WP E c 121 50 [a0, a1, a2, a3, a4] (st) ah Q = WP E c 121 54 [a0, a1, a2, a3, a4] st ah Q := wp_s i121_50 rfl rfl rfl rfl
theorem i121_53 : insAt 121 53 = some (.iconst 0, 54) := by decide +kernel
theorem r121_53 {E : aEnv} {c : Nat} {ah : aHp} {st : List Value} {Q : Option Value → aHp → Prop} {a0 a1 a2 a3 a4 : Option Value} : WP E c 121 53 [a0, a1, a2, a3, a4] (st) ah Q = WP E c 121 54 [a0, a1, a2, a3, a4] (.int (0) :: st) ah Q := wp_s i121_53 rfl rfl rfl rfl
theorem i121_54 : insAt 121 54 = some (.ireturn, 55) := by decide +kernel
theorem r121_54 {E : aEnv} {c : Nat} {ah : aHp} {Q : Option Value → aHp → Prop} {a0 a1 a2 a3 a4 : Option Value} {x : Int32} : WP E c 121 54 [a0, a1, a2, a3, a4] ([.int x]) ah Q = Q (some (.int x)) ah := wp_rt i121_54 rfl
theorem e122 {E : aEnv} {c : Nat} {ah ahF : aHp} {r : Option Value} {p0 : Nat} {p1 : Int32} {p2 : Int32} (h : WP E c 122 0 [some (.ref p0), some (.int p1), some (.int p2)] [] ah (fun r1 x1 => r1 = r ∧ x1 = ahF)) : EV E c 122 [.ref p0, .int p1, .int p2] ah r ahF := EV.of (by rw [mr122.2.1]; exact h)
theorem i122_0 : insAt 122 0 = some (.aload 0, 1) := by decide +kernel
theorem r122_0 {E : aEnv} {c : Nat} {ah : aHp} {st : List Value} {Q : Option Value → aHp → Prop} {a1 a2 : Option Value} {x : Nat} : WP E c 122 0 [some (.ref x), a1, a2] (st) ah Q = WP E c 122 1 [some (.ref x), a1, a2] (.ref x :: st) ah Q := wp_s i122_0 rfl rfl rfl rfl
theorem i122_1 : insAt 122 1 = some (.iload 1, 2) := by decide +kernel
theorem r122_1 {E : aEnv} {c : Nat} {ah : aHp} {st : List Value} {Q : Option Value → aHp → Prop} {a0 a2 : Option Value} {x : Int32} : WP E c 122 1 [a0, some (.int x), a2] (st) ah Q = WP E c 122 2 [a0, some (.int x), a2] (.int x :: st) ah Q := wp_s i122_1 rfl rfl rfl rfl
theorem i122_2 : insAt 122 2 = some (.invokevirtual 118, 5) := by decide +kernel
theorem r122_2 {E : aEnv} {c : Nat} {ah ah1 : aHp} {r : Option Value} {st : List Value} {Q : Option Value → aHp → Prop} {a0 a1 a2 : Option Value} {p0 : Nat} {p1 : Int32} (h : EV E c 118 [.ref p0, .int p1] ah r ah1) (h2 : oCI (hg E ah p0) = 8) (h3 : wds st ≤ 8) : WP E (c + 1) 122 2 [a0, a1, a2] (.int p1 :: .ref p0 :: st) ah Q = WP E (c + 1) 122 5 [a0, a1, a2] (r.toList ++ st) ah1 Q := wp_call (As := [.ref p0, .int p1]) i122_2 (fun _ => rfl) rfl mr118.1 (rcv_1 h2 mr118.2.2 (by decide)) h3 (by rw [mr118.2.1]; exact Nat.le_of_ble_eq_true rfl) h
theorem i122_5 : insAt 122 5 = some (.ifCond .eq 20, 8) := by decide +kernel
theorem r122_5 {E : aEnv} {c : Nat} {ah : aHp} {st : List Value} {Q : Option Value → aHp → Prop} {a0 a1 a2 : Option Value} {x : Int32} : WP E c 122 5 [a0, a1, a2] (.int x :: st) ah Q = if x = 0 then WP E c 122 20 [a0, a1, a2] st ah Q else WP E c 122 8 [a0, a1, a2] st ah Q := wp_j i122_5 rfl rfl rfl rfl
theorem i122_8 : insAt 122 8 = some (.iload 2, 9) := by decide +kernel
theorem r122_8 {E : aEnv} {c : Nat} {ah : aHp} {st : List Value} {Q : Option Value → aHp → Prop} {a0 a1 : Option Value} {x : Int32} : WP E c 122 8 [a0, a1, some (.int x)] (st) ah Q = WP E c 122 9 [a0, a1, some (.int x)] (.int x :: st) ah Q := wp_s i122_8 rfl rfl rfl rfl
theorem i122_9 : insAt 122 9 = some (.iconst 1, 10) := by decide +kernel
theorem r122_9 {E : aEnv} {c : Nat} {ah : aHp} {st : List Value} {Q : Option Value → aHp → Prop} {a0 a1 a2 : Option Value} : WP E c 122 9 [a0, a1, a2] (st) ah Q = WP E c 122 10 [a0, a1, a2] (.int (1) :: st) ah Q := wp_s i122_9 rfl rfl rfl rfl
theorem i122_10 : insAt 122 10 = some (.if_icmp .lt 20, 13) := by decide +kernel
theorem r122_10 {E : aEnv} {c : Nat} {ah : aHp} {st : List Value} {Q : Option Value → aHp → Prop} {a0 a1 a2 : Option Value} {x y : Int32} : WP E c 122 10 [a0, a1, a2] (.int y :: .int x :: st) ah Q = if x < y then WP E c 122 20 [a0, a1, a2] st ah Q else WP E c 122 13 [a0, a1, a2] st ah Q := wp_j i122_10 rfl rfl rfl rfl
theorem i122_13 : insAt 122 13 = some (.iload 2, 14) := by decide +kernel
theorem r122_13 {E : aEnv} {c : Nat} {ah : aHp} {st : List Value} {Q : Option Value → aHp → Prop} {a0 a1 : Option Value} {x : Int32} : WP E c 122 13 [a0, a1, some (.int x)] (st) ah Q = WP E c 122 14 [a0, a1, some (.int x)] (.int x :: st) ah Q := wp_s i122_13 rfl rfl rfl rfl
theorem i122_14 : insAt 122 14 = some (.iconst 1000, 17) := by decide +kernel
theorem r122_14 {E : aEnv} {c : Nat} {ah : aHp} {st : List Value} {Q : Option Value → aHp → Prop} {a0 a1 a2 : Option Value} : WP E c 122 14 [a0, a1, a2] (st) ah Q = WP E c 122 17 [a0, a1, a2] (.int (1000) :: st) ah Q := wp_s i122_14 rfl rfl rfl rfl
theorem i122_17 : insAt 122 17 = some (.if_icmp .le 22, 20) := by decide +kernel
theorem r122_17 {E : aEnv} {c : Nat} {ah : aHp} {st : List Value} {Q : Option Value → aHp → Prop} {a0 a1 a2 : Option Value} {x y : Int32} : WP E c 122 17 [a0, a1, a2] (.int y :: .int x :: st) ah Q = if x ≤ y then WP E c 122 22 [a0, a1, a2] st ah Q else WP E c 122 20 [a0, a1, a2] st ah Q := wp_j i122_17 rfl rfl rfl rfl
theorem i122_20 : insAt 122 20 = some (.iconst 5, 21) := by decide +kernel
theorem r122_20 {E : aEnv} {c : Nat} {ah : aHp} {st : List Value} {Q : Option Value → aHp → Prop} {a0 a1 a2 : Option Value} : WP E c 122 20 [a0, a1, a2] (st) ah Q = WP E c 122 21 [a0, a1, a2] (.int (5) :: st) ah Q := wp_s i122_20 rfl rfl rfl rfl
theorem i122_21 : insAt 122 21 = some (.ireturn, 22) := by decide +kernel
theorem r122_21 {E : aEnv} {c : Nat} {ah : aHp} {Q : Option Value → aHp → Prop} {a0 a1 a2 : Option Value} {x : Int32} : WP E c 122 21 [a0, a1, a2] ([.int x]) ah Q = Q (some (.int x)) ah := wp_rt i122_21 rfl
theorem i122_22 : insAt 122 22 = some (.aload 0, 23) := by decide +kernel
theorem r122_22 {E : aEnv} {c : Nat} {ah : aHp} {st : List Value} {Q : Option Value → aHp → Prop} {a1 a2 : Option Value} {x : Nat} : WP E c 122 22 [some (.ref x), a1, a2] (st) ah Q = WP E c 122 23 [some (.ref x), a1, a2] (.ref x :: st) ah Q := wp_s i122_22 rfl rfl rfl rfl
theorem i122_23 : insAt 122 23 = some (.getfield 8080, 26) := by decide +kernel
theorem r122_23 {E : aEnv} {c : Nat} {ah : aHp} {st : List Value} {Q : Option Value → aHp → Prop} {a0 a1 a2 : Option Value} {a : Nat} : WP E c 122 23 [a0, a1, a2] (.ref a :: st) ah Q = WPo (oGF (hg E ah a) 8 8) (fun v => WP E c 122 26 [a0, a1, a2] (v :: st) ah Q) := wp_getf i122_23
theorem i122_26 : insAt 122 26 = some (.iconst 20, 28) := by decide +kernel
theorem r122_26 {E : aEnv} {c : Nat} {ah : aHp} {st : List Value} {Q : Option Value → aHp → Prop} {a0 a1 a2 : Option Value} : WP E c 122 26 [a0, a1, a2] (st) ah Q = WP E c 122 28 [a0, a1, a2] (.int (20) :: st) ah Q := wp_s i122_26 rfl rfl rfl rfl
theorem i122_28 : insAt 122 28 = some (.if_icmp .lt 34, 31) := by decide +kernel
theorem r122_28 {E : aEnv} {c : Nat} {ah : aHp} {st : List Value} {Q : Option Value → aHp → Prop} {a0 a1 a2 : Option Value} {x y : Int32} : WP E c 122 28 [a0, a1, a2] (.int y :: .int x :: st) ah Q = if x < y then WP E c 122 34 [a0, a1, a2] st ah Q else WP E c 122 31 [a0, a1, a2] st ah Q := wp_j i122_28 rfl rfl rfl rfl
theorem i122_31 : insAt 122 31 = some (.iconst 7, 33) := by decide +kernel
theorem r122_31 {E : aEnv} {c : Nat} {ah : aHp} {st : List Value} {Q : Option Value → aHp → Prop} {a0 a1 a2 : Option Value} : WP E c 122 31 [a0, a1, a2] (st) ah Q = WP E c 122 33 [a0, a1, a2] (.int (7) :: st) ah Q := wp_s i122_31 rfl rfl rfl rfl
theorem i122_33 : insAt 122 33 = some (.ireturn, 34) := by decide +kernel
theorem r122_33 {E : aEnv} {c : Nat} {ah : aHp} {Q : Option Value → aHp → Prop} {a0 a1 a2 : Option Value} {x : Int32} : WP E c 122 33 [a0, a1, a2] ([.int x]) ah Q = Q (some (.int x)) ah := wp_rt i122_33 rfl
theorem i122_34 : insAt 122 34 = some (.iload 1, 35) := by decide +kernel
theorem r122_34 {E : aEnv} {c : Nat} {ah : aHp} {st : List Value} {Q : Option Value → aHp → Prop} {a0 a2 : Option Value} {x : Int32} : WP E c 122 34 [a0, some (.int x), a2] (st) ah Q = WP E c 122 35 [a0, some (.int x), a2] (.int x :: st) ah Q := wp_s i122_34 rfl rfl rfl rfl
theorem i122_35 : insAt 122 35 = some (.aload 0, 36) := by decide +kernel
theorem r122_35 {E : aEnv} {c : Nat} {ah : aHp} {st : List Value} {Q : Option Value → aHp → Prop} {a1 a2 : Option Value} {x : Nat} : WP E c 122 35 [some (.ref x), a1, a2] (st) ah Q = WP E c 122 36 [some (.ref x), a1, a2] (.ref x :: st) ah Q := wp_s i122_35 rfl rfl rfl rfl
theorem i122_36 : insAt 122 36 = some (.getfield 8100, 39) := by decide +kernel
theorem r122_36 {E : aEnv} {c : Nat} {ah : aHp} {st : List Value} {Q : Option Value → aHp → Prop} {a0 a1 a2 : Option Value} {a : Nat} : WP E c 122 36 [a0, a1, a2] (.ref a :: st) ah Q = WPo (oGF (hg E ah a) 8 10) (fun v => WP E c 122 39 [a0, a1, a2] (v :: st) ah Q) := wp_getf i122_36
theorem i122_39 : insAt 122 39 = some (.if_icmp .ge 47, 42) := by decide +kernel
theorem r122_39 {E : aEnv} {c : Nat} {ah : aHp} {st : List Value} {Q : Option Value → aHp → Prop} {a0 a1 a2 : Option Value} {x y : Int32} : WP E c 122 39 [a0, a1, a2] (.int y :: .int x :: st) ah Q = if y ≤ x then WP E c 122 47 [a0, a1, a2] st ah Q else WP E c 122 42 [a0, a1, a2] st ah Q := wp_j i122_39 rfl rfl rfl rfl
theorem i122_42 : insAt 122 42 = some (.iconst 12, 44) := by decide +kernel
theorem r122_42 {E : aEnv} {c : Nat} {ah : aHp} {st : List Value} {Q : Option Value → aHp → Prop} {a0 a1 a2 : Option Value} : WP E c 122 42 [a0, a1, a2] (st) ah Q = WP E c 122 44 [a0, a1, a2] (.int (12) :: st) ah Q := wp_s i122_42 rfl rfl rfl rfl
theorem i122_44 : insAt 122 44 = some (.goto 48, 47) := by decide +kernel
theorem r122_44 {E : aEnv} {c : Nat} {ah : aHp} {st : List Value} {Q : Option Value → aHp → Prop} {a0 a1 a2 : Option Value} : WP E c 122 44 [a0, a1, a2] (st) ah Q = WP E c 122 48 [a0, a1, a2] st ah Q := wp_s i122_44 rfl rfl rfl rfl
theorem i122_47 : insAt 122 47 = some (.iconst 0, 48) := by decide +kernel
theorem r122_47 {E : aEnv} {c : Nat} {ah : aHp} {st : List Value} {Q : Option Value → aHp → Prop} {a0 a1 a2 : Option Value} : WP E c 122 47 [a0, a1, a2] (st) ah Q = WP E c 122 48 [a0, a1, a2] (.int (0) :: st) ah Q := wp_s i122_47 rfl rfl rfl rfl
theorem i122_48 : insAt 122 48 = some (.ireturn, 49) := by decide +kernel
theorem r122_48 {E : aEnv} {c : Nat} {ah : aHp} {Q : Option Value → aHp → Prop} {a0 a1 a2 : Option Value} {x : Int32} : WP E c 122 48 [a0, a1, a2] ([.int x]) ah Q = Q (some (.int x)) ah := wp_rt i122_48 rfl
theorem e123 {E : aEnv} {c : Nat} {ah ahF : aHp} {r : Option Value} {p0 : Nat} {p1 : Int32} {p2 : Int32} {p3 : Int32} (h : WP E c 123 0 [some (.ref p0), some (.int p1), some (.int p2), some (.int p3)] [] ah (fun r1 x1 => r1 = r ∧ x1 = ahF)) : EV E c 123 [.ref p0, .int p1, .int p2, .int p3] ah r ahF := EV.of (by rw [mr123.2.1]; exact h)
theorem i123_0 : insAt 123 0 = some (.aload 0, 1) := by decide +kernel
theorem r123_0 {E : aEnv} {c : Nat} {ah : aHp} {st : List Value} {Q : Option Value → aHp → Prop} {a1 a2 a3 : Option Value} {x : Nat} : WP E c 123 0 [some (.ref x), a1, a2, a3] (st) ah Q = WP E c 123 1 [some (.ref x), a1, a2, a3] (.ref x :: st) ah Q := wp_s i123_0 rfl rfl rfl rfl
theorem i123_1 : insAt 123 1 = some (.invokevirtual 119, 4) := by decide +kernel
theorem r123_1 {E : aEnv} {c : Nat} {ah ah1 : aHp} {r : Option Value} {st : List Value} {Q : Option Value → aHp → Prop} {a0 a1 a2 a3 : Option Value} {p0 : Nat} (h : EV E c 119 [.ref p0] ah r ah1) (h2 : oCI (hg E ah p0) = 8) (h3 : wds st ≤ 8) : WP E (c + 1) 123 1 [a0, a1, a2, a3] (.ref p0 :: st) ah Q = WP E (c + 1) 123 4 [a0, a1, a2, a3] (r.toList ++ st) ah1 Q := wp_call (As := [.ref p0]) i123_1 (fun _ => rfl) rfl mr119.1 (rcv_1 h2 mr119.2.2 (by decide)) h3 (by rw [mr119.2.1]; exact Nat.le_of_ble_eq_true rfl) h
theorem i123_4 : insAt 123 4 = some (.ifCond .eq 8, 7) := by decide +kernel
theorem r123_4 {E : aEnv} {c : Nat} {ah : aHp} {st : List Value} {Q : Option Value → aHp → Prop} {a0 a1 a2 a3 : Option Value} {x : Int32} : WP E c 123 4 [a0, a1, a2, a3] (.int x :: st) ah Q = if x = 0 then WP E c 123 8 [a0, a1, a2, a3] st ah Q else WP E c 123 7 [a0, a1, a2, a3] st ah Q := wp_j i123_4 rfl rfl rfl rfl
theorem i123_7 : insAt 123 7 = some (.return_, 8) := by decide +kernel
theorem r123_7 {E : aEnv} {c : Nat} {ah : aHp} {Q : Option Value → aHp → Prop} {a0 a1 a2 a3 : Option Value} : WP E c 123 7 [a0, a1, a2, a3] ([]) ah Q = Q none ah := wp_rt i123_7 rfl
theorem i123_8 : insAt 123 8 = some (.aload 0, 9) := by decide +kernel
theorem r123_8 {E : aEnv} {c : Nat} {ah : aHp} {st : List Value} {Q : Option Value → aHp → Prop} {a1 a2 a3 : Option Value} {x : Nat} : WP E c 123 8 [some (.ref x), a1, a2, a3] (st) ah Q = WP E c 123 9 [some (.ref x), a1, a2, a3] (.ref x :: st) ah Q := wp_s i123_8 rfl rfl rfl rfl
theorem i123_9 : insAt 123 9 = some (.iload 1, 10) := by decide +kernel
theorem r123_9 {E : aEnv} {c : Nat} {ah : aHp} {st : List Value} {Q : Option Value → aHp → Prop} {a0 a2 a3 : Option Value} {x : Int32} : WP E c 123 9 [a0, some (.int x), a2, a3] (st) ah Q = WP E c 123 10 [a0, some (.int x), a2, a3] (.int x :: st) ah Q := wp_s i123_9 rfl rfl rfl rfl
theorem i123_10 : insAt 123 10 = some (.putfield 8100, 13) := by decide +kernel
theorem r123_10 {E : aEnv} {c : Nat} {ah : aHp} {st : List Value} {Q : Option Value → aHp → Prop} {a0 a1 a2 a3 : Option Value} {a : Nat} {v : Value} : WP E c 123 10 [a0, a1, a2, a3] (v :: .ref a :: st) ah Q = WPo (oPF (hg E ah a) 8100 v) (fun e => WP E c 123 13 [a0, a1, a2, a3] st (hs E ah a e) Q) := wp_putf i123_10
theorem i123_13 : insAt 123 13 = some (.aload 0, 14) := by decide +kernel
theorem r123_13 {E : aEnv} {c : Nat} {ah : aHp} {st : List Value} {Q : Option Value → aHp → Prop} {a1 a2 a3 : Option Value} {x : Nat} : WP E c 123 13 [some (.ref x), a1, a2, a3] (st) ah Q = WP E c 123 14 [some (.ref x), a1, a2, a3] (.ref x :: st) ah Q := wp_s i123_13 rfl rfl rfl rfl
theorem i123_14 : insAt 123 14 = some (.getfield 8002, 17) := by decide +kernel
theorem r123_14 {E : aEnv} {c : Nat} {ah : aHp} {st : List Value} {Q : Option Value → aHp → Prop} {a0 a1 a2 a3 : Option Value} {a : Nat} : WP E c 123 14 [a0, a1, a2, a3] (.ref a :: st) ah Q = WPo (oGF (hg E ah a) 8 0) (fun v => WP E c 123 17 [a0, a1, a2, a3] (v :: st) ah Q) := wp_getf i123_14
theorem i123_17 : insAt 123 17 = some (.aload 0, 18) := by decide +kernel
theorem r123_17 {E : aEnv} {c : Nat} {ah : aHp} {st : List Value} {Q : Option Value → aHp → Prop} {a1 a2 a3 : Option Value} {x : Nat} : WP E c 123 17 [some (.ref x), a1, a2, a3] (st) ah Q = WP E c 123 18 [some (.ref x), a1, a2, a3] (.ref x :: st) ah Q := wp_s i123_17 rfl rfl rfl rfl
theorem i123_18 : insAt 123 18 = some (.getfield 8070, 21) := by decide +kernel
theorem r123_18 {E : aEnv} {c : Nat} {ah : aHp} {st : List Value} {Q : Option Value → aHp → Prop} {a0 a1 a2 a3 : Option Value} {a : Nat} : WP E c 123 18 [a0, a1, a2, a3] (.ref a :: st) ah Q = WPo (oGF (hg E ah a) 8 7) (fun v => WP E c 123 21 [a0, a1, a2, a3] (v :: st) ah Q) := wp_getf i123_18
theorem i123_21 : insAt 123 21 = some (.iload 2, 22) := by decide +kernel
theorem r123_21 {E : aEnv} {c : Nat} {ah : aHp} {st : List Value} {Q : Option Value → aHp → Prop} {a0 a1 a3 : Option Value} {x : Int32} : WP E c 123 21 [a0, a1, some (.int x), a3] (st) ah Q = WP E c 123 22 [a0, a1, some (.int x), a3] (.int x :: st) ah Q := wp_s i123_21 rfl rfl rfl rfl
theorem i123_22 : insAt 123 22 = some (.iastore, 23) := by decide +kernel
theorem r123_22 {E : aEnv} {c : Nat} {ah : aHp} {st : List Value} {Q : Option Value → aHp → Prop} {a0 a1 a2 a3 : Option Value} {x : Int32} {i : Int32} {a : Nat} : WP E c 123 22 [a0, a1, a2, a3] (.int x :: .int i :: .ref a :: st) ah Q = WPo (pI E ah (.int x :: .int i :: .ref a :: st)) (fun q9 => WP E c 123 23 [a0, a1, a2, a3] q9.1 q9.2 Q) := wp_hw i123_22 rfl rfl rfl rfl rfl rfl rfl rfl
theorem i123_23 : insAt 123 23 = some (.aload 0, 24) := by decide +kernel
theorem r123_23 {E : aEnv} {c : Nat} {ah : aHp} {st : List Value} {Q : Option Value → aHp → Prop} {a1 a2 a3 : Option Value} {x : Nat} : WP E c 123 23 [some (.ref x), a1, a2, a3] (st) ah Q = WP E c 123 24 [some (.ref x), a1, a2, a3] (.ref x :: st) ah Q := wp_s i123_23 rfl rfl rfl rfl
theorem i123_24 : insAt 123 24 = some (.getfield 8012, 27) := by decide +kernel
theorem r123_24 {E : aEnv} {c : Nat} {ah : aHp} {st : List Value} {Q : Option Value → aHp → Prop} {a0 a1 a2 a3 : Option Value} {a : Nat} : WP E c 123 24 [a0, a1, a2, a3] (.ref a :: st) ah Q = WPo (oGF (hg E ah a) 8 1) (fun v => WP E c 123 27 [a0, a1, a2, a3] (v :: st) ah Q) := wp_getf i123_24
theorem i123_27 : insAt 123 27 = some (.aload 0, 28) := by decide +kernel
theorem r123_27 {E : aEnv} {c : Nat} {ah : aHp} {st : List Value} {Q : Option Value → aHp → Prop} {a1 a2 a3 : Option Value} {x : Nat} : WP E c 123 27 [some (.ref x), a1, a2, a3] (st) ah Q = WP E c 123 28 [some (.ref x), a1, a2, a3] (.ref x :: st) ah Q := wp_s i123_27 rfl rfl rfl rfl
theorem i123_28 : insAt 123 28 = some (.getfield 8070, 31) := by decide +kernel
theorem r123_28 {E : aEnv} {c : Nat} {ah : aHp} {st : List Value} {Q : Option Value → aHp → Prop} {a0 a1 a2 a3 : Option Value} {a : Nat} : WP E c 123 28 [a0, a1, a2, a3] (.ref a :: st) ah Q = WPo (oGF (hg E ah a) 8 7) (fun v => WP E c 123 31 [a0, a1, a2, a3] (v :: st) ah Q) := wp_getf i123_28
theorem i123_31 : insAt 123 31 = some (.iload 3, 32) := by decide +kernel
theorem r123_31 {E : aEnv} {c : Nat} {ah : aHp} {st : List Value} {Q : Option Value → aHp → Prop} {a0 a1 a2 : Option Value} {x : Int32} : WP E c 123 31 [a0, a1, a2, some (.int x)] (st) ah Q = WP E c 123 32 [a0, a1, a2, some (.int x)] (.int x :: st) ah Q := wp_s i123_31 rfl rfl rfl rfl
theorem i123_32 : insAt 123 32 = some (.iastore, 33) := by decide +kernel
theorem r123_32 {E : aEnv} {c : Nat} {ah : aHp} {st : List Value} {Q : Option Value → aHp → Prop} {a0 a1 a2 a3 : Option Value} {x : Int32} {i : Int32} {a : Nat} : WP E c 123 32 [a0, a1, a2, a3] (.int x :: .int i :: .ref a :: st) ah Q = WPo (pI E ah (.int x :: .int i :: .ref a :: st)) (fun q9 => WP E c 123 33 [a0, a1, a2, a3] q9.1 q9.2 Q) := wp_hw i123_32 rfl rfl rfl rfl rfl rfl rfl rfl
theorem i123_33 : insAt 123 33 = some (.aload 0, 34) := by decide +kernel
theorem r123_33 {E : aEnv} {c : Nat} {ah : aHp} {st : List Value} {Q : Option Value → aHp → Prop} {a1 a2 a3 : Option Value} {x : Nat} : WP E c 123 33 [some (.ref x), a1, a2, a3] (st) ah Q = WP E c 123 34 [some (.ref x), a1, a2, a3] (.ref x :: st) ah Q := wp_s i123_33 rfl rfl rfl rfl
theorem i123_34 : insAt 123 34 = some (.dup, 35) := by decide +kernel
theorem r123_34 {E : aEnv} {c : Nat} {ah : aHp} {st : List Value} {Q : Option Value → aHp → Prop} {a0 a1 a2 a3 : Option Value} {x : Nat} : WP E c 123 34 [a0, a1, a2, a3] (.ref x :: st) ah Q = WP E c 123 35 [a0, a1, a2, a3] (.ref x :: .ref x :: st) ah Q := wp_s i123_34 rfl rfl rfl rfl
theorem r123_34i {E : aEnv} {c : Nat} {ah : aHp} {st : List Value} {Q : Option Value → aHp → Prop} {a0 a1 a2 a3 : Option Value} {x : Int32} : WP E c 123 34 [a0, a1, a2, a3] (.int x :: st) ah Q = WP E c 123 35 [a0, a1, a2, a3] (.int x :: .int x :: st) ah Q := wp_s i123_34 rfl rfl rfl rfl
theorem i123_35 : insAt 123 35 = some (.getfield 8070, 38) := by decide +kernel
theorem r123_35 {E : aEnv} {c : Nat} {ah : aHp} {st : List Value} {Q : Option Value → aHp → Prop} {a0 a1 a2 a3 : Option Value} {a : Nat} : WP E c 123 35 [a0, a1, a2, a3] (.ref a :: st) ah Q = WPo (oGF (hg E ah a) 8 7) (fun v => WP E c 123 38 [a0, a1, a2, a3] (v :: st) ah Q) := wp_getf i123_35
theorem i123_38 : insAt 123 38 = some (.iconst 1, 39) := by decide +kernel
theorem r123_38 {E : aEnv} {c : Nat} {ah : aHp} {st : List Value} {Q : Option Value → aHp → Prop} {a0 a1 a2 a3 : Option Value} : WP E c 123 38 [a0, a1, a2, a3] (st) ah Q = WP E c 123 39 [a0, a1, a2, a3] (.int (1) :: st) ah Q := wp_s i123_38 rfl rfl rfl rfl
theorem i123_39 : insAt 123 39 = some (.iadd, 40) := by decide +kernel
theorem r123_39 {E : aEnv} {c : Nat} {ah : aHp} {st : List Value} {Q : Option Value → aHp → Prop} {a0 a1 a2 a3 : Option Value} {x y : Int32} : WP E c 123 39 [a0, a1, a2, a3] (.int y :: .int x :: st) ah Q = WP E c 123 40 [a0, a1, a2, a3] (.int (x + y) :: st) ah Q := wp_s i123_39 rfl rfl rfl rfl
theorem i123_40 : insAt 123 40 = some (.putfield 8070, 43) := by decide +kernel
theorem r123_40 {E : aEnv} {c : Nat} {ah : aHp} {st : List Value} {Q : Option Value → aHp → Prop} {a0 a1 a2 a3 : Option Value} {a : Nat} {v : Value} : WP E c 123 40 [a0, a1, a2, a3] (v :: .ref a :: st) ah Q = WPo (oPF (hg E ah a) 8070 v) (fun e => WP E c 123 43 [a0, a1, a2, a3] st (hs E ah a e) Q) := wp_putf i123_40
theorem i123_43 : insAt 123 43 = some (.return_, 44) := by decide +kernel
theorem r123_43 {E : aEnv} {c : Nat} {ah : aHp} {Q : Option Value → aHp → Prop} {a0 a1 a2 a3 : Option Value} : WP E c 123 43 [a0, a1, a2, a3] ([]) ah Q = Q none ah := wp_rt i123_43 rfl
theorem e124 {E : aEnv} {c : Nat} {ah ahF : aHp} {r : Option Value} {p0 : Nat} {p1 : Int32} {p2 : Int32} {p3 : Int32} (h : WP E c 124 0 [some (.ref p0), some (.int p1), some (.int p2), some (.int p3)] [] ah (fun r1 x1 => r1 = r ∧ x1 = ahF)) : EV E c 124 [.ref p0, .int p1, .int p2, .int p3] ah r ahF := EV.of (by rw [mr124.2.1]; exact h)
theorem i124_0 : insAt 124 0 = some (.aload 0, 1) := by decide +kernel
theorem r124_0 {E : aEnv} {c : Nat} {ah : aHp} {st : List Value} {Q : Option Value → aHp → Prop} {a1 a2 a3 : Option Value} {x : Nat} : WP E c 124 0 [some (.ref x), a1, a2, a3] (st) ah Q = WP E c 124 1 [some (.ref x), a1, a2, a3] (.ref x :: st) ah Q := wp_s i124_0 rfl rfl rfl rfl
theorem i124_1 : insAt 124 1 = some (.invokevirtual 120, 4) := by decide +kernel
theorem r124_1 {E : aEnv} {c : Nat} {ah ah1 : aHp} {r : Option Value} {st : List Value} {Q : Option Value → aHp → Prop} {a0 a1 a2 a3 : Option Value} {p0 : Nat} (h : EV E c 120 [.ref p0] ah r ah1) (h2 : oCI (hg E ah p0) = 8) (h3 : wds st ≤ 8) : WP E (c + 1) 124 1 [a0, a1, a2, a3] (.ref p0 :: st) ah Q = WP E (c + 1) 124 4 [a0, a1, a2, a3] (r.toList ++ st) ah1 Q := wp_call (As := [.ref p0]) i124_1 (fun _ => rfl) rfl mr120.1 (rcv_1 h2 mr120.2.2 (by decide)) h3 (by rw [mr120.2.1]; exact Nat.le_of_ble_eq_true rfl) h
theorem i124_4 : insAt 124 4 = some (.ifCond .eq 8, 7) := by decide +kernel
theorem r124_4 {E : aEnv} {c : Nat} {ah : aHp} {st : List Value} {Q : Option Value → aHp → Prop} {a0 a1 a2 a3 : Option Value} {x : Int32} : WP E c 124 4 [a0, a1, a2, a3] (.int x :: st) ah Q = if x = 0 then WP E c 124 8 [a0, a1, a2, a3] st ah Q else WP E c 124 7 [a0, a1, a2, a3] st ah Q := wp_j i124_4 rfl rfl rfl rfl
theorem i124_7 : insAt 124 7 = some (.return_, 8) := by decide +kernel
theorem r124_7 {E : aEnv} {c : Nat} {ah : aHp} {Q : Option Value → aHp → Prop} {a0 a1 a2 a3 : Option Value} : WP E c 124 7 [a0, a1, a2, a3] ([]) ah Q = Q none ah := wp_rt i124_7 rfl
theorem i124_8 : insAt 124 8 = some (.aload 0, 9) := by decide +kernel
theorem r124_8 {E : aEnv} {c : Nat} {ah : aHp} {st : List Value} {Q : Option Value → aHp → Prop} {a1 a2 a3 : Option Value} {x : Nat} : WP E c 124 8 [some (.ref x), a1, a2, a3] (st) ah Q = WP E c 124 9 [some (.ref x), a1, a2, a3] (.ref x :: st) ah Q := wp_s i124_8 rfl rfl rfl rfl
theorem i124_9 : insAt 124 9 = some (.iload 1, 10) := by decide +kernel
theorem r124_9 {E : aEnv} {c : Nat} {ah : aHp} {st : List Value} {Q : Option Value → aHp → Prop} {a0 a2 a3 : Option Value} {x : Int32} : WP E c 124 9 [a0, some (.int x), a2, a3] (st) ah Q = WP E c 124 10 [a0, some (.int x), a2, a3] (.int x :: st) ah Q := wp_s i124_9 rfl rfl rfl rfl
theorem i124_10 : insAt 124 10 = some (.putfield 8100, 13) := by decide +kernel
theorem r124_10 {E : aEnv} {c : Nat} {ah : aHp} {st : List Value} {Q : Option Value → aHp → Prop} {a0 a1 a2 a3 : Option Value} {a : Nat} {v : Value} : WP E c 124 10 [a0, a1, a2, a3] (v :: .ref a :: st) ah Q = WPo (oPF (hg E ah a) 8100 v) (fun e => WP E c 124 13 [a0, a1, a2, a3] st (hs E ah a e) Q) := wp_putf i124_10
theorem i124_13 : insAt 124 13 = some (.aload 0, 14) := by decide +kernel
theorem r124_13 {E : aEnv} {c : Nat} {ah : aHp} {st : List Value} {Q : Option Value → aHp → Prop} {a1 a2 a3 : Option Value} {x : Nat} : WP E c 124 13 [some (.ref x), a1, a2, a3] (st) ah Q = WP E c 124 14 [some (.ref x), a1, a2, a3] (.ref x :: st) ah Q := wp_s i124_13 rfl rfl rfl rfl
theorem i124_14 : insAt 124 14 = some (.getfield 8042, 17) := by decide +kernel
theorem r124_14 {E : aEnv} {c : Nat} {ah : aHp} {st : List Value} {Q : Option Value → aHp → Prop} {a0 a1 a2 a3 : Option Value} {a : Nat} : WP E c 124 14 [a0, a1, a2, a3] (.ref a :: st) ah Q = WPo (oGF (hg E ah a) 8 4) (fun v => WP E c 124 17 [a0, a1, a2, a3] (v :: st) ah Q) := wp_getf i124_14
theorem i124_17 : insAt 124 17 = some (.aload 0, 18) := by decide +kernel
theorem r124_17 {E : aEnv} {c : Nat} {ah : aHp} {st : List Value} {Q : Option Value → aHp → Prop} {a1 a2 a3 : Option Value} {x : Nat} : WP E c 124 17 [some (.ref x), a1, a2, a3] (st) ah Q = WP E c 124 18 [some (.ref x), a1, a2, a3] (.ref x :: st) ah Q := wp_s i124_17 rfl rfl rfl rfl
theorem i124_18 : insAt 124 18 = some (.getfield 8090, 21) := by decide +kernel
theorem r124_18 {E : aEnv} {c : Nat} {ah : aHp} {st : List Value} {Q : Option Value → aHp → Prop} {a0 a1 a2 a3 : Option Value} {a : Nat} : WP E c 124 18 [a0, a1, a2, a3] (.ref a :: st) ah Q = WPo (oGF (hg E ah a) 8 9) (fun v => WP E c 124 21 [a0, a1, a2, a3] (v :: st) ah Q) := wp_getf i124_18
theorem i124_21 : insAt 124 21 = some (.iload 1, 22) := by decide +kernel
theorem r124_21 {E : aEnv} {c : Nat} {ah : aHp} {st : List Value} {Q : Option Value → aHp → Prop} {a0 a2 a3 : Option Value} {x : Int32} : WP E c 124 21 [a0, some (.int x), a2, a3] (st) ah Q = WP E c 124 22 [a0, some (.int x), a2, a3] (.int x :: st) ah Q := wp_s i124_21 rfl rfl rfl rfl
theorem i124_22 : insAt 124 22 = some (.iastore, 23) := by decide +kernel
theorem r124_22 {E : aEnv} {c : Nat} {ah : aHp} {st : List Value} {Q : Option Value → aHp → Prop} {a0 a1 a2 a3 : Option Value} {x : Int32} {i : Int32} {a : Nat} : WP E c 124 22 [a0, a1, a2, a3] (.int x :: .int i :: .ref a :: st) ah Q = WPo (pI E ah (.int x :: .int i :: .ref a :: st)) (fun q9 => WP E c 124 23 [a0, a1, a2, a3] q9.1 q9.2 Q) := wp_hw i124_22 rfl rfl rfl rfl rfl rfl rfl rfl
theorem i124_23 : insAt 124 23 = some (.aload 0, 24) := by decide +kernel
theorem r124_23 {E : aEnv} {c : Nat} {ah : aHp} {st : List Value} {Q : Option Value → aHp → Prop} {a1 a2 a3 : Option Value} {x : Nat} : WP E c 124 23 [some (.ref x), a1, a2, a3] (st) ah Q = WP E c 124 24 [some (.ref x), a1, a2, a3] (.ref x :: st) ah Q := wp_s i124_23 rfl rfl rfl rfl
theorem i124_24 : insAt 124 24 = some (.getfield 8052, 27) := by decide +kernel
theorem r124_24 {E : aEnv} {c : Nat} {ah : aHp} {st : List Value} {Q : Option Value → aHp → Prop} {a0 a1 a2 a3 : Option Value} {a : Nat} : WP E c 124 24 [a0, a1, a2, a3] (.ref a :: st) ah Q = WPo (oGF (hg E ah a) 8 5) (fun v => WP E c 124 27 [a0, a1, a2, a3] (v :: st) ah Q) := wp_getf i124_24
theorem i124_27 : insAt 124 27 = some (.aload 0, 28) := by decide +kernel
theorem r124_27 {E : aEnv} {c : Nat} {ah : aHp} {st : List Value} {Q : Option Value → aHp → Prop} {a1 a2 a3 : Option Value} {x : Nat} : WP E c 124 27 [some (.ref x), a1, a2, a3] (st) ah Q = WP E c 124 28 [some (.ref x), a1, a2, a3] (.ref x :: st) ah Q := wp_s i124_27 rfl rfl rfl rfl
theorem i124_28 : insAt 124 28 = some (.getfield 8090, 31) := by decide +kernel
theorem r124_28 {E : aEnv} {c : Nat} {ah : aHp} {st : List Value} {Q : Option Value → aHp → Prop} {a0 a1 a2 a3 : Option Value} {a : Nat} : WP E c 124 28 [a0, a1, a2, a3] (.ref a :: st) ah Q = WPo (oGF (hg E ah a) 8 9) (fun v => WP E c 124 31 [a0, a1, a2, a3] (v :: st) ah Q) := wp_getf i124_28
theorem i124_31 : insAt 124 31 = some (.iload 2, 32) := by decide +kernel
theorem r124_31 {E : aEnv} {c : Nat} {ah : aHp} {st : List Value} {Q : Option Value → aHp → Prop} {a0 a1 a3 : Option Value} {x : Int32} : WP E c 124 31 [a0, a1, some (.int x), a3] (st) ah Q = WP E c 124 32 [a0, a1, some (.int x), a3] (.int x :: st) ah Q := wp_s i124_31 rfl rfl rfl rfl
theorem i124_32 : insAt 124 32 = some (.iastore, 33) := by decide +kernel
theorem r124_32 {E : aEnv} {c : Nat} {ah : aHp} {st : List Value} {Q : Option Value → aHp → Prop} {a0 a1 a2 a3 : Option Value} {x : Int32} {i : Int32} {a : Nat} : WP E c 124 32 [a0, a1, a2, a3] (.int x :: .int i :: .ref a :: st) ah Q = WPo (pI E ah (.int x :: .int i :: .ref a :: st)) (fun q9 => WP E c 124 33 [a0, a1, a2, a3] q9.1 q9.2 Q) := wp_hw i124_32 rfl rfl rfl rfl rfl rfl rfl rfl
theorem i124_33 : insAt 124 33 = some (.aload 0, 34) := by decide +kernel
theorem r124_33 {E : aEnv} {c : Nat} {ah : aHp} {st : List Value} {Q : Option Value → aHp → Prop} {a1 a2 a3 : Option Value} {x : Nat} : WP E c 124 33 [some (.ref x), a1, a2, a3] (st) ah Q = WP E c 124 34 [some (.ref x), a1, a2, a3] (.ref x :: st) ah Q := wp_s i124_33 rfl rfl rfl rfl
theorem i124_34 : insAt 124 34 = some (.getfield 8062, 37) := by decide +kernel
theorem r124_34 {E : aEnv} {c : Nat} {ah : aHp} {st : List Value} {Q : Option Value → aHp → Prop} {a0 a1 a2 a3 : Option Value} {a : Nat} : WP E c 124 34 [a0, a1, a2, a3] (.ref a :: st) ah Q = WPo (oGF (hg E ah a) 8 6) (fun v => WP E c 124 37 [a0, a1, a2, a3] (v :: st) ah Q) := wp_getf i124_34
theorem i124_37 : insAt 124 37 = some (.aload 0, 38) := by decide +kernel
theorem r124_37 {E : aEnv} {c : Nat} {ah : aHp} {st : List Value} {Q : Option Value → aHp → Prop} {a1 a2 a3 : Option Value} {x : Nat} : WP E c 124 37 [some (.ref x), a1, a2, a3] (st) ah Q = WP E c 124 38 [some (.ref x), a1, a2, a3] (.ref x :: st) ah Q := wp_s i124_37 rfl rfl rfl rfl
theorem i124_38 : insAt 124 38 = some (.getfield 8090, 41) := by decide +kernel
theorem r124_38 {E : aEnv} {c : Nat} {ah : aHp} {st : List Value} {Q : Option Value → aHp → Prop} {a0 a1 a2 a3 : Option Value} {a : Nat} : WP E c 124 38 [a0, a1, a2, a3] (.ref a :: st) ah Q = WPo (oGF (hg E ah a) 8 9) (fun v => WP E c 124 41 [a0, a1, a2, a3] (v :: st) ah Q) := wp_getf i124_38
theorem i124_41 : insAt 124 41 = some (.iload 3, 42) := by decide +kernel
theorem r124_41 {E : aEnv} {c : Nat} {ah : aHp} {st : List Value} {Q : Option Value → aHp → Prop} {a0 a1 a2 : Option Value} {x : Int32} : WP E c 124 41 [a0, a1, a2, some (.int x)] (st) ah Q = WP E c 124 42 [a0, a1, a2, some (.int x)] (.int x :: st) ah Q := wp_s i124_41 rfl rfl rfl rfl
theorem i124_42 : insAt 124 42 = some (.iastore, 43) := by decide +kernel
theorem r124_42 {E : aEnv} {c : Nat} {ah : aHp} {st : List Value} {Q : Option Value → aHp → Prop} {a0 a1 a2 a3 : Option Value} {x : Int32} {i : Int32} {a : Nat} : WP E c 124 42 [a0, a1, a2, a3] (.int x :: .int i :: .ref a :: st) ah Q = WPo (pI E ah (.int x :: .int i :: .ref a :: st)) (fun q9 => WP E c 124 43 [a0, a1, a2, a3] q9.1 q9.2 Q) := wp_hw i124_42 rfl rfl rfl rfl rfl rfl rfl rfl
theorem i124_43 : insAt 124 43 = some (.aload 0, 44) := by decide +kernel
theorem r124_43 {E : aEnv} {c : Nat} {ah : aHp} {st : List Value} {Q : Option Value → aHp → Prop} {a1 a2 a3 : Option Value} {x : Nat} : WP E c 124 43 [some (.ref x), a1, a2, a3] (st) ah Q = WP E c 124 44 [some (.ref x), a1, a2, a3] (.ref x :: st) ah Q := wp_s i124_43 rfl rfl rfl rfl
theorem i124_44 : insAt 124 44 = some (.dup, 45) := by decide +kernel
theorem r124_44 {E : aEnv} {c : Nat} {ah : aHp} {st : List Value} {Q : Option Value → aHp → Prop} {a0 a1 a2 a3 : Option Value} {x : Nat} : WP E c 124 44 [a0, a1, a2, a3] (.ref x :: st) ah Q = WP E c 124 45 [a0, a1, a2, a3] (.ref x :: .ref x :: st) ah Q := wp_s i124_44 rfl rfl rfl rfl
theorem r124_44i {E : aEnv} {c : Nat} {ah : aHp} {st : List Value} {Q : Option Value → aHp → Prop} {a0 a1 a2 a3 : Option Value} {x : Int32} : WP E c 124 44 [a0, a1, a2, a3] (.int x :: st) ah Q = WP E c 124 45 [a0, a1, a2, a3] (.int x :: .int x :: st) ah Q := wp_s i124_44 rfl rfl rfl rfl
theorem i124_45 : insAt 124 45 = some (.getfield 8090, 48) := by decide +kernel
theorem r124_45 {E : aEnv} {c : Nat} {ah : aHp} {st : List Value} {Q : Option Value → aHp → Prop} {a0 a1 a2 a3 : Option Value} {a : Nat} : WP E c 124 45 [a0, a1, a2, a3] (.ref a :: st) ah Q = WPo (oGF (hg E ah a) 8 9) (fun v => WP E c 124 48 [a0, a1, a2, a3] (v :: st) ah Q) := wp_getf i124_45
theorem i124_48 : insAt 124 48 = some (.iconst 1, 49) := by decide +kernel
theorem r124_48 {E : aEnv} {c : Nat} {ah : aHp} {st : List Value} {Q : Option Value → aHp → Prop} {a0 a1 a2 a3 : Option Value} : WP E c 124 48 [a0, a1, a2, a3] (st) ah Q = WP E c 124 49 [a0, a1, a2, a3] (.int (1) :: st) ah Q := wp_s i124_48 rfl rfl rfl rfl
theorem i124_49 : insAt 124 49 = some (.iadd, 50) := by decide +kernel
theorem r124_49 {E : aEnv} {c : Nat} {ah : aHp} {st : List Value} {Q : Option Value → aHp → Prop} {a0 a1 a2 a3 : Option Value} {x y : Int32} : WP E c 124 49 [a0, a1, a2, a3] (.int y :: .int x :: st) ah Q = WP E c 124 50 [a0, a1, a2, a3] (.int (x + y) :: st) ah Q := wp_s i124_49 rfl rfl rfl rfl
theorem i124_50 : insAt 124 50 = some (.putfield 8090, 53) := by decide +kernel
theorem r124_50 {E : aEnv} {c : Nat} {ah : aHp} {st : List Value} {Q : Option Value → aHp → Prop} {a0 a1 a2 a3 : Option Value} {a : Nat} {v : Value} : WP E c 124 50 [a0, a1, a2, a3] (v :: .ref a :: st) ah Q = WPo (oPF (hg E ah a) 8090 v) (fun e => WP E c 124 53 [a0, a1, a2, a3] st (hs E ah a e) Q) := wp_putf i124_50
theorem i124_53 : insAt 124 53 = some (.return_, 54) := by decide +kernel
theorem r124_53 {E : aEnv} {c : Nat} {ah : aHp} {Q : Option Value → aHp → Prop} {a0 a1 a2 a3 : Option Value} : WP E c 124 53 [a0, a1, a2, a3] ([]) ah Q = Q none ah := wp_rt i124_53 rfl
theorem e125 {E : aEnv} {c : Nat} {ah ahF : aHp} {r : Option Value} {p0 : Nat} {p1 : Int32} {p2 : Int32} (h : WP E c 125 0 [some (.ref p0), some (.int p1), some (.int p2)] [] ah (fun r1 x1 => r1 = r ∧ x1 = ahF)) : EV E c 125 [.ref p0, .int p1, .int p2] ah r ahF := EV.of (by rw [mr125.2.1]; exact h)
theorem i125_0 : insAt 125 0 = some (.aload 0, 1) := by decide +kernel
theorem r125_0 {E : aEnv} {c : Nat} {ah : aHp} {st : List Value} {Q : Option Value → aHp → Prop} {a1 a2 : Option Value} {x : Nat} : WP E c 125 0 [some (.ref x), a1, a2] (st) ah Q = WP E c 125 1 [some (.ref x), a1, a2] (.ref x :: st) ah Q := wp_s i125_0 rfl rfl rfl rfl
theorem i125_1 : insAt 125 1 = some (.getfield 8080, 4) := by decide +kernel
theorem r125_1 {E : aEnv} {c : Nat} {ah : aHp} {st : List Value} {Q : Option Value → aHp → Prop} {a0 a1 a2 : Option Value} {a : Nat} : WP E c 125 1 [a0, a1, a2] (.ref a :: st) ah Q = WPo (oGF (hg E ah a) 8 8) (fun v => WP E c 125 4 [a0, a1, a2] (v :: st) ah Q) := wp_getf i125_1
theorem i125_4 : insAt 125 4 = some (.iconst 20, 6) := by decide +kernel
theorem r125_4 {E : aEnv} {c : Nat} {ah : aHp} {st : List Value} {Q : Option Value → aHp → Prop} {a0 a1 a2 : Option Value} : WP E c 125 4 [a0, a1, a2] (st) ah Q = WP E c 125 6 [a0, a1, a2] (.int (20) :: st) ah Q := wp_s i125_4 rfl rfl rfl rfl
theorem i125_6 : insAt 125 6 = some (.if_icmp .lt 11, 9) := by decide +kernel
theorem r125_6 {E : aEnv} {c : Nat} {ah : aHp} {st : List Value} {Q : Option Value → aHp → Prop} {a0 a1 a2 : Option Value} {x y : Int32} : WP E c 125 6 [a0, a1, a2] (.int y :: .int x :: st) ah Q = if x < y then WP E c 125 11 [a0, a1, a2] st ah Q else WP E c 125 9 [a0, a1, a2] st ah Q := wp_j i125_6 rfl rfl rfl rfl
theorem i125_9 : insAt 125 9 = some (.iconst (-1), 10) := by decide +kernel
theorem r125_9 {E : aEnv} {c : Nat} {ah : aHp} {st : List Value} {Q : Option Value → aHp → Prop} {a0 a1 a2 : Option Value} : WP E c 125 9 [a0, a1, a2] (st) ah Q = WP E c 125 10 [a0, a1, a2] (.int ((-1)) :: st) ah Q := wp_s i125_9 rfl rfl rfl rfl
theorem i125_10 : insAt 125 10 = some (.ireturn, 11) := by decide +kernel
theorem r125_10 {E : aEnv} {c : Nat} {ah : aHp} {Q : Option Value → aHp → Prop} {a0 a1 a2 : Option Value} {x : Int32} : WP E c 125 10 [a0, a1, a2] ([.int x]) ah Q = Q (some (.int x)) ah := wp_rt i125_10 rfl
theorem i125_11 : insAt 125 11 = some (.aload 0, 12) := by decide +kernel
theorem r125_11 {E : aEnv} {c : Nat} {ah : aHp} {st : List Value} {Q : Option Value → aHp → Prop} {a1 a2 : Option Value} {x : Nat} : WP E c 125 11 [some (.ref x), a1, a2] (st) ah Q = WP E c 125 12 [some (.ref x), a1, a2] (.ref x :: st) ah Q := wp_s i125_11 rfl rfl rfl rfl
theorem i125_12 : insAt 125 12 = some (.iload 1, 13) := by decide +kernel
theorem r125_12 {E : aEnv} {c : Nat} {ah : aHp} {st : List Value} {Q : Option Value → aHp → Prop} {a0 a2 : Option Value} {x : Int32} : WP E c 125 12 [a0, some (.int x), a2] (st) ah Q = WP E c 125 13 [a0, some (.int x), a2] (.int x :: st) ah Q := wp_s i125_12 rfl rfl rfl rfl
theorem i125_13 : insAt 125 13 = some (.putfield 8100, 16) := by decide +kernel
theorem r125_13 {E : aEnv} {c : Nat} {ah : aHp} {st : List Value} {Q : Option Value → aHp → Prop} {a0 a1 a2 : Option Value} {a : Nat} {v : Value} : WP E c 125 13 [a0, a1, a2] (v :: .ref a :: st) ah Q = WPo (oPF (hg E ah a) 8100 v) (fun e => WP E c 125 16 [a0, a1, a2] st (hs E ah a e) Q) := wp_putf i125_13
theorem i125_16 : insAt 125 16 = some (.aload 0, 17) := by decide +kernel
theorem r125_16 {E : aEnv} {c : Nat} {ah : aHp} {st : List Value} {Q : Option Value → aHp → Prop} {a1 a2 : Option Value} {x : Nat} : WP E c 125 16 [some (.ref x), a1, a2] (st) ah Q = WP E c 125 17 [some (.ref x), a1, a2] (.ref x :: st) ah Q := wp_s i125_16 rfl rfl rfl rfl
theorem i125_17 : insAt 125 17 = some (.getfield 8022, 20) := by decide +kernel
theorem r125_17 {E : aEnv} {c : Nat} {ah : aHp} {st : List Value} {Q : Option Value → aHp → Prop} {a0 a1 a2 : Option Value} {a : Nat} : WP E c 125 17 [a0, a1, a2] (.ref a :: st) ah Q = WPo (oGF (hg E ah a) 8 2) (fun v => WP E c 125 20 [a0, a1, a2] (v :: st) ah Q) := wp_getf i125_17
theorem i125_20 : insAt 125 20 = some (.aload 0, 21) := by decide +kernel
theorem r125_20 {E : aEnv} {c : Nat} {ah : aHp} {st : List Value} {Q : Option Value → aHp → Prop} {a1 a2 : Option Value} {x : Nat} : WP E c 125 20 [some (.ref x), a1, a2] (st) ah Q = WP E c 125 21 [some (.ref x), a1, a2] (.ref x :: st) ah Q := wp_s i125_20 rfl rfl rfl rfl
theorem i125_21 : insAt 125 21 = some (.getfield 8080, 24) := by decide +kernel
theorem r125_21 {E : aEnv} {c : Nat} {ah : aHp} {st : List Value} {Q : Option Value → aHp → Prop} {a0 a1 a2 : Option Value} {a : Nat} : WP E c 125 21 [a0, a1, a2] (.ref a :: st) ah Q = WPo (oGF (hg E ah a) 8 8) (fun v => WP E c 125 24 [a0, a1, a2] (v :: st) ah Q) := wp_getf i125_21
theorem i125_24 : insAt 125 24 = some (.aload 0, 25) := by decide +kernel
theorem r125_24 {E : aEnv} {c : Nat} {ah : aHp} {st : List Value} {Q : Option Value → aHp → Prop} {a1 a2 : Option Value} {x : Nat} : WP E c 125 24 [some (.ref x), a1, a2] (st) ah Q = WP E c 125 25 [some (.ref x), a1, a2] (.ref x :: st) ah Q := wp_s i125_24 rfl rfl rfl rfl
theorem i125_25 : insAt 125 25 = some (.aload 0, 26) := by decide +kernel
theorem r125_25 {E : aEnv} {c : Nat} {ah : aHp} {st : List Value} {Q : Option Value → aHp → Prop} {a1 a2 : Option Value} {x : Nat} : WP E c 125 25 [some (.ref x), a1, a2] (st) ah Q = WP E c 125 26 [some (.ref x), a1, a2] (.ref x :: st) ah Q := wp_s i125_25 rfl rfl rfl rfl
theorem i125_26 : insAt 125 26 = some (.getfield 8080, 29) := by decide +kernel
theorem r125_26 {E : aEnv} {c : Nat} {ah : aHp} {st : List Value} {Q : Option Value → aHp → Prop} {a0 a1 a2 : Option Value} {a : Nat} : WP E c 125 26 [a0, a1, a2] (.ref a :: st) ah Q = WPo (oGF (hg E ah a) 8 8) (fun v => WP E c 125 29 [a0, a1, a2] (v :: st) ah Q) := wp_getf i125_26
theorem i125_29 : insAt 125 29 = some (.invokevirtual 126, 32) := by decide +kernel
theorem r125_29 {E : aEnv} {c : Nat} {ah ah1 : aHp} {r : Option Value} {st : List Value} {Q : Option Value → aHp → Prop} {a0 a1 a2 : Option Value} {p0 : Nat} {p1 : Int32} (h : EV E c 126 [.ref p0, .int p1] ah r ah1) (h2 : oCI (hg E ah p0) = 8) (h3 : wds st ≤ 8) : WP E (c + 1) 125 29 [a0, a1, a2] (.int p1 :: .ref p0 :: st) ah Q = WP E (c + 1) 125 32 [a0, a1, a2] (r.toList ++ st) ah1 Q := wp_call (As := [.ref p0, .int p1]) i125_29 (fun _ => rfl) rfl mr126.1 (rcv_1 h2 mr126.2.2 (by decide)) h3 (by rw [mr126.2.1]; exact Nat.le_of_ble_eq_true rfl) h
theorem i125_32 : insAt 125 32 = some (.iload 2, 33) := by decide +kernel
theorem r125_32 {E : aEnv} {c : Nat} {ah : aHp} {st : List Value} {Q : Option Value → aHp → Prop} {a0 a1 : Option Value} {x : Int32} : WP E c 125 32 [a0, a1, some (.int x)] (st) ah Q = WP E c 125 33 [a0, a1, some (.int x)] (.int x :: st) ah Q := wp_s i125_32 rfl rfl rfl rfl
theorem i125_33 : insAt 125 33 = some (.iadd, 34) := by decide +kernel
theorem r125_33 {E : aEnv} {c : Nat} {ah : aHp} {st : List Value} {Q : Option Value → aHp → Prop} {a0 a1 a2 : Option Value} {x y : Int32} : WP E c 125 33 [a0, a1, a2] (.int y :: .int x :: st) ah Q = WP E c 125 34 [a0, a1, a2] (.int (x + y) :: st) ah Q := wp_s i125_33 rfl rfl rfl rfl
theorem i125_34 : insAt 125 34 = some (.iastore, 35) := by decide +kernel
theorem r125_34 {E : aEnv} {c : Nat} {ah : aHp} {st : List Value} {Q : Option Value → aHp → Prop} {a0 a1 a2 : Option Value} {x : Int32} {i : Int32} {a : Nat} : WP E c 125 34 [a0, a1, a2] (.int x :: .int i :: .ref a :: st) ah Q = WPo (pI E ah (.int x :: .int i :: .ref a :: st)) (fun q9 => WP E c 125 35 [a0, a1, a2] q9.1 q9.2 Q) := wp_hw i125_34 rfl rfl rfl rfl rfl rfl rfl rfl
theorem i125_35 : insAt 125 35 = some (.aload 0, 36) := by decide +kernel
theorem r125_35 {E : aEnv} {c : Nat} {ah : aHp} {st : List Value} {Q : Option Value → aHp → Prop} {a1 a2 : Option Value} {x : Nat} : WP E c 125 35 [some (.ref x), a1, a2] (st) ah Q = WP E c 125 36 [some (.ref x), a1, a2] (.ref x :: st) ah Q := wp_s i125_35 rfl rfl rfl rfl
theorem i125_36 : insAt 125 36 = some (.getfield 8032, 39) := by decide +kernel
theorem r125_36 {E : aEnv} {c : Nat} {ah : aHp} {st : List Value} {Q : Option Value → aHp → Prop} {a0 a1 a2 : Option Value} {a : Nat} : WP E c 125 36 [a0, a1, a2] (.ref a :: st) ah Q = WPo (oGF (hg E ah a) 8 3) (fun v => WP E c 125 39 [a0, a1, a2] (v :: st) ah Q) := wp_getf i125_36
theorem i125_39 : insAt 125 39 = some (.aload 0, 40) := by decide +kernel
theorem r125_39 {E : aEnv} {c : Nat} {ah : aHp} {st : List Value} {Q : Option Value → aHp → Prop} {a1 a2 : Option Value} {x : Nat} : WP E c 125 39 [some (.ref x), a1, a2] (st) ah Q = WP E c 125 40 [some (.ref x), a1, a2] (.ref x :: st) ah Q := wp_s i125_39 rfl rfl rfl rfl
theorem i125_40 : insAt 125 40 = some (.getfield 8080, 43) := by decide +kernel
theorem r125_40 {E : aEnv} {c : Nat} {ah : aHp} {st : List Value} {Q : Option Value → aHp → Prop} {a0 a1 a2 : Option Value} {a : Nat} : WP E c 125 40 [a0, a1, a2] (.ref a :: st) ah Q = WPo (oGF (hg E ah a) 8 8) (fun v => WP E c 125 43 [a0, a1, a2] (v :: st) ah Q) := wp_getf i125_40
theorem i125_43 : insAt 125 43 = some (.aload 0, 44) := by decide +kernel
theorem r125_43 {E : aEnv} {c : Nat} {ah : aHp} {st : List Value} {Q : Option Value → aHp → Prop} {a1 a2 : Option Value} {x : Nat} : WP E c 125 43 [some (.ref x), a1, a2] (st) ah Q = WP E c 125 44 [some (.ref x), a1, a2] (.ref x :: st) ah Q := wp_s i125_43 rfl rfl rfl rfl
theorem i125_44 : insAt 125 44 = some (.getfield 8070, 47) := by decide +kernel
theorem r125_44 {E : aEnv} {c : Nat} {ah : aHp} {st : List Value} {Q : Option Value → aHp → Prop} {a0 a1 a2 : Option Value} {a : Nat} : WP E c 125 44 [a0, a1, a2] (.ref a :: st) ah Q = WPo (oGF (hg E ah a) 8 7) (fun v => WP E c 125 47 [a0, a1, a2] (v :: st) ah Q) := wp_getf i125_44
theorem i125_47 : insAt 125 47 = some (.iastore, 48) := by decide +kernel
theorem r125_47 {E : aEnv} {c : Nat} {ah : aHp} {st : List Value} {Q : Option Value → aHp → Prop} {a0 a1 a2 : Option Value} {x : Int32} {i : Int32} {a : Nat} : WP E c 125 47 [a0, a1, a2] (.int x :: .int i :: .ref a :: st) ah Q = WPo (pI E ah (.int x :: .int i :: .ref a :: st)) (fun q9 => WP E c 125 48 [a0, a1, a2] q9.1 q9.2 Q) := wp_hw i125_47 rfl rfl rfl rfl rfl rfl rfl rfl
theorem i125_48 : insAt 125 48 = some (.aload 0, 49) := by decide +kernel
theorem r125_48 {E : aEnv} {c : Nat} {ah : aHp} {st : List Value} {Q : Option Value → aHp → Prop} {a1 a2 : Option Value} {x : Nat} : WP E c 125 48 [some (.ref x), a1, a2] (st) ah Q = WP E c 125 49 [some (.ref x), a1, a2] (.ref x :: st) ah Q := wp_s i125_48 rfl rfl rfl rfl
theorem i125_49 : insAt 125 49 = some (.dup, 50) := by decide +kernel
theorem r125_49 {E : aEnv} {c : Nat} {ah : aHp} {st : List Value} {Q : Option Value → aHp → Prop} {a0 a1 a2 : Option Value} {x : Nat} : WP E c 125 49 [a0, a1, a2] (.ref x :: st) ah Q = WP E c 125 50 [a0, a1, a2] (.ref x :: .ref x :: st) ah Q := wp_s i125_49 rfl rfl rfl rfl
theorem r125_49i {E : aEnv} {c : Nat} {ah : aHp} {st : List Value} {Q : Option Value → aHp → Prop} {a0 a1 a2 : Option Value} {x : Int32} : WP E c 125 49 [a0, a1, a2] (.int x :: st) ah Q = WP E c 125 50 [a0, a1, a2] (.int x :: .int x :: st) ah Q := wp_s i125_49 rfl rfl rfl rfl
theorem i125_50 : insAt 125 50 = some (.getfield 8080, 53) := by decide +kernel
theorem r125_50 {E : aEnv} {c : Nat} {ah : aHp} {st : List Value} {Q : Option Value → aHp → Prop} {a0 a1 a2 : Option Value} {a : Nat} : WP E c 125 50 [a0, a1, a2] (.ref a :: st) ah Q = WPo (oGF (hg E ah a) 8 8) (fun v => WP E c 125 53 [a0, a1, a2] (v :: st) ah Q) := wp_getf i125_50
theorem i125_53 : insAt 125 53 = some (.iconst 1, 54) := by decide +kernel
theorem r125_53 {E : aEnv} {c : Nat} {ah : aHp} {st : List Value} {Q : Option Value → aHp → Prop} {a0 a1 a2 : Option Value} : WP E c 125 53 [a0, a1, a2] (st) ah Q = WP E c 125 54 [a0, a1, a2] (.int (1) :: st) ah Q := wp_s i125_53 rfl rfl rfl rfl
theorem i125_54 : insAt 125 54 = some (.iadd, 55) := by decide +kernel
theorem r125_54 {E : aEnv} {c : Nat} {ah : aHp} {st : List Value} {Q : Option Value → aHp → Prop} {a0 a1 a2 : Option Value} {x y : Int32} : WP E c 125 54 [a0, a1, a2] (.int y :: .int x :: st) ah Q = WP E c 125 55 [a0, a1, a2] (.int (x + y) :: st) ah Q := wp_s i125_54 rfl rfl rfl rfl
theorem i125_55 : insAt 125 55 = some (.putfield 8080, 58) := by decide +kernel
theorem r125_55 {E : aEnv} {c : Nat} {ah : aHp} {st : List Value} {Q : Option Value → aHp → Prop} {a0 a1 a2 : Option Value} {a : Nat} {v : Value} : WP E c 125 55 [a0, a1, a2] (v :: .ref a :: st) ah Q = WPo (oPF (hg E ah a) 8080 v) (fun e => WP E c 125 58 [a0, a1, a2] st (hs E ah a e) Q) := wp_putf i125_55
theorem i125_58 : insAt 125 58 = some (.aload 0, 59) := by decide +kernel
theorem r125_58 {E : aEnv} {c : Nat} {ah : aHp} {st : List Value} {Q : Option Value → aHp → Prop} {a1 a2 : Option Value} {x : Nat} : WP E c 125 58 [some (.ref x), a1, a2] (st) ah Q = WP E c 125 59 [some (.ref x), a1, a2] (.ref x :: st) ah Q := wp_s i125_58 rfl rfl rfl rfl
theorem i125_59 : insAt 125 59 = some (.getfield 8022, 62) := by decide +kernel
theorem r125_59 {E : aEnv} {c : Nat} {ah : aHp} {st : List Value} {Q : Option Value → aHp → Prop} {a0 a1 a2 : Option Value} {a : Nat} : WP E c 125 59 [a0, a1, a2] (.ref a :: st) ah Q = WPo (oGF (hg E ah a) 8 2) (fun v => WP E c 125 62 [a0, a1, a2] (v :: st) ah Q) := wp_getf i125_59
theorem i125_62 : insAt 125 62 = some (.aload 0, 63) := by decide +kernel
theorem r125_62 {E : aEnv} {c : Nat} {ah : aHp} {st : List Value} {Q : Option Value → aHp → Prop} {a1 a2 : Option Value} {x : Nat} : WP E c 125 62 [some (.ref x), a1, a2] (st) ah Q = WP E c 125 63 [some (.ref x), a1, a2] (.ref x :: st) ah Q := wp_s i125_62 rfl rfl rfl rfl
theorem i125_63 : insAt 125 63 = some (.getfield 8080, 66) := by decide +kernel
theorem r125_63 {E : aEnv} {c : Nat} {ah : aHp} {st : List Value} {Q : Option Value → aHp → Prop} {a0 a1 a2 : Option Value} {a : Nat} : WP E c 125 63 [a0, a1, a2] (.ref a :: st) ah Q = WPo (oGF (hg E ah a) 8 8) (fun v => WP E c 125 66 [a0, a1, a2] (v :: st) ah Q) := wp_getf i125_63
theorem i125_66 : insAt 125 66 = some (.iconst 1, 67) := by decide +kernel
theorem r125_66 {E : aEnv} {c : Nat} {ah : aHp} {st : List Value} {Q : Option Value → aHp → Prop} {a0 a1 a2 : Option Value} : WP E c 125 66 [a0, a1, a2] (st) ah Q = WP E c 125 67 [a0, a1, a2] (.int (1) :: st) ah Q := wp_s i125_66 rfl rfl rfl rfl
theorem i125_67 : insAt 125 67 = some (.isub, 68) := by decide +kernel
theorem r125_67 {E : aEnv} {c : Nat} {ah : aHp} {st : List Value} {Q : Option Value → aHp → Prop} {a0 a1 a2 : Option Value} {x y : Int32} : WP E c 125 67 [a0, a1, a2] (.int y :: .int x :: st) ah Q = WP E c 125 68 [a0, a1, a2] (.int (x - y) :: st) ah Q := wp_s i125_67 rfl rfl rfl rfl
theorem i125_68 : insAt 125 68 = some (.iaload, 69) := by decide +kernel
theorem r125_68 {E : aEnv} {c : Nat} {ah : aHp} {st : List Value} {Q : Option Value → aHp → Prop} {a0 a1 a2 : Option Value} {i : Int32} {a : Nat} : WP E c 125 68 [a0, a1, a2] (.int i :: .ref a :: st) ah Q = WPo (gI E ah (.int i :: .ref a :: st)) (fun s9 => WP E c 125 69 [a0, a1, a2] s9 ah Q) := wp_hr i125_68 rfl rfl rfl rfl rfl rfl rfl rfl
theorem i125_69 : insAt 125 69 = some (.ireturn, 70) := by decide +kernel
theorem r125_69 {E : aEnv} {c : Nat} {ah : aHp} {Q : Option Value → aHp → Prop} {a0 a1 a2 : Option Value} {x : Int32} : WP E c 125 69 [a0, a1, a2] ([.int x]) ah Q = Q (some (.int x)) ah := wp_rt i125_69 rfl
theorem e126 {E : aEnv} {c : Nat} {ah ahF : aHp} {r : Option Value} {p0 : Nat} {p1 : Int32} (h : WP E c 126 0 [some (.ref p0), some (.int p1)] [] ah (fun r1 x1 => r1 = r ∧ x1 = ahF)) : EV E c 126 [.ref p0, .int p1] ah r ahF := EV.of (by rw [mr126.2.1]; exact h)
theorem i126_0 : insAt 126 0 = some (.iload 1, 1) := by decide +kernel
theorem r126_0 {E : aEnv} {c : Nat} {ah : aHp} {st : List Value} {Q : Option Value → aHp → Prop} {a0 : Option Value} {x : Int32} : WP E c 126 0 [a0, some (.int x)] (st) ah Q = WP E c 126 1 [a0, some (.int x)] (.int x :: st) ah Q := wp_s i126_0 rfl rfl rfl rfl
theorem i126_1 : insAt 126 1 = some (.ifCond .le 15, 4) := by decide +kernel
theorem r126_1 {E : aEnv} {c : Nat} {ah : aHp} {st : List Value} {Q : Option Value → aHp → Prop} {a0 a1 : Option Value} {x : Int32} : WP E c 126 1 [a0, a1] (.int x :: st) ah Q = if x ≤ 0 then WP E c 126 15 [a0, a1] st ah Q else WP E c 126 4 [a0, a1] st ah Q := wp_j i126_1 rfl rfl rfl rfl
theorem i126_4 : insAt 126 4 = some (.aload 0, 5) := by decide +kernel
theorem r126_4 {E : aEnv} {c : Nat} {ah : aHp} {st : List Value} {Q : Option Value → aHp → Prop} {a1 : Option Value} {x : Nat} : WP E c 126 4 [some (.ref x), a1] (st) ah Q = WP E c 126 5 [some (.ref x), a1] (.ref x :: st) ah Q := wp_s i126_4 rfl rfl rfl rfl
theorem i126_5 : insAt 126 5 = some (.getfield 8022, 8) := by decide +kernel
theorem r126_5 {E : aEnv} {c : Nat} {ah : aHp} {st : List Value} {Q : Option Value → aHp → Prop} {a0 a1 : Option Value} {a : Nat} : WP E c 126 5 [a0, a1] (.ref a :: st) ah Q = WPo (oGF (hg E ah a) 8 2) (fun v => WP E c 126 8 [a0, a1] (v :: st) ah Q) := wp_getf i126_5
theorem i126_8 : insAt 126 8 = some (.iload 1, 9) := by decide +kernel
theorem r126_8 {E : aEnv} {c : Nat} {ah : aHp} {st : List Value} {Q : Option Value → aHp → Prop} {a0 : Option Value} {x : Int32} : WP E c 126 8 [a0, some (.int x)] (st) ah Q = WP E c 126 9 [a0, some (.int x)] (.int x :: st) ah Q := wp_s i126_8 rfl rfl rfl rfl
theorem i126_9 : insAt 126 9 = some (.iconst 1, 10) := by decide +kernel
theorem r126_9 {E : aEnv} {c : Nat} {ah : aHp} {st : List Value} {Q : Option Value → aHp → Prop} {a0 a1 : Option Value} : WP E c 126 9 [a0, a1] (st) ah Q = WP E c 126 10 [a0, a1] (.int (1) :: st) ah Q := wp_s i126_9 rfl rfl rfl rfl
theorem i126_10 : insAt 126 10 = some (.isub, 11) := by decide +kernel
theorem r126_10 {E : aEnv} {c : Nat} {ah : aHp} {st : List Value} {Q : Option Value → aHp → Prop} {a0 a1 : Option Value} {x y : Int32} : WP E c 126 10 [a0, a1] (.int y :: .int x :: st) ah Q = WP E c 126 11 [a0, a1] (.int (x - y) :: st) ah Q := wp_s i126_10 rfl rfl rfl rfl
theorem i126_11 : insAt 126 11 = some (.iaload, 12) := by decide +kernel
theorem r126_11 {E : aEnv} {c : Nat} {ah : aHp} {st : List Value} {Q : Option Value → aHp → Prop} {a0 a1 : Option Value} {i : Int32} {a : Nat} : WP E c 126 11 [a0, a1] (.int i :: .ref a :: st) ah Q = WPo (gI E ah (.int i :: .ref a :: st)) (fun s9 => WP E c 126 12 [a0, a1] s9 ah Q) := wp_hr i126_11 rfl rfl rfl rfl rfl rfl rfl rfl
theorem i126_12 : insAt 126 12 = some (.goto 16, 15) := by decide +kernel
theorem r126_12 {E : aEnv} {c : Nat} {ah : aHp} {st : List Value} {Q : Option Value → aHp → Prop} {a0 a1 : Option Value} : WP E c 126 12 [a0, a1] (st) ah Q = WP E c 126 16 [a0, a1] st ah Q := wp_s i126_12 rfl rfl rfl rfl
theorem i126_15 : insAt 126 15 = some (.iconst 0, 16) := by decide +kernel
theorem r126_15 {E : aEnv} {c : Nat} {ah : aHp} {st : List Value} {Q : Option Value → aHp → Prop} {a0 a1 : Option Value} : WP E c 126 15 [a0, a1] (st) ah Q = WP E c 126 16 [a0, a1] (.int (0) :: st) ah Q := wp_s i126_15 rfl rfl rfl rfl
theorem i126_16 : insAt 126 16 = some (.ireturn, 17) := by decide +kernel
theorem r126_16 {E : aEnv} {c : Nat} {ah : aHp} {Q : Option Value → aHp → Prop} {a0 a1 : Option Value} {x : Int32} : WP E c 126 16 [a0, a1] ([.int x]) ah Q = Q (some (.int x)) ah := wp_rt i126_16 rfl
theorem e127 {E : aEnv} {c : Nat} {ah ahF : aHp} {r : Option Value} {p0 : Nat} {p1 : Int32} (h : WP E c 127 0 [some (.ref p0), some (.int p1), none] [] ah (fun r1 x1 => r1 = r ∧ x1 = ahF)) : EV E c 127 [.ref p0, .int p1] ah r ahF := EV.of (by rw [mr127.2.1]; exact h)
theorem i127_0 : insAt 127 0 = some (.iconst 0, 1) := by decide +kernel
theorem r127_0 {E : aEnv} {c : Nat} {ah : aHp} {st : List Value} {Q : Option Value → aHp → Prop} {a0 a1 a2 : Option Value} : WP E c 127 0 [a0, a1, a2] (st) ah Q = WP E c 127 1 [a0, a1, a2] (.int (0) :: st) ah Q := wp_s i127_0 rfl rfl rfl rfl
theorem i127_1 : insAt 127 1 = some (.istore 2, 2) := by decide +kernel
theorem r127_1 {E : aEnv} {c : Nat} {ah : aHp} {st : List Value} {Q : Option Value → aHp → Prop} {a0 a1 a2 : Option Value} {x : Int32} : WP E c 127 1 [a0, a1, a2] (.int x :: st) ah Q = WP E c 127 2 [a0, kil a1, some (.int x)] (st) ah Q := wp_s i127_1 rfl rfl rfl rfl
theorem i127_2 : insAt 127 2 = some (.iload 2, 3) := by decide +kernel
theorem r127_2 {E : aEnv} {c : Nat} {ah : aHp} {st : List Value} {Q : Option Value → aHp → Prop} {a0 a1 : Option Value} {x : Int32} : WP E c 127 2 [a0, a1, some (.int x)] (st) ah Q = WP E c 127 3 [a0, a1, some (.int x)] (.int x :: st) ah Q := wp_s i127_2 rfl rfl rfl rfl
theorem i127_3 : insAt 127 3 = some (.aload 0, 4) := by decide +kernel
theorem r127_3 {E : aEnv} {c : Nat} {ah : aHp} {st : List Value} {Q : Option Value → aHp → Prop} {a1 a2 : Option Value} {x : Nat} : WP E c 127 3 [some (.ref x), a1, a2] (st) ah Q = WP E c 127 4 [some (.ref x), a1, a2] (.ref x :: st) ah Q := wp_s i127_3 rfl rfl rfl rfl
theorem i127_4 : insAt 127 4 = some (.getfield 8080, 7) := by decide +kernel
theorem r127_4 {E : aEnv} {c : Nat} {ah : aHp} {st : List Value} {Q : Option Value → aHp → Prop} {a0 a1 a2 : Option Value} {a : Nat} : WP E c 127 4 [a0, a1, a2] (.ref a :: st) ah Q = WPo (oGF (hg E ah a) 8 8) (fun v => WP E c 127 7 [a0, a1, a2] (v :: st) ah Q) := wp_getf i127_4
theorem i127_7 : insAt 127 7 = some (.if_icmp .ge 33, 10) := by decide +kernel
theorem r127_7 {E : aEnv} {c : Nat} {ah : aHp} {st : List Value} {Q : Option Value → aHp → Prop} {a0 a1 a2 : Option Value} {x y : Int32} : WP E c 127 7 [a0, a1, a2] (.int y :: .int x :: st) ah Q = if y ≤ x then WP E c 127 33 [a0, a1, a2] st ah Q else WP E c 127 10 [a0, a1, a2] st ah Q := wp_j i127_7 rfl rfl rfl rfl
theorem i127_10 : insAt 127 10 = some (.iload 1, 11) := by decide +kernel
theorem r127_10 {E : aEnv} {c : Nat} {ah : aHp} {st : List Value} {Q : Option Value → aHp → Prop} {a0 a2 : Option Value} {x : Int32} : WP E c 127 10 [a0, some (.int x), a2] (st) ah Q = WP E c 127 11 [a0, some (.int x), a2] (.int x :: st) ah Q := wp_s i127_10 rfl rfl rfl rfl
theorem i127_11 : insAt 127 11 = some (.iconst 1, 12) := by decide +kernel
theorem r127_11 {E : aEnv} {c : Nat} {ah : aHp} {st : List Value} {Q : Option Value → aHp → Prop} {a0 a1 a2 : Option Value} : WP E c 127 11 [a0, a1, a2] (st) ah Q = WP E c 127 12 [a0, a1, a2] (.int (1) :: st) ah Q := wp_s i127_11 rfl rfl rfl rfl
theorem i127_12 : insAt 127 12 = some (.if_icmp .lt 27, 15) := by decide +kernel
theorem r127_12 {E : aEnv} {c : Nat} {ah : aHp} {st : List Value} {Q : Option Value → aHp → Prop} {a0 a1 a2 : Option Value} {x y : Int32} : WP E c 127 12 [a0, a1, a2] (.int y :: .int x :: st) ah Q = if x < y then WP E c 127 27 [a0, a1, a2] st ah Q else WP E c 127 15 [a0, a1, a2] st ah Q := wp_j i127_12 rfl rfl rfl rfl
theorem i127_15 : insAt 127 15 = some (.iload 1, 16) := by decide +kernel
theorem r127_15 {E : aEnv} {c : Nat} {ah : aHp} {st : List Value} {Q : Option Value → aHp → Prop} {a0 a2 : Option Value} {x : Int32} : WP E c 127 15 [a0, some (.int x), a2] (st) ah Q = WP E c 127 16 [a0, some (.int x), a2] (.int x :: st) ah Q := wp_s i127_15 rfl rfl rfl rfl
theorem i127_16 : insAt 127 16 = some (.aload 0, 17) := by decide +kernel
theorem r127_16 {E : aEnv} {c : Nat} {ah : aHp} {st : List Value} {Q : Option Value → aHp → Prop} {a1 a2 : Option Value} {x : Nat} : WP E c 127 16 [some (.ref x), a1, a2] (st) ah Q = WP E c 127 17 [some (.ref x), a1, a2] (.ref x :: st) ah Q := wp_s i127_16 rfl rfl rfl rfl
theorem i127_17 : insAt 127 17 = some (.getfield 8022, 20) := by decide +kernel
theorem r127_17 {E : aEnv} {c : Nat} {ah : aHp} {st : List Value} {Q : Option Value → aHp → Prop} {a0 a1 a2 : Option Value} {a : Nat} : WP E c 127 17 [a0, a1, a2] (.ref a :: st) ah Q = WPo (oGF (hg E ah a) 8 2) (fun v => WP E c 127 20 [a0, a1, a2] (v :: st) ah Q) := wp_getf i127_17
theorem i127_20 : insAt 127 20 = some (.iload 2, 21) := by decide +kernel
theorem r127_20 {E : aEnv} {c : Nat} {ah : aHp} {st : List Value} {Q : Option Value → aHp → Prop} {a0 a1 : Option Value} {x : Int32} : WP E c 127 20 [a0, a1, some (.int x)] (st) ah Q = WP E c 127 21 [a0, a1, some (.int x)] (.int x :: st) ah Q := wp_s i127_20 rfl rfl rfl rfl
theorem i127_21 : insAt 127 21 = some (.iaload, 22) := by decide +kernel
theorem r127_21 {E : aEnv} {c : Nat} {ah : aHp} {st : List Value} {Q : Option Value → aHp → Prop} {a0 a1 a2 : Option Value} {i : Int32} {a : Nat} : WP E c 127 21 [a0, a1, a2] (.int i :: .ref a :: st) ah Q = WPo (gI E ah (.int i :: .ref a :: st)) (fun s9 => WP E c 127 22 [a0, a1, a2] s9 ah Q) := wp_hr i127_21 rfl rfl rfl rfl rfl rfl rfl rfl
theorem i127_22 : insAt 127 22 = some (.if_icmp .gt 27, 25) := by decide +kernel
theorem r127_22 {E : aEnv} {c : Nat} {ah : aHp} {st : List Value} {Q : Option Value → aHp → Prop} {a0 a1 a2 : Option Value} {x y : Int32} : WP E c 127 22 [a0, a1, a2] (.int y :: .int x :: st) ah Q = if y < x then WP E c 127 27 [a0, a1, a2] st ah Q else WP E c 127 25 [a0, a1, a2] st ah Q := wp_j i127_22 rfl rfl rfl rfl
theorem i127_25 : insAt 127 25 = some (.iload 2, 26) := by decide +kernel
theorem r127_25 {E : aEnv} {c : Nat} {ah : aHp} {st : List Value} {Q : Option Value → aHp → Prop} {a0 a1 : Option Value} {x : Int32} : WP E c 127 25 [a0, a1, some (.int x)] (st) ah Q = WP E c 127 26 [a0, a1, some (.int x)] (.int x :: st) ah Q := wp_s i127_25 rfl rfl rfl rfl
theorem i127_26 : insAt 127 26 = some (.ireturn, 27) := by decide +kernel
theorem r127_26 {E : aEnv} {c : Nat} {ah : aHp} {Q : Option Value → aHp → Prop} {a0 a1 a2 : Option Value} {x : Int32} : WP E c 127 26 [a0, a1, a2] ([.int x]) ah Q = Q (some (.int x)) ah := wp_rt i127_26 rfl
theorem i127_27 : insAt 127 27 = some (.iinc 2 1, 30) := by decide +kernel
theorem r127_27 {E : aEnv} {c : Nat} {ah : aHp} {st : List Value} {Q : Option Value → aHp → Prop} {a0 a1 : Option Value} {x : Int32} : WP E c 127 27 [a0, a1, some (.int x)] (st) ah Q = WP E c 127 30 [a0, kil a1, some (.int (x + 1))] (st) ah Q := wp_s i127_27 rfl rfl rfl rfl
theorem i127_30 : insAt 127 30 = some (.goto 2, 33) := by decide +kernel
theorem r127_30 {E : aEnv} {c : Nat} {ah : aHp} {st : List Value} {Q : Option Value → aHp → Prop} {a0 a1 a2 : Option Value} : WP E c 127 30 [a0, a1, a2] (st) ah Q = WP E c 127 2 [a0, a1, a2] st ah Q := wp_s i127_30 rfl rfl rfl rfl
theorem i127_33 : insAt 127 33 = some (.iconst (-1), 34) := by decide +kernel
theorem r127_33 {E : aEnv} {c : Nat} {ah : aHp} {st : List Value} {Q : Option Value → aHp → Prop} {a0 a1 a2 : Option Value} : WP E c 127 33 [a0, a1, a2] (st) ah Q = WP E c 127 34 [a0, a1, a2] (.int ((-1)) :: st) ah Q := wp_s i127_33 rfl rfl rfl rfl
theorem i127_34 : insAt 127 34 = some (.ireturn, 35) := by decide +kernel
theorem r127_34 {E : aEnv} {c : Nat} {ah : aHp} {Q : Option Value → aHp → Prop} {a0 a1 a2 : Option Value} {x : Int32} : WP E c 127 34 [a0, a1, a2] ([.int x]) ah Q = Q (some (.int x)) ah := wp_rt i127_34 rfl
theorem e128 {E : aEnv} {c : Nat} {ah ahF : aHp} {r : Option Value} {p0 : Nat} {p1 : Int32} {p2 : Int32} (h : WP E c 128 0 [some (.ref p0), some (.int p1), some (.int p2), none] [] ah (fun r1 x1 => r1 = r ∧ x1 = ahF)) : EV E c 128 [.ref p0, .int p1, .int p2] ah r ahF := EV.of (by rw [mr128.2.1]; exact h)
theorem i128_0 : insAt 128 0 = some (.aload 0, 1) := by decide +kernel
theorem r128_0 {E : aEnv} {c : Nat} {ah : aHp} {st : List Value} {Q : Option Value → aHp → Prop} {a1 a2 a3 : Option Value} {x : Nat} : WP E c 128 0 [some (.ref x), a1, a2, a3] (st) ah Q = WP E c 128 1 [some (.ref x), a1, a2, a3] (.ref x :: st) ah Q := wp_s i128_0 rfl rfl rfl rfl
theorem i128_1 : insAt 128 1 = some (.getfield 8032, 4) := by decide +kernel
theorem r128_1 {E : aEnv} {c : Nat} {ah : aHp} {st : List Value} {Q : Option Value → aHp → Prop} {a0 a1 a2 a3 : Option Value} {a : Nat} : WP E c 128 1 [a0, a1, a2, a3] (.ref a :: st) ah Q = WPo (oGF (hg E ah a) 8 3) (fun v => WP E c 128 4 [a0, a1, a2, a3] (v :: st) ah Q) := wp_getf i128_1
theorem i128_4 : insAt 128 4 = some (.iload 1, 5) := by decide +kernel
theorem r128_4 {E : aEnv} {c : Nat} {ah : aHp} {st : List Value} {Q : Option Value → aHp → Prop} {a0 a2 a3 : Option Value} {x : Int32} : WP E c 128 4 [a0, some (.int x), a2, a3] (st) ah Q = WP E c 128 5 [a0, some (.int x), a2, a3] (.int x :: st) ah Q := wp_s i128_4 rfl rfl rfl rfl
theorem i128_5 : insAt 128 5 = some (.iaload, 6) := by decide +kernel
theorem r128_5 {E : aEnv} {c : Nat} {ah : aHp} {st : List Value} {Q : Option Value → aHp → Prop} {a0 a1 a2 a3 : Option Value} {i : Int32} {a : Nat} : WP E c 128 5 [a0, a1, a2, a3] (.int i :: .ref a :: st) ah Q = WPo (gI E ah (.int i :: .ref a :: st)) (fun s9 => WP E c 128 6 [a0, a1, a2, a3] s9 ah Q) := wp_hr i128_5 rfl rfl rfl rfl rfl rfl rfl rfl
theorem i128_6 : insAt 128 6 = some (.iconst 1, 7) := by decide +kernel
theorem r128_6 {E : aEnv} {c : Nat} {ah : aHp} {st : List Value} {Q : Option Value → aHp → Prop} {a0 a1 a2 a3 : Option Value} : WP E c 128 6 [a0, a1, a2, a3] (st) ah Q = WP E c 128 7 [a0, a1, a2, a3] (.int (1) :: st) ah Q := wp_s i128_6 rfl rfl rfl rfl
theorem i128_7 : insAt 128 7 = some (.isub, 8) := by decide +kernel
theorem r128_7 {E : aEnv} {c : Nat} {ah : aHp} {st : List Value} {Q : Option Value → aHp → Prop} {a0 a1 a2 a3 : Option Value} {x y : Int32} : WP E c 128 7 [a0, a1, a2, a3] (.int y :: .int x :: st) ah Q = WP E c 128 8 [a0, a1, a2, a3] (.int (x - y) :: st) ah Q := wp_s i128_7 rfl rfl rfl rfl
theorem i128_8 : insAt 128 8 = some (.istore 3, 9) := by decide +kernel
theorem r128_8 {E : aEnv} {c : Nat} {ah : aHp} {st : List Value} {Q : Option Value → aHp → Prop} {a0 a1 a2 a3 : Option Value} {x : Int32} : WP E c 128 8 [a0, a1, a2, a3] (.int x :: st) ah Q = WP E c 128 9 [a0, a1, kil a2, some (.int x)] (st) ah Q := wp_s i128_8 rfl rfl rfl rfl
theorem i128_9 : insAt 128 9 = some (.iload 3, 10) := by decide +kernel
theorem r128_9 {E : aEnv} {c : Nat} {ah : aHp} {st : List Value} {Q : Option Value → aHp → Prop} {a0 a1 a2 : Option Value} {x : Int32} : WP E c 128 9 [a0, a1, a2, some (.int x)] (st) ah Q = WP E c 128 10 [a0, a1, a2, some (.int x)] (.int x :: st) ah Q := wp_s i128_9 rfl rfl rfl rfl
theorem i128_10 : insAt 128 10 = some (.ifCond .lt 36, 13) := by decide +kernel
theorem r128_10 {E : aEnv} {c : Nat} {ah : aHp} {st : List Value} {Q : Option Value → aHp → Prop} {a0 a1 a2 a3 : Option Value} {x : Int32} : WP E c 128 10 [a0, a1, a2, a3] (.int x :: st) ah Q = if x < 0 then WP E c 128 36 [a0, a1, a2, a3] st ah Q else WP E c 128 13 [a0, a1, a2, a3] st ah Q := wp_j i128_10 rfl rfl rfl rfl
theorem i128_13 : insAt 128 13 = some (.aload 0, 14) := by decide +kernel
theorem r128_13 {E : aEnv} {c : Nat} {ah : aHp} {st : List Value} {Q : Option Value → aHp → Prop} {a1 a2 a3 : Option Value} {x : Nat} : WP E c 128 13 [some (.ref x), a1, a2, a3] (st) ah Q = WP E c 128 14 [some (.ref x), a1, a2, a3] (.ref x :: st) ah Q := wp_s i128_13 rfl rfl rfl rfl
theorem i128_14 : insAt 128 14 = some (.getfield 8002, 17) := by decide +kernel
theorem r128_14 {E : aEnv} {c : Nat} {ah : aHp} {st : List Value} {Q : Option Value → aHp → Prop} {a0 a1 a2 a3 : Option Value} {a : Nat} : WP E c 128 14 [a0, a1, a2, a3] (.ref a :: st) ah Q = WPo (oGF (hg E ah a) 8 0) (fun v => WP E c 128 17 [a0, a1, a2, a3] (v :: st) ah Q) := wp_getf i128_14
theorem i128_17 : insAt 128 17 = some (.iload 3, 18) := by decide +kernel
theorem r128_17 {E : aEnv} {c : Nat} {ah : aHp} {st : List Value} {Q : Option Value → aHp → Prop} {a0 a1 a2 : Option Value} {x : Int32} : WP E c 128 17 [a0, a1, a2, some (.int x)] (st) ah Q = WP E c 128 18 [a0, a1, a2, some (.int x)] (.int x :: st) ah Q := wp_s i128_17 rfl rfl rfl rfl
theorem i128_18 : insAt 128 18 = some (.iaload, 19) := by decide +kernel
theorem r128_18 {E : aEnv} {c : Nat} {ah : aHp} {st : List Value} {Q : Option Value → aHp → Prop} {a0 a1 a2 a3 : Option Value} {i : Int32} {a : Nat} : WP E c 128 18 [a0, a1, a2, a3] (.int i :: .ref a :: st) ah Q = WPo (gI E ah (.int i :: .ref a :: st)) (fun s9 => WP E c 128 19 [a0, a1, a2, a3] s9 ah Q) := wp_hr i128_18 rfl rfl rfl rfl rfl rfl rfl rfl
theorem i128_19 : insAt 128 19 = some (.iload 2, 20) := by decide +kernel
theorem r128_19 {E : aEnv} {c : Nat} {ah : aHp} {st : List Value} {Q : Option Value → aHp → Prop} {a0 a1 a3 : Option Value} {x : Int32} : WP E c 128 19 [a0, a1, some (.int x), a3] (st) ah Q = WP E c 128 20 [a0, a1, some (.int x), a3] (.int x :: st) ah Q := wp_s i128_19 rfl rfl rfl rfl
theorem i128_20 : insAt 128 20 = some (.if_icmp .ne 30, 23) := by decide +kernel
theorem r128_20 {E : aEnv} {c : Nat} {ah : aHp} {st : List Value} {Q : Option Value → aHp → Prop} {a0 a1 a2 a3 : Option Value} {x y : Int32} : WP E c 128 20 [a0, a1, a2, a3] (.int y :: .int x :: st) ah Q = if ¬ x = y then WP E c 128 30 [a0, a1, a2, a3] st ah Q else WP E c 128 23 [a0, a1, a2, a3] st ah Q := wp_j i128_20 rfl rfl rfl rfl
theorem i128_23 : insAt 128 23 = some (.aload 0, 24) := by decide +kernel
theorem r128_23 {E : aEnv} {c : Nat} {ah : aHp} {st : List Value} {Q : Option Value → aHp → Prop} {a1 a2 a3 : Option Value} {x : Nat} : WP E c 128 23 [some (.ref x), a1, a2, a3] (st) ah Q = WP E c 128 24 [some (.ref x), a1, a2, a3] (.ref x :: st) ah Q := wp_s i128_23 rfl rfl rfl rfl
theorem i128_24 : insAt 128 24 = some (.getfield 8012, 27) := by decide +kernel
theorem r128_24 {E : aEnv} {c : Nat} {ah : aHp} {st : List Value} {Q : Option Value → aHp → Prop} {a0 a1 a2 a3 : Option Value} {a : Nat} : WP E c 128 24 [a0, a1, a2, a3] (.ref a :: st) ah Q = WPo (oGF (hg E ah a) 8 1) (fun v => WP E c 128 27 [a0, a1, a2, a3] (v :: st) ah Q) := wp_getf i128_24
theorem i128_27 : insAt 128 27 = some (.iload 3, 28) := by decide +kernel
theorem r128_27 {E : aEnv} {c : Nat} {ah : aHp} {st : List Value} {Q : Option Value → aHp → Prop} {a0 a1 a2 : Option Value} {x : Int32} : WP E c 128 27 [a0, a1, a2, some (.int x)] (st) ah Q = WP E c 128 28 [a0, a1, a2, some (.int x)] (.int x :: st) ah Q := wp_s i128_27 rfl rfl rfl rfl
theorem i128_28 : insAt 128 28 = some (.iaload, 29) := by decide +kernel
theorem r128_28 {E : aEnv} {c : Nat} {ah : aHp} {st : List Value} {Q : Option Value → aHp → Prop} {a0 a1 a2 a3 : Option Value} {i : Int32} {a : Nat} : WP E c 128 28 [a0, a1, a2, a3] (.int i :: .ref a :: st) ah Q = WPo (gI E ah (.int i :: .ref a :: st)) (fun s9 => WP E c 128 29 [a0, a1, a2, a3] s9 ah Q) := wp_hr i128_28 rfl rfl rfl rfl rfl rfl rfl rfl
theorem i128_29 : insAt 128 29 = some (.ireturn, 30) := by decide +kernel
theorem r128_29 {E : aEnv} {c : Nat} {ah : aHp} {Q : Option Value → aHp → Prop} {a0 a1 a2 a3 : Option Value} {x : Int32} : WP E c 128 29 [a0, a1, a2, a3] ([.int x]) ah Q = Q (some (.int x)) ah := wp_rt i128_29 rfl
theorem i128_30 : insAt 128 30 = some (.iinc 3 (-1), 33) := by decide +kernel
theorem r128_30 {E : aEnv} {c : Nat} {ah : aHp} {st : List Value} {Q : Option Value → aHp → Prop} {a0 a1 a2 : Option Value} {x : Int32} : WP E c 128 30 [a0, a1, a2, some (.int x)] (st) ah Q = WP E c 128 33 [a0, a1, kil a2, some (.int (x + (-1)))] (st) ah Q := wp_s i128_30 rfl rfl rfl rfl
theorem i128_33 : insAt 128 33 = some (.goto 9, 36) := by decide +kernel
theorem r128_33 {E : aEnv} {c : Nat} {ah : aHp} {st : List Value} {Q : Option Value → aHp → Prop} {a0 a1 a2 a3 : Option Value} : WP E c 128 33 [a0, a1, a2, a3] (st) ah Q = WP E c 128 9 [a0, a1, a2, a3] st ah Q := wp_s i128_33 rfl rfl rfl rfl
theorem i128_36 : insAt 128 36 = some (.iconst 0, 37) := by decide +kernel
theorem r128_36 {E : aEnv} {c : Nat} {ah : aHp} {st : List Value} {Q : Option Value → aHp → Prop} {a0 a1 a2 a3 : Option Value} : WP E c 128 36 [a0, a1, a2, a3] (st) ah Q = WP E c 128 37 [a0, a1, a2, a3] (.int (0) :: st) ah Q := wp_s i128_36 rfl rfl rfl rfl
theorem i128_37 : insAt 128 37 = some (.ireturn, 38) := by decide +kernel
theorem r128_37 {E : aEnv} {c : Nat} {ah : aHp} {Q : Option Value → aHp → Prop} {a0 a1 a2 a3 : Option Value} {x : Int32} : WP E c 128 37 [a0, a1, a2, a3] ([.int x]) ah Q = Q (some (.int x)) ah := wp_rt i128_37 rfl
theorem e129 {E : aEnv} {c : Nat} {ah ahF : aHp} {r : Option Value} {p0 : Nat} {p1 : Int32} {p2 : Int32} (h : WP E c 129 0 [some (.ref p0), some (.int p1), some (.int p2), none, none, none] [] ah (fun r1 x1 => r1 = r ∧ x1 = ahF)) : EV E c 129 [.ref p0, .int p1, .int p2] ah r ahF := EV.of (by rw [mr129.2.1]; exact h)
theorem i129_0 : insAt 129 0 = some (.iconst 0, 1) := by decide +kernel
theorem r129_0 {E : aEnv} {c : Nat} {ah : aHp} {st : List Value} {Q : Option Value → aHp → Prop} {a0 a1 a2 a3 a4 a5 : Option Value} : WP E c 129 0 [a0, a1, a2, a3, a4, a5] (st) ah Q = WP E c 129 1 [a0, a1, a2, a3, a4, a5] (.int (0) :: st) ah Q := wp_s i129_0 rfl rfl rfl rfl
theorem i129_1 : insAt 129 1 = some (.istore 3, 2) := by decide +kernel
theorem r129_1 {E : aEnv} {c : Nat} {ah : aHp} {st : List Value} {Q : Option Value → aHp → Prop} {a0 a1 a2 a3 a4 a5 : Option Value} {x : Int32} : WP E c 129 1 [a0, a1, a2, a3, a4, a5] (.int x :: st) ah Q = WP E c 129 2 [a0, a1, kil a2, some (.int x), a4, a5] (st) ah Q := wp_s i129_1 rfl rfl rfl rfl
theorem i129_2 : insAt 129 2 = some (.iconst 0, 3) := by decide +kernel
theorem r129_2 {E : aEnv} {c : Nat} {ah : aHp} {st : List Value} {Q : Option Value → aHp → Prop} {a0 a1 a2 a3 a4 a5 : Option Value} : WP E c 129 2 [a0, a1, a2, a3, a4, a5] (st) ah Q = WP E c 129 3 [a0, a1, a2, a3, a4, a5] (.int (0) :: st) ah Q := wp_s i129_2 rfl rfl rfl rfl
theorem i129_3 : insAt 129 3 = some (.istore 4, 5) := by decide +kernel
theorem r129_3 {E : aEnv} {c : Nat} {ah : aHp} {st : List Value} {Q : Option Value → aHp → Prop} {a0 a1 a2 a3 a4 a5 : Option Value} {x : Int32} : WP E c 129 3 [a0, a1, a2, a3, a4, a5] (.int x :: st) ah Q = WP E c 129 5 [a0, a1, a2, kil a3, some (.int x), a5] (st) ah Q := wp_s i129_3 rfl rfl rfl rfl
theorem i129_5 : insAt 129 5 = some (.iload 4, 7) := by decide +kernel
theorem r129_5 {E : aEnv} {c : Nat} {ah : aHp} {st : List Value} {Q : Option Value → aHp → Prop} {a0 a1 a2 a3 a5 : Option Value} {x : Int32} : WP E c 129 5 [a0, a1, a2, a3, some (.int x), a5] (st) ah Q = WP E c 129 7 [a0, a1, a2, a3, some (.int x), a5] (.int x :: st) ah Q := wp_s i129_5 rfl rfl rfl rfl
theorem i129_7 : insAt 129 7 = some (.iconst 40, 9) := by decide +kernel
theorem r129_7 {E : aEnv} {c : Nat} {ah : aHp} {st : List Value} {Q : Option Value → aHp → Prop} {a0 a1 a2 a3 a4 a5 : Option Value} : WP E c 129 7 [a0, a1, a2, a3, a4, a5] (st) ah Q = WP E c 129 9 [a0, a1, a2, a3, a4, a5] (.int (40) :: st) ah Q := wp_s i129_7 rfl rfl rfl rfl
theorem i129_9 : insAt 129 9 = some (.if_icmp .ge 53, 12) := by decide +kernel
theorem r129_9 {E : aEnv} {c : Nat} {ah : aHp} {st : List Value} {Q : Option Value → aHp → Prop} {a0 a1 a2 a3 a4 a5 : Option Value} {x y : Int32} : WP E c 129 9 [a0, a1, a2, a3, a4, a5] (.int y :: .int x :: st) ah Q = if y ≤ x then WP E c 129 53 [a0, a1, a2, a3, a4, a5] st ah Q else WP E c 129 12 [a0, a1, a2, a3, a4, a5] st ah Q := wp_j i129_9 rfl rfl rfl rfl
theorem i129_12 : insAt 129 12 = some (.aload 0, 13) := by decide +kernel
theorem r129_12 {E : aEnv} {c : Nat} {ah : aHp} {st : List Value} {Q : Option Value → aHp → Prop} {a1 a2 a3 a4 a5 : Option Value} {x : Nat} : WP E c 129 12 [some (.ref x), a1, a2, a3, a4, a5] (st) ah Q = WP E c 129 13 [some (.ref x), a1, a2, a3, a4, a5] (.ref x :: st) ah Q := wp_s i129_12 rfl rfl rfl rfl
theorem i129_13 : insAt 129 13 = some (.iload 4, 15) := by decide +kernel
theorem r129_13 {E : aEnv} {c : Nat} {ah : aHp} {st : List Value} {Q : Option Value → aHp → Prop} {a0 a1 a2 a3 a5 : Option Value} {x : Int32} : WP E c 129 13 [a0, a1, a2, a3, some (.int x), a5] (st) ah Q = WP E c 129 15 [a0, a1, a2, a3, some (.int x), a5] (.int x :: st) ah Q := wp_s i129_13 rfl rfl rfl rfl
theorem i129_15 : insAt 129 15 = some (.iload 2, 16) := by decide +kernel
theorem r129_15 {E : aEnv} {c : Nat} {ah : aHp} {st : List Value} {Q : Option Value → aHp → Prop} {a0 a1 a3 a4 a5 : Option Value} {x : Int32} : WP E c 129 15 [a0, a1, some (.int x), a3, a4, a5] (st) ah Q = WP E c 129 16 [a0, a1, some (.int x), a3, a4, a5] (.int x :: st) ah Q := wp_s i129_15 rfl rfl rfl rfl
theorem i129_16 : insAt 129 16 = some (.invokevirtual 130, 19) := by decide +kernel
theorem r129_16 {E : aEnv} {c : Nat} {ah ah1 : aHp} {r : Option Value} {st : List Value} {Q : Option Value → aHp → Prop} {a0 a1 a2 a3 a4 a5 : Option Value} {p0 : Nat} {p1 : Int32} {p2 : Int32} (h : EV E c 130 [.ref p0, .int p1, .int p2] ah r ah1) (h2 : oCI (hg E ah p0) = 8) (h3 : wds st ≤ 8) : WP E (c + 1) 129 16 [a0, a1, a2, a3, a4, a5] (.int p2 :: .int p1 :: .ref p0 :: st) ah Q = WP E (c + 1) 129 19 [a0, a1, a2, a3, a4, a5] (r.toList ++ st) ah1 Q := wp_call (As := [.ref p0, .int p1, .int p2]) i129_16 (fun _ => rfl) rfl mr130.1 (rcv_1 h2 mr130.2.2 (by decide)) h3 (by rw [mr130.2.1]; exact Nat.le_of_ble_eq_true rfl) h
theorem i129_19 : insAt 129 19 = some (.istore 5, 21) := by decide +kernel
theorem r129_19 {E : aEnv} {c : Nat} {ah : aHp} {st : List Value} {Q : Option Value → aHp → Prop} {a0 a1 a2 a3 a4 a5 : Option Value} {x : Int32} : WP E c 129 19 [a0, a1, a2, a3, a4, a5] (.int x :: st) ah Q = WP E c 129 21 [a0, a1, a2, a3, kil a4, some (.int x)] (st) ah Q := wp_s i129_19 rfl rfl rfl rfl
theorem i129_21 : insAt 129 21 = some (.iload 5, 23) := by decide +kernel
theorem r129_21 {E : aEnv} {c : Nat} {ah : aHp} {st : List Value} {Q : Option Value → aHp → Prop} {a0 a1 a2 a3 a4 : Option Value} {x : Int32} : WP E c 129 21 [a0, a1, a2, a3, a4, some (.int x)] (st) ah Q = WP E c 129 23 [a0, a1, a2, a3, a4, some (.int x)] (.int x :: st) ah Q := wp_s i129_21 rfl rfl rfl rfl
theorem i129_23 : insAt 129 23 = some (.iconst (-1), 24) := by decide +kernel
theorem r129_23 {E : aEnv} {c : Nat} {ah : aHp} {st : List Value} {Q : Option Value → aHp → Prop} {a0 a1 a2 a3 a4 a5 : Option Value} : WP E c 129 23 [a0, a1, a2, a3, a4, a5] (st) ah Q = WP E c 129 24 [a0, a1, a2, a3, a4, a5] (.int ((-1)) :: st) ah Q := wp_s i129_23 rfl rfl rfl rfl
theorem i129_24 : insAt 129 24 = some (.if_icmp .eq 47, 27) := by decide +kernel
theorem r129_24 {E : aEnv} {c : Nat} {ah : aHp} {st : List Value} {Q : Option Value → aHp → Prop} {a0 a1 a2 a3 a4 a5 : Option Value} {x y : Int32} : WP E c 129 24 [a0, a1, a2, a3, a4, a5] (.int y :: .int x :: st) ah Q = if x = y then WP E c 129 47 [a0, a1, a2, a3, a4, a5] st ah Q else WP E c 129 27 [a0, a1, a2, a3, a4, a5] st ah Q := wp_j i129_24 rfl rfl rfl rfl
theorem i129_27 : insAt 129 27 = some (.aload 0, 28) := by decide +kernel
theorem r129_27 {E : aEnv} {c : Nat} {ah : aHp} {st : List Value} {Q : Option Value → aHp → Prop} {a1 a2 a3 a4 a5 : Option Value} {x : Nat} : WP E c 129 27 [some (.ref x), a1, a2, a3, a4, a5] (st) ah Q = WP E c 129 28 [some (.ref x), a1, a2, a3, a4, a5] (.ref x :: st) ah Q := wp_s i129_27 rfl rfl rfl rfl
theorem i129_28 : insAt 129 28 = some (.getfield 8062, 31) := by decide +kernel
theorem r129_28 {E : aEnv} {c : Nat} {ah : aHp} {st : List Value} {Q : Option Value → aHp → Prop} {a0 a1 a2 a3 a4 a5 : Option Value} {a : Nat} : WP E c 129 28 [a0, a1, a2, a3, a4, a5] (.ref a :: st) ah Q = WPo (oGF (hg E ah a) 8 6) (fun v => WP E c 129 31 [a0, a1, a2, a3, a4, a5] (v :: st) ah Q) := wp_getf i129_28
theorem i129_31 : insAt 129 31 = some (.iload 5, 33) := by decide +kernel
theorem r129_31 {E : aEnv} {c : Nat} {ah : aHp} {st : List Value} {Q : Option Value → aHp → Prop} {a0 a1 a2 a3 a4 : Option Value} {x : Int32} : WP E c 129 31 [a0, a1, a2, a3, a4, some (.int x)] (st) ah Q = WP E c 129 33 [a0, a1, a2, a3, a4, some (.int x)] (.int x :: st) ah Q := wp_s i129_31 rfl rfl rfl rfl
theorem i129_33 : insAt 129 33 = some (.iaload, 34) := by decide +kernel
theorem r129_33 {E : aEnv} {c : Nat} {ah : aHp} {st : List Value} {Q : Option Value → aHp → Prop} {a0 a1 a2 a3 a4 a5 : Option Value} {i : Int32} {a : Nat} : WP E c 129 33 [a0, a1, a2, a3, a4, a5] (.int i :: .ref a :: st) ah Q = WPo (gI E ah (.int i :: .ref a :: st)) (fun s9 => WP E c 129 34 [a0, a1, a2, a3, a4, a5] s9 ah Q) := wp_hr i129_33 rfl rfl rfl rfl rfl rfl rfl rfl
theorem i129_34 : insAt 129 34 = some (.aload 0, 35) := by decide +kernel
theorem r129_34 {E : aEnv} {c : Nat} {ah : aHp} {st : List Value} {Q : Option Value → aHp → Prop} {a1 a2 a3 a4 a5 : Option Value} {x : Nat} : WP E c 129 34 [some (.ref x), a1, a2, a3, a4, a5] (st) ah Q = WP E c 129 35 [some (.ref x), a1, a2, a3, a4, a5] (.ref x :: st) ah Q := wp_s i129_34 rfl rfl rfl rfl
theorem i129_35 : insAt 129 35 = some (.iload 1, 36) := by decide +kernel
theorem r129_35 {E : aEnv} {c : Nat} {ah : aHp} {st : List Value} {Q : Option Value → aHp → Prop} {a0 a2 a3 a4 a5 : Option Value} {x : Int32} : WP E c 129 35 [a0, some (.int x), a2, a3, a4, a5] (st) ah Q = WP E c 129 36 [a0, some (.int x), a2, a3, a4, a5] (.int x :: st) ah Q := wp_s i129_35 rfl rfl rfl rfl
theorem i129_36 : insAt 129 36 = some (.iload 4, 38) := by decide +kernel
theorem r129_36 {E : aEnv} {c : Nat} {ah : aHp} {st : List Value} {Q : Option Value → aHp → Prop} {a0 a1 a2 a3 a5 : Option Value} {x : Int32} : WP E c 129 36 [a0, a1, a2, a3, some (.int x), a5] (st) ah Q = WP E c 129 38 [a0, a1, a2, a3, some (.int x), a5] (.int x :: st) ah Q := wp_s i129_36 rfl rfl rfl rfl
theorem i129_38 : insAt 129 38 = some (.invokevirtual 128, 41) := by decide +kernel
theorem r129_38 {E : aEnv} {c : Nat} {ah ah1 : aHp} {r : Option Value} {st : List Value} {Q : Option Value → aHp → Prop} {a0 a1 a2 a3 a4 a5 : Option Value} {p0 : Nat} {p1 : Int32} {p2 : Int32} (h : EV E c 128 [.ref p0, .int p1, .int p2] ah r ah1) (h2 : oCI (hg E ah p0) = 8) (h3 : wds st ≤ 8) : WP E (c + 1) 129 38 [a0, a1, a2, a3, a4, a5] (.int p2 :: .int p1 :: .ref p0 :: st) ah Q = WP E (c + 1) 129 41 [a0, a1, a2, a3, a4, a5] (r.toList ++ st) ah1 Q := wp_call (As := [.ref p0, .int p1, .int p2]) i129_38 (fun _ => rfl) rfl mr128.1 (rcv_1 h2 mr128.2.2 (by decide)) h3 (by rw [mr128.2.1]; exact Nat.le_of_ble_eq_true rfl) h
theorem i129_41 : insAt 129 41 = some (.if_icmp .eq 47, 44) := by decide +kernel
theorem r129_41 {E : aEnv} {c : Nat} {ah : aHp} {st : List Value} {Q : Option Value → aHp → Prop} {a0 a1 a2 a3 a4 a5 : Option Value} {x y : Int32} : WP E c 129 41 [a0, a1, a2, a3, a4, a5] (.int y :: .int x :: st) ah Q = if x = y then WP E c 129 47 [a0, a1, a2, a3, a4, a5] st ah Q else WP E c 129 44 [a0, a1, a2, a3, a4, a5] st ah Q := wp_j i129_41 rfl rfl rfl rfl
theorem i129_44 : insAt 129 44 = some (.iinc 3 1, 47) := by decide +kernel
theorem r129_44 {E : aEnv} {c : Nat} {ah : aHp} {st : List Value} {Q : Option Value → aHp → Prop} {a0 a1 a2 a4 a5 : Option Value} {x : Int32} : WP E c 129 44 [a0, a1, a2, some (.int x), a4, a5] (st) ah Q = WP E c 129 47 [a0, a1, kil a2, some (.int (x + 1)), a4, a5] (st) ah Q := wp_s i129_44 rfl rfl rfl rfl
theorem i129_47 : insAt 129 47 = some (.iinc 4 1, 50) := by decide +kernel
theorem r129_47 {E : aEnv} {c : Nat} {ah : aHp} {st : List Value} {Q : Option Value → aHp → Prop} {a0 a1 a2 a3 a5 : Option Value} {x : Int32} : WP E c 129 47 [a0, a1, a2, a3, some (.int x), a5] (st) ah Q = WP E c 129 50 [a0, a1, a2, kil a3, some (.int (x + 1)), a5] (st) ah Q := wp_s i129_47 rfl rfl rfl rfl
theorem i129_50 : insAt 129 50 = some (.goto 5, 53) := by decide +kernel
theorem r129_50 {E : aEnv} {c : Nat} {ah : aHp} {st : List Value} {Q : Option Value → aHp → Prop} {a0 a1 a2 a3 a4 a5 : Option Value} : WP E c 129 50 [a0, a1, a2, a3, a4, a5] (st) ah Q = WP E c 129 5 [a0, a1, a2, a3, a4, a5] st ah Q := wp_s i129_50 rfl rfl rfl rfl
theorem i129_53 : insAt 129 53 = some (.iload 3, 54) := by decide +kernel
theorem r129_53 {E : aEnv} {c : Nat} {ah : aHp} {st : List Value} {Q : Option Value → aHp → Prop} {a0 a1 a2 a4 a5 : Option Value} {x : Int32} : WP E c 129 53 [a0, a1, a2, some (.int x), a4, a5] (st) ah Q = WP E c 129 54 [a0, a1, a2, some (.int x), a4, a5] (.int x :: st) ah Q := wp_s i129_53 rfl rfl rfl rfl
theorem i129_54 : insAt 129 54 = some (.ireturn, 55) := by decide +kernel
theorem r129_54 {E : aEnv} {c : Nat} {ah : aHp} {Q : Option Value → aHp → Prop} {a0 a1 a2 a3 a4 a5 : Option Value} {x : Int32} : WP E c 129 54 [a0, a1, a2, a3, a4, a5] ([.int x]) ah Q = Q (some (.int x)) ah := wp_rt i129_54 rfl
theorem e130 {E : aEnv} {c : Nat} {ah ahF : aHp} {r : Option Value} {p0 : Nat} {p1 : Int32} {p2 : Int32} (h : WP E c 130 0 [some (.ref p0), some (.int p1), some (.int p2), none] [] ah (fun r1 x1 => r1 = r ∧ x1 = ahF)) : EV E c 130 [.ref p0, .int p1, .int p2] ah r ahF := EV.of (by rw [mr130.2.1]; exact h)
theorem i130_0 : insAt 130 0 = some (.aload 0, 1) := by decide +kernel
theorem r130_0 {E : aEnv} {c : Nat} {ah : aHp} {st : List Value} {Q : Option Value → aHp → Prop} {a1 a2 a3 : Option Value} {x : Nat} : WP E c 130 0 [some (.ref x), a1, a2, a3] (st) ah Q = WP E c 130 1 [some (.ref x), a1, a2, a3] (.ref x :: st) ah Q := wp_s i130_0 rfl rfl rfl rfl
theorem i130_1 : insAt 130 1 = some (.getfield 8090, 4) := by decide +kernel
theorem r130_1 {E : aEnv} {c : Nat} {ah : aHp} {st : List Value} {Q : Option Value → aHp → Prop} {a0 a1 a2 a3 : Option Value} {a : Nat} : WP E c 130 1 [a0, a1, a2, a3] (.ref a :: st) ah Q = WPo (oGF (hg E ah a) 8 9) (fun v => WP E c 130 4 [a0, a1, a2, a3] (v :: st) ah Q) := wp_getf i130_1
theorem i130_4 : insAt 130 4 = some (.iconst 1, 5) := by decide +kernel
theorem r130_4 {E : aEnv} {c : Nat} {ah : aHp} {st : List Value} {Q : Option Value → aHp → Prop} {a0 a1 a2 a3 : Option Value} : WP E c 130 4 [a0, a1, a2, a3] (st) ah Q = WP E c 130 5 [a0, a1, a2, a3] (.int (1) :: st) ah Q := wp_s i130_4 rfl rfl rfl rfl
theorem i130_5 : insAt 130 5 = some (.isub, 6) := by decide +kernel
theorem r130_5 {E : aEnv} {c : Nat} {ah : aHp} {st : List Value} {Q : Option Value → aHp → Prop} {a0 a1 a2 a3 : Option Value} {x y : Int32} : WP E c 130 5 [a0, a1, a2, a3] (.int y :: .int x :: st) ah Q = WP E c 130 6 [a0, a1, a2, a3] (.int (x - y) :: st) ah Q := wp_s i130_5 rfl rfl rfl rfl
theorem i130_6 : insAt 130 6 = some (.istore 3, 7) := by decide +kernel
theorem r130_6 {E : aEnv} {c : Nat} {ah : aHp} {st : List Value} {Q : Option Value → aHp → Prop} {a0 a1 a2 a3 : Option Value} {x : Int32} : WP E c 130 6 [a0, a1, a2, a3] (.int x :: st) ah Q = WP E c 130 7 [a0, a1, kil a2, some (.int x)] (st) ah Q := wp_s i130_6 rfl rfl rfl rfl
theorem i130_7 : insAt 130 7 = some (.iload 3, 8) := by decide +kernel
theorem r130_7 {E : aEnv} {c : Nat} {ah : aHp} {st : List Value} {Q : Option Value → aHp → Prop} {a0 a1 a2 : Option Value} {x : Int32} : WP E c 130 7 [a0, a1, a2, some (.int x)] (st) ah Q = WP E c 130 8 [a0, a1, a2, some (.int x)] (.int x :: st) ah Q := wp_s i130_7 rfl rfl rfl rfl
theorem i130_8 : insAt 130 8 = some (.ifCond .lt 39, 11) := by decide +kernel
theorem r130_8 {E : aEnv} {c : Nat} {ah : aHp} {st : List Value} {Q : Option Value → aHp → Prop} {a0 a1 a2 a3 : Option Value} {x : Int32} : WP E c 130 8 [a0, a1, a2, a3] (.int x :: st) ah Q = if x < 0 then WP E c 130 39 [a0, a1, a2, a3] st ah Q else WP E c 130 11 [a0, a1, a2, a3] st ah Q := wp_j i130_8 rfl rfl rfl rfl
theorem i130_11 : insAt 130 11 = some (.aload 0, 12) := by decide +kernel
theorem r130_11 {E : aEnv} {c : Nat} {ah : aHp} {st : List Value} {Q : Option Value → aHp → Prop} {a1 a2 a3 : Option Value} {x : Nat} : WP E c 130 11 [some (.ref x), a1, a2, a3] (st) ah Q = WP E c 130 12 [some (.ref x), a1, a2, a3] (.ref x :: st) ah Q := wp_s i130_11 rfl rfl rfl rfl
theorem i130_12 : insAt 130 12 = some (.getfield 8052, 15) := by decide +kernel
theorem r130_12 {E : aEnv} {c : Nat} {ah : aHp} {st : List Value} {Q : Option Value → aHp → Prop} {a0 a1 a2 a3 : Option Value} {a : Nat} : WP E c 130 12 [a0, a1, a2, a3] (.ref a :: st) ah Q = WPo (oGF (hg E ah a) 8 5) (fun v => WP E c 130 15 [a0, a1, a2, a3] (v :: st) ah Q) := wp_getf i130_12
theorem i130_15 : insAt 130 15 = some (.iload 3, 16) := by decide +kernel
theorem r130_15 {E : aEnv} {c : Nat} {ah : aHp} {st : List Value} {Q : Option Value → aHp → Prop} {a0 a1 a2 : Option Value} {x : Int32} : WP E c 130 15 [a0, a1, a2, some (.int x)] (st) ah Q = WP E c 130 16 [a0, a1, a2, some (.int x)] (.int x :: st) ah Q := wp_s i130_15 rfl rfl rfl rfl
theorem i130_16 : insAt 130 16 = some (.iaload, 17) := by decide +kernel
theorem r130_16 {E : aEnv} {c : Nat} {ah : aHp} {st : List Value} {Q : Option Value → aHp → Prop} {a0 a1 a2 a3 : Option Value} {i : Int32} {a : Nat} : WP E c 130 16 [a0, a1, a2, a3] (.int i :: .ref a :: st) ah Q = WPo (gI E ah (.int i :: .ref a :: st)) (fun s9 => WP E c 130 17 [a0, a1, a2, a3] s9 ah Q) := wp_hr i130_16 rfl rfl rfl rfl rfl rfl rfl rfl
theorem i130_17 : insAt 130 17 = some (.iload 1, 18) := by decide +kernel
theorem r130_17 {E : aEnv} {c : Nat} {ah : aHp} {st : List Value} {Q : Option Value → aHp → Prop} {a0 a2 a3 : Option Value} {x : Int32} : WP E c 130 17 [a0, some (.int x), a2, a3] (st) ah Q = WP E c 130 18 [a0, some (.int x), a2, a3] (.int x :: st) ah Q := wp_s i130_17 rfl rfl rfl rfl
theorem i130_18 : insAt 130 18 = some (.if_icmp .ne 33, 21) := by decide +kernel
theorem r130_18 {E : aEnv} {c : Nat} {ah : aHp} {st : List Value} {Q : Option Value → aHp → Prop} {a0 a1 a2 a3 : Option Value} {x y : Int32} : WP E c 130 18 [a0, a1, a2, a3] (.int y :: .int x :: st) ah Q = if ¬ x = y then WP E c 130 33 [a0, a1, a2, a3] st ah Q else WP E c 130 21 [a0, a1, a2, a3] st ah Q := wp_j i130_18 rfl rfl rfl rfl
theorem i130_21 : insAt 130 21 = some (.aload 0, 22) := by decide +kernel
theorem r130_21 {E : aEnv} {c : Nat} {ah : aHp} {st : List Value} {Q : Option Value → aHp → Prop} {a1 a2 a3 : Option Value} {x : Nat} : WP E c 130 21 [some (.ref x), a1, a2, a3] (st) ah Q = WP E c 130 22 [some (.ref x), a1, a2, a3] (.ref x :: st) ah Q := wp_s i130_21 rfl rfl rfl rfl
theorem i130_22 : insAt 130 22 = some (.getfield 8042, 25) := by decide +kernel
theorem r130_22 {E : aEnv} {c : Nat} {ah : aHp} {st : List Value} {Q : Option Value → aHp → Prop} {a0 a1 a2 a3 : Option Value} {a : Nat} : WP E c 130 22 [a0, a1, a2, a3] (.ref a :: st) ah Q = WPo (oGF (hg E ah a) 8 4) (fun v => WP E c 130 25 [a0, a1, a2, a3] (v :: st) ah Q) := wp_getf i130_22
theorem i130_25 : insAt 130 25 = some (.iload 3, 26) := by decide +kernel
theorem r130_25 {E : aEnv} {c : Nat} {ah : aHp} {st : List Value} {Q : Option Value → aHp → Prop} {a0 a1 a2 : Option Value} {x : Int32} : WP E c 130 25 [a0, a1, a2, some (.int x)] (st) ah Q = WP E c 130 26 [a0, a1, a2, some (.int x)] (.int x :: st) ah Q := wp_s i130_25 rfl rfl rfl rfl
theorem i130_26 : insAt 130 26 = some (.iaload, 27) := by decide +kernel
theorem r130_26 {E : aEnv} {c : Nat} {ah : aHp} {st : List Value} {Q : Option Value → aHp → Prop} {a0 a1 a2 a3 : Option Value} {i : Int32} {a : Nat} : WP E c 130 26 [a0, a1, a2, a3] (.int i :: .ref a :: st) ah Q = WPo (gI E ah (.int i :: .ref a :: st)) (fun s9 => WP E c 130 27 [a0, a1, a2, a3] s9 ah Q) := wp_hr i130_26 rfl rfl rfl rfl rfl rfl rfl rfl
theorem i130_27 : insAt 130 27 = some (.iload 2, 28) := by decide +kernel
theorem r130_27 {E : aEnv} {c : Nat} {ah : aHp} {st : List Value} {Q : Option Value → aHp → Prop} {a0 a1 a3 : Option Value} {x : Int32} : WP E c 130 27 [a0, a1, some (.int x), a3] (st) ah Q = WP E c 130 28 [a0, a1, some (.int x), a3] (.int x :: st) ah Q := wp_s i130_27 rfl rfl rfl rfl
theorem i130_28 : insAt 130 28 = some (.if_icmp .gt 33, 31) := by decide +kernel
theorem r130_28 {E : aEnv} {c : Nat} {ah : aHp} {st : List Value} {Q : Option Value → aHp → Prop} {a0 a1 a2 a3 : Option Value} {x y : Int32} : WP E c 130 28 [a0, a1, a2, a3] (.int y :: .int x :: st) ah Q = if y < x then WP E c 130 33 [a0, a1, a2, a3] st ah Q else WP E c 130 31 [a0, a1, a2, a3] st ah Q := wp_j i130_28 rfl rfl rfl rfl
theorem i130_31 : insAt 130 31 = some (.iload 3, 32) := by decide +kernel
theorem r130_31 {E : aEnv} {c : Nat} {ah : aHp} {st : List Value} {Q : Option Value → aHp → Prop} {a0 a1 a2 : Option Value} {x : Int32} : WP E c 130 31 [a0, a1, a2, some (.int x)] (st) ah Q = WP E c 130 32 [a0, a1, a2, some (.int x)] (.int x :: st) ah Q := wp_s i130_31 rfl rfl rfl rfl
theorem i130_32 : insAt 130 32 = some (.ireturn, 33) := by decide +kernel
theorem r130_32 {E : aEnv} {c : Nat} {ah : aHp} {Q : Option Value → aHp → Prop} {a0 a1 a2 a3 : Option Value} {x : Int32} : WP E c 130 32 [a0, a1, a2, a3] ([.int x]) ah Q = Q (some (.int x)) ah := wp_rt i130_32 rfl
theorem i130_33 : insAt 130 33 = some (.iinc 3 (-1), 36) := by decide +kernel
theorem r130_33 {E : aEnv} {c : Nat} {ah : aHp} {st : List Value} {Q : Option Value → aHp → Prop} {a0 a1 a2 : Option Value} {x : Int32} : WP E c 130 33 [a0, a1, a2, some (.int x)] (st) ah Q = WP E c 130 36 [a0, a1, kil a2, some (.int (x + (-1)))] (st) ah Q := wp_s i130_33 rfl rfl rfl rfl
theorem i130_36 : insAt 130 36 = some (.goto 7, 39) := by decide +kernel
theorem r130_36 {E : aEnv} {c : Nat} {ah : aHp} {st : List Value} {Q : Option Value → aHp → Prop} {a0 a1 a2 a3 : Option Value} : WP E c 130 36 [a0, a1, a2, a3] (st) ah Q = WP E c 130 7 [a0, a1, a2, a3] st ah Q := wp_s i130_36 rfl rfl rfl rfl
theorem i130_39 : insAt 130 39 = some (.iconst (-1), 40) := by decide +kernel
theorem r130_39 {E : aEnv} {c : Nat} {ah : aHp} {st : List Value} {Q : Option Value → aHp → Prop} {a0 a1 a2 a3 : Option Value} : WP E c 130 39 [a0, a1, a2, a3] (st) ah Q = WP E c 130 40 [a0, a1, a2, a3] (.int ((-1)) :: st) ah Q := wp_s i130_39 rfl rfl rfl rfl
theorem i130_40 : insAt 130 40 = some (.ireturn, 41) := by decide +kernel
theorem r130_40 {E : aEnv} {c : Nat} {ah : aHp} {Q : Option Value → aHp → Prop} {a0 a1 a2 a3 : Option Value} {x : Int32} : WP E c 130 40 [a0, a1, a2, a3] ([.int x]) ah Q = Q (some (.int x)) ah := wp_rt i130_40 rfl
theorem e131 {E : aEnv} {c : Nat} {ah ahF : aHp} {r : Option Value} {p0 : Nat} {p1 : Int32} (h : WP E c 131 0 [some (.ref p0), some (.int p1), none, none] [] ah (fun r1 x1 => r1 = r ∧ x1 = ahF)) : EV E c 131 [.ref p0, .int p1] ah r ahF := EV.of (by rw [mr131.2.1]; exact h)
theorem i131_0 : insAt 131 0 = some (.iconst 0, 1) := by decide +kernel
theorem r131_0 {E : aEnv} {c : Nat} {ah : aHp} {st : List Value} {Q : Option Value → aHp → Prop} {a0 a1 a2 a3 : Option Value} : WP E c 131 0 [a0, a1, a2, a3] (st) ah Q = WP E c 131 1 [a0, a1, a2, a3] (.int (0) :: st) ah Q := wp_s i131_0 rfl rfl rfl rfl
theorem i131_1 : insAt 131 1 = some (.istore 2, 2) := by decide +kernel
theorem r131_1 {E : aEnv} {c : Nat} {ah : aHp} {st : List Value} {Q : Option Value → aHp → Prop} {a0 a1 a2 a3 : Option Value} {x : Int32} : WP E c 131 1 [a0, a1, a2, a3] (.int x :: st) ah Q = WP E c 131 2 [a0, kil a1, some (.int x), a3] (st) ah Q := wp_s i131_1 rfl rfl rfl rfl
theorem i131_2 : insAt 131 2 = some (.iconst 0, 3) := by decide +kernel
theorem r131_2 {E : aEnv} {c : Nat} {ah : aHp} {st : List Value} {Q : Option Value → aHp → Prop} {a0 a1 a2 a3 : Option Value} : WP E c 131 2 [a0, a1, a2, a3] (st) ah Q = WP E c 131 3 [a0, a1, a2, a3] (.int (0) :: st) ah Q := wp_s i131_2 rfl rfl rfl rfl
theorem i131_3 : insAt 131 3 = some (.istore 3, 4) := by decide +kernel
theorem r131_3 {E : aEnv} {c : Nat} {ah : aHp} {st : List Value} {Q : Option Value → aHp → Prop} {a0 a1 a2 a3 : Option Value} {x : Int32} : WP E c 131 3 [a0, a1, a2, a3] (.int x :: st) ah Q = WP E c 131 4 [a0, a1, kil a2, some (.int x)] (st) ah Q := wp_s i131_3 rfl rfl rfl rfl
theorem i131_4 : insAt 131 4 = some (.iload 3, 5) := by decide +kernel
theorem r131_4 {E : aEnv} {c : Nat} {ah : aHp} {st : List Value} {Q : Option Value → aHp → Prop} {a0 a1 a2 : Option Value} {x : Int32} : WP E c 131 4 [a0, a1, a2, some (.int x)] (st) ah Q = WP E c 131 5 [a0, a1, a2, some (.int x)] (.int x :: st) ah Q := wp_s i131_4 rfl rfl rfl rfl
theorem i131_5 : insAt 131 5 = some (.aload 0, 6) := by decide +kernel
theorem r131_5 {E : aEnv} {c : Nat} {ah : aHp} {st : List Value} {Q : Option Value → aHp → Prop} {a1 a2 a3 : Option Value} {x : Nat} : WP E c 131 5 [some (.ref x), a1, a2, a3] (st) ah Q = WP E c 131 6 [some (.ref x), a1, a2, a3] (.ref x :: st) ah Q := wp_s i131_5 rfl rfl rfl rfl
theorem i131_6 : insAt 131 6 = some (.getfield 8080, 9) := by decide +kernel
theorem r131_6 {E : aEnv} {c : Nat} {ah : aHp} {st : List Value} {Q : Option Value → aHp → Prop} {a0 a1 a2 a3 : Option Value} {a : Nat} : WP E c 131 6 [a0, a1, a2, a3] (.ref a :: st) ah Q = WPo (oGF (hg E ah a) 8 8) (fun v => WP E c 131 9 [a0, a1, a2, a3] (v :: st) ah Q) := wp_getf i131_6
theorem i131_9 : insAt 131 9 = some (.if_icmp .ge 42, 12) := by decide +kernel
theorem r131_9 {E : aEnv} {c : Nat} {ah : aHp} {st : List Value} {Q : Option Value → aHp → Prop} {a0 a1 a2 a3 : Option Value} {x y : Int32} : WP E c 131 9 [a0, a1, a2, a3] (.int y :: .int x :: st) ah Q = if y ≤ x then WP E c 131 42 [a0, a1, a2, a3] st ah Q else WP E c 131 12 [a0, a1, a2, a3] st ah Q := wp_j i131_9 rfl rfl rfl rfl
theorem i131_12 : insAt 131 12 = some (.aload 0, 13) := by decide +kernel
theorem r131_12 {E : aEnv} {c : Nat} {ah : aHp} {st : List Value} {Q : Option Value → aHp → Prop} {a1 a2 a3 : Option Value} {x : Nat} : WP E c 131 12 [some (.ref x), a1, a2, a3] (st) ah Q = WP E c 131 13 [some (.ref x), a1, a2, a3] (.ref x :: st) ah Q := wp_s i131_12 rfl rfl rfl rfl
theorem i131_13 : insAt 131 13 = some (.iload 3, 14) := by decide +kernel
theorem r131_13 {E : aEnv} {c : Nat} {ah : aHp} {st : List Value} {Q : Option Value → aHp → Prop} {a0 a1 a2 : Option Value} {x : Int32} : WP E c 131 13 [a0, a1, a2, some (.int x)] (st) ah Q = WP E c 131 14 [a0, a1, a2, some (.int x)] (.int x :: st) ah Q := wp_s i131_13 rfl rfl rfl rfl
theorem i131_14 : insAt 131 14 = some (.iload 1, 15) := by decide +kernel
theorem r131_14 {E : aEnv} {c : Nat} {ah : aHp} {st : List Value} {Q : Option Value → aHp → Prop} {a0 a2 a3 : Option Value} {x : Int32} : WP E c 131 14 [a0, some (.int x), a2, a3] (st) ah Q = WP E c 131 15 [a0, some (.int x), a2, a3] (.int x :: st) ah Q := wp_s i131_14 rfl rfl rfl rfl
theorem i131_15 : insAt 131 15 = some (.invokevirtual 129, 18) := by decide +kernel
theorem r131_15 {E : aEnv} {c : Nat} {ah ah1 : aHp} {r : Option Value} {st : List Value} {Q : Option Value → aHp → Prop} {a0 a1 a2 a3 : Option Value} {p0 : Nat} {p1 : Int32} {p2 : Int32} (h : EV E c 129 [.ref p0, .int p1, .int p2] ah r ah1) (h2 : oCI (hg E ah p0) = 8) (h3 : wds st ≤ 8) : WP E (c + 1) 131 15 [a0, a1, a2, a3] (.int p2 :: .int p1 :: .ref p0 :: st) ah Q = WP E (c + 1) 131 18 [a0, a1, a2, a3] (r.toList ++ st) ah1 Q := wp_call (As := [.ref p0, .int p1, .int p2]) i131_15 (fun _ => rfl) rfl mr129.1 (rcv_1 h2 mr129.2.2 (by decide)) h3 (by rw [mr129.2.1]; exact Nat.le_of_ble_eq_true rfl) h
theorem i131_18 : insAt 131 18 = some (.ifCond .le 36, 21) := by decide +kernel
theorem r131_18 {E : aEnv} {c : Nat} {ah : aHp} {st : List Value} {Q : Option Value → aHp → Prop} {a0 a1 a2 a3 : Option Value} {x : Int32} : WP E c 131 18 [a0, a1, a2, a3] (.int x :: st) ah Q = if x ≤ 0 then WP E c 131 36 [a0, a1, a2, a3] st ah Q else WP E c 131 21 [a0, a1, a2, a3] st ah Q := wp_j i131_18 rfl rfl rfl rfl
theorem i131_21 : insAt 131 21 = some (.iload 2, 22) := by decide +kernel
theorem r131_21 {E : aEnv} {c : Nat} {ah : aHp} {st : List Value} {Q : Option Value → aHp → Prop} {a0 a1 a3 : Option Value} {x : Int32} : WP E c 131 21 [a0, a1, some (.int x), a3] (st) ah Q = WP E c 131 22 [a0, a1, some (.int x), a3] (.int x :: st) ah Q := wp_s i131_21 rfl rfl rfl rfl
theorem i131_22 : insAt 131 22 = some (.aload 0, 23) := by decide +kernel
theorem r131_22 {E : aEnv} {c : Nat} {ah : aHp} {st : List Value} {Q : Option Value → aHp → Prop} {a1 a2 a3 : Option Value} {x : Nat} : WP E c 131 22 [some (.ref x), a1, a2, a3] (st) ah Q = WP E c 131 23 [some (.ref x), a1, a2, a3] (.ref x :: st) ah Q := wp_s i131_22 rfl rfl rfl rfl
theorem i131_23 : insAt 131 23 = some (.getfield 8022, 26) := by decide +kernel
theorem r131_23 {E : aEnv} {c : Nat} {ah : aHp} {st : List Value} {Q : Option Value → aHp → Prop} {a0 a1 a2 a3 : Option Value} {a : Nat} : WP E c 131 23 [a0, a1, a2, a3] (.ref a :: st) ah Q = WPo (oGF (hg E ah a) 8 2) (fun v => WP E c 131 26 [a0, a1, a2, a3] (v :: st) ah Q) := wp_getf i131_23
theorem i131_26 : insAt 131 26 = some (.iload 3, 27) := by decide +kernel
theorem r131_26 {E : aEnv} {c : Nat} {ah : aHp} {st : List Value} {Q : Option Value → aHp → Prop} {a0 a1 a2 : Option Value} {x : Int32} : WP E c 131 26 [a0, a1, a2, some (.int x)] (st) ah Q = WP E c 131 27 [a0, a1, a2, some (.int x)] (.int x :: st) ah Q := wp_s i131_26 rfl rfl rfl rfl
theorem i131_27 : insAt 131 27 = some (.iaload, 28) := by decide +kernel
theorem r131_27 {E : aEnv} {c : Nat} {ah : aHp} {st : List Value} {Q : Option Value → aHp → Prop} {a0 a1 a2 a3 : Option Value} {i : Int32} {a : Nat} : WP E c 131 27 [a0, a1, a2, a3] (.int i :: .ref a :: st) ah Q = WPo (gI E ah (.int i :: .ref a :: st)) (fun s9 => WP E c 131 28 [a0, a1, a2, a3] s9 ah Q) := wp_hr i131_27 rfl rfl rfl rfl rfl rfl rfl rfl
theorem i131_28 : insAt 131 28 = some (.aload 0, 29) := by decide +kernel
theorem r131_28 {E : aEnv} {c : Nat} {ah : aHp} {st : List Value} {Q : Option Value → aHp → Prop} {a1 a2 a3 : Option Value} {x : Nat} : WP E c 131 28 [some (.ref x), a1, a2, a3] (st) ah Q = WP E c 131 29 [some (.ref x), a1, a2, a3] (.ref x :: st) ah Q := wp_s i131_28 rfl rfl rfl rfl
theorem i131_29 : insAt 131 29 = some (.iload 3, 30) := by decide +kernel
theorem r131_29 {E : aEnv} {c : Nat} {ah : aHp} {st : List Value} {Q : Option Value → aHp → Prop} {a0 a1 a2 : Option Value} {x : Int32} : WP E c 131 29 [a0, a1, a2, some (.int x)] (st) ah Q = WP E c 131 30 [a0, a1, a2, some (.int x)] (.int x :: st) ah Q := wp_s i131_29 rfl rfl rfl rfl
theorem i131_30 : insAt 131 30 = some (.invokevirtual 126, 33) := by decide +kernel
theorem r131_30 {E : aEnv} {c : Nat} {ah ah1 : aHp} {r : Option Value} {st : List Value} {Q : Option Value → aHp → Prop} {a0 a1 a2 a3 : Option Value} {p0 : Nat} {p1 : Int32} (h : EV E c 126 [.ref p0, .int p1] ah r ah1) (h2 : oCI (hg E ah p0) = 8) (h3 : wds st ≤ 8) : WP E (c + 1) 131 30 [a0, a1, a2, a3] (.int p1 :: .ref p0 :: st) ah Q = WP E (c + 1) 131 33 [a0, a1, a2, a3] (r.toList ++ st) ah1 Q := wp_call (As := [.ref p0, .int p1]) i131_30 (fun _ => rfl) rfl mr126.1 (rcv_1 h2 mr126.2.2 (by decide)) h3 (by rw [mr126.2.1]; exact Nat.le_of_ble_eq_true rfl) h
theorem i131_33 : insAt 131 33 = some (.isub, 34) := by decide +kernel
theorem r131_33 {E : aEnv} {c : Nat} {ah : aHp} {st : List Value} {Q : Option Value → aHp → Prop} {a0 a1 a2 a3 : Option Value} {x y : Int32} : WP E c 131 33 [a0, a1, a2, a3] (.int y :: .int x :: st) ah Q = WP E c 131 34 [a0, a1, a2, a3] (.int (x - y) :: st) ah Q := wp_s i131_33 rfl rfl rfl rfl
theorem i131_34 : insAt 131 34 = some (.iadd, 35) := by decide +kernel
theorem r131_34 {E : aEnv} {c : Nat} {ah : aHp} {st : List Value} {Q : Option Value → aHp → Prop} {a0 a1 a2 a3 : Option Value} {x y : Int32} : WP E c 131 34 [a0, a1, a2, a3] (.int y :: .int x :: st) ah Q = WP E c 131 35 [a0, a1, a2, a3] (.int (x + y) :: st) ah Q := wp_s i131_34 rfl rfl rfl rfl
theorem i131_35 : insAt 131 35 = some (.istore 2, 36) := by decide +kernel
theorem r131_35 {E : aEnv} {c : Nat} {ah : aHp} {st : List Value} {Q : Option Value → aHp → Prop} {a0 a1 a2 a3 : Option Value} {x : Int32} : WP E c 131 35 [a0, a1, a2, a3] (.int x :: st) ah Q = WP E c 131 36 [a0, kil a1, some (.int x), a3] (st) ah Q := wp_s i131_35 rfl rfl rfl rfl
theorem i131_36 : insAt 131 36 = some (.iinc 3 1, 39) := by decide +kernel
theorem r131_36 {E : aEnv} {c : Nat} {ah : aHp} {st : List Value} {Q : Option Value → aHp → Prop} {a0 a1 a2 : Option Value} {x : Int32} : WP E c 131 36 [a0, a1, a2, some (.int x)] (st) ah Q = WP E c 131 39 [a0, a1, kil a2, some (.int (x + 1))] (st) ah Q := wp_s i131_36 rfl rfl rfl rfl
theorem i131_39 : insAt 131 39 = some (.goto 4, 42) := by decide +kernel
theorem r131_39 {E : aEnv} {c : Nat} {ah : aHp} {st : List Value} {Q : Option Value → aHp → Prop} {a0 a1 a2 a3 : Option Value} : WP E c 131 39 [a0, a1, a2, a3] (st) ah Q = WP E c 131 4 [a0, a1, a2, a3] st ah Q := wp_s i131_39 rfl rfl rfl rfl
theorem i131_42 : insAt 131 42 = some (.iload 2, 43) := by decide +kernel
theorem r131_42 {E : aEnv} {c : Nat} {ah : aHp} {st : List Value} {Q : Option Value → aHp → Prop} {a0 a1 a3 : Option Value} {x : Int32} : WP E c 131 42 [a0, a1, some (.int x), a3] (st) ah Q = WP E c 131 43 [a0, a1, some (.int x), a3] (.int x :: st) ah Q := wp_s i131_42 rfl rfl rfl rfl
theorem i131_43 : insAt 131 43 = some (.ireturn, 44) := by decide +kernel
theorem r131_43 {E : aEnv} {c : Nat} {ah : aHp} {Q : Option Value → aHp → Prop} {a0 a1 a2 a3 : Option Value} {x : Int32} : WP E c 131 43 [a0, a1, a2, a3] ([.int x]) ah Q = Q (some (.int x)) ah := wp_rt i131_43 rfl
