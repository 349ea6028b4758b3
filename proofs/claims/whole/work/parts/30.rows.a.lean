/-! rows of the code, by program (genrows.py) -/
theorem e0 {E : aEnv} {c : Nat} {ah ahF : aHp} {r : Option Value} {p0 : Nat} (h : WP E c 0 0 [some (.ref p0)] [] ah (fun r1 x1 => r1 = r ∧ x1 = ahF)) : EV E c 0 [.ref p0] ah r ahF := EV.of (by rw [mr0.2.1]; exact h)
theorem i0_0 : insAt 0 0 = some (.aload 0, 1) := by decide +kernel
theorem r0_0 {E : aEnv} {c : Nat} {ah : aHp} {st : List Value} {Q : Option Value → aHp → Prop} {x : Nat} : WP E c 0 0 [some (.ref x)] (st) ah Q = WP E c 0 1 [some (.ref x)] (.ref x :: st) ah Q := wp_s i0_0 rfl rfl rfl rfl
theorem i0_1 : insAt 0 1 = some (.ldc_w 4, 4) := by decide +kernel
-- 0 1 .ldc_w 4
theorem i0_4 : insAt 0 4 = some (.aload 0, 5) := by decide +kernel
theorem r0_4 {E : aEnv} {c : Nat} {ah : aHp} {st : List Value} {Q : Option Value → aHp → Prop} {x : Nat} : WP E c 0 4 [some (.ref x)] (st) ah Q = WP E c 0 5 [some (.ref x)] (.ref x :: st) ah Q := wp_s i0_4 rfl rfl rfl rfl
theorem i0_5 : insAt 0 5 = some (.iconst 0, 6) := by decide +kernel
theorem r0_5 {E : aEnv} {c : Nat} {ah : aHp} {st : List Value} {Q : Option Value → aHp → Prop} {a0 : Option Value} : WP E c 0 5 [a0] (st) ah Q = WP E c 0 6 [a0] (.int (0) :: st) ah Q := wp_s i0_5 rfl rfl rfl rfl
theorem i0_6 : insAt 0 6 = some (.newarray .byte, 8) := by decide +kernel
theorem r0_6 {E : aEnv} {c : Nat} {ah : aHp} {st : List Value} {Q : Option Value → aHp → Prop} {a0 : Option Value} {x : Int32} : WP E c 0 6 [a0] (.int x :: st) ah Q = WPo (nR E ah 2 (.int x :: st)) (fun q9 => WP E c 0 8 [a0] q9.1 q9.2 Q) := wp_hw i0_6 rfl rfl rfl rfl rfl rfl rfl rfl
theorem i0_8 : insAt 0 8 = some (.putfield 2, 11) := by decide +kernel
theorem r0_8 {E : aEnv} {c : Nat} {ah : aHp} {st : List Value} {Q : Option Value → aHp → Prop} {a0 : Option Value} {a : Nat} {v : Value} : WP E c 0 8 [a0] (v :: .ref a :: st) ah Q = WPo (oPF (hg E ah a) 2 v) (fun e => WP E c 0 11 [a0] st (hs E ah a e) Q) := wp_putf i0_8
theorem i0_11 : insAt 0 11 = some (.aload 0, 12) := by decide +kernel
theorem r0_11 {E : aEnv} {c : Nat} {ah : aHp} {st : List Value} {Q : Option Value → aHp → Prop} {x : Nat} : WP E c 0 11 [some (.ref x)] (st) ah Q = WP E c 0 12 [some (.ref x)] (.ref x :: st) ah Q := wp_s i0_11 rfl rfl rfl rfl
theorem i0_12 : insAt 0 12 = some (.iconst (-1), 13) := by decide +kernel
theorem r0_12 {E : aEnv} {c : Nat} {ah : aHp} {st : List Value} {Q : Option Value → aHp → Prop} {a0 : Option Value} : WP E c 0 12 [a0] (st) ah Q = WP E c 0 13 [a0] (.int ((-1)) :: st) ah Q := wp_s i0_12 rfl rfl rfl rfl
theorem i0_13 : insAt 0 13 = some (.putfield 60, 16) := by decide +kernel
theorem r0_13 {E : aEnv} {c : Nat} {ah : aHp} {st : List Value} {Q : Option Value → aHp → Prop} {a0 : Option Value} {a : Nat} {v : Value} : WP E c 0 13 [a0] (v :: .ref a :: st) ah Q = WPo (oPF (hg E ah a) 60 v) (fun e => WP E c 0 16 [a0] st (hs E ah a e) Q) := wp_putf i0_13
theorem i0_16 : insAt 0 16 = some (.aload 0, 17) := by decide +kernel
theorem r0_16 {E : aEnv} {c : Nat} {ah : aHp} {st : List Value} {Q : Option Value → aHp → Prop} {x : Nat} : WP E c 0 16 [some (.ref x)] (st) ah Q = WP E c 0 17 [some (.ref x)] (.ref x :: st) ah Q := wp_s i0_16 rfl rfl rfl rfl
theorem i0_17 : insAt 0 17 = some (.iconst (-1), 18) := by decide +kernel
theorem r0_17 {E : aEnv} {c : Nat} {ah : aHp} {st : List Value} {Q : Option Value → aHp → Prop} {a0 : Option Value} : WP E c 0 17 [a0] (st) ah Q = WP E c 0 18 [a0] (.int ((-1)) :: st) ah Q := wp_s i0_17 rfl rfl rfl rfl
theorem i0_18 : insAt 0 18 = some (.putfield 70, 21) := by decide +kernel
theorem r0_18 {E : aEnv} {c : Nat} {ah : aHp} {st : List Value} {Q : Option Value → aHp → Prop} {a0 : Option Value} {a : Nat} {v : Value} : WP E c 0 18 [a0] (v :: .ref a :: st) ah Q = WPo (oPF (hg E ah a) 70 v) (fun e => WP E c 0 21 [a0] st (hs E ah a e) Q) := wp_putf i0_18
theorem i0_21 : insAt 0 21 = some (.return_, 22) := by decide +kernel
theorem r0_21 {E : aEnv} {c : Nat} {ah : aHp} {Q : Option Value → aHp → Prop} {a0 : Option Value} : WP E c 0 21 [a0] ([]) ah Q = Q none ah := wp_rt i0_21 rfl
theorem e1 {E : aEnv} {c : Nat} {ah ahF : aHp} {r : Option Value} {p0 : Nat} {p1 : Nat} {p2 : Int32} {p3 : Nat} (h : WP E c 1 0 [some (.ref p0), some (.ref p1), some (.int p2), some (.ref p3), none] [] ah (fun r1 x1 => r1 = r ∧ x1 = ahF)) : EV E c 1 [.ref p0, .ref p1, .int p2, .ref p3] ah r ahF := EV.of (by rw [mr1.2.1]; exact h)
theorem i1_0 : insAt 1 0 = some (.aload 0, 1) := by decide +kernel
theorem r1_0 {E : aEnv} {c : Nat} {ah : aHp} {st : List Value} {Q : Option Value → aHp → Prop} {a1 a2 a3 a4 : Option Value} {x : Nat} : WP E c 1 0 [some (.ref x), a1, a2, a3, a4] (st) ah Q = WP E c 1 1 [some (.ref x), a1, a2, a3, a4] (.ref x :: st) ah Q := wp_s i1_0 rfl rfl rfl rfl
theorem i1_1 : insAt 1 1 = some (.aload 1, 2) := by decide +kernel
theorem r1_1 {E : aEnv} {c : Nat} {ah : aHp} {st : List Value} {Q : Option Value → aHp → Prop} {a0 a2 a3 a4 : Option Value} {x : Nat} : WP E c 1 1 [a0, some (.ref x), a2, a3, a4] (st) ah Q = WP E c 1 2 [a0, some (.ref x), a2, a3, a4] (.ref x :: st) ah Q := wp_s i1_1 rfl rfl rfl rfl
theorem r1_1n {E : aEnv} {c : Nat} {ah : aHp} {st : List Value} {Q : Option Value → aHp → Prop} {a0 a2 a3 a4 : Option Value} : WP E c 1 1 [a0, some .null, a2, a3, a4] (st) ah Q = WP E c 1 2 [a0, some .null, a2, a3, a4] (.null :: st) ah Q := wp_s i1_1 rfl rfl rfl rfl
theorem i1_2 : insAt 1 2 = some (.putfield 2, 5) := by decide +kernel
theorem r1_2 {E : aEnv} {c : Nat} {ah : aHp} {st : List Value} {Q : Option Value → aHp → Prop} {a0 a1 a2 a3 a4 : Option Value} {a : Nat} {v : Value} : WP E c 1 2 [a0, a1, a2, a3, a4] (v :: .ref a :: st) ah Q = WPo (oPF (hg E ah a) 2 v) (fun e => WP E c 1 5 [a0, a1, a2, a3, a4] st (hs E ah a e) Q) := wp_putf i1_2
theorem i1_5 : insAt 1 5 = some (.aload 0, 6) := by decide +kernel
theorem r1_5 {E : aEnv} {c : Nat} {ah : aHp} {st : List Value} {Q : Option Value → aHp → Prop} {a1 a2 a3 a4 : Option Value} {x : Nat} : WP E c 1 5 [some (.ref x), a1, a2, a3, a4] (st) ah Q = WP E c 1 6 [some (.ref x), a1, a2, a3, a4] (.ref x :: st) ah Q := wp_s i1_5 rfl rfl rfl rfl
theorem i1_6 : insAt 1 6 = some (.iload 2, 7) := by decide +kernel
theorem r1_6 {E : aEnv} {c : Nat} {ah : aHp} {st : List Value} {Q : Option Value → aHp → Prop} {a0 a1 a3 a4 : Option Value} {x : Int32} : WP E c 1 6 [a0, a1, some (.int x), a3, a4] (st) ah Q = WP E c 1 7 [a0, a1, some (.int x), a3, a4] (.int x :: st) ah Q := wp_s i1_6 rfl rfl rfl rfl
theorem i1_7 : insAt 1 7 = some (.aload 1, 8) := by decide +kernel
theorem r1_7 {E : aEnv} {c : Nat} {ah : aHp} {st : List Value} {Q : Option Value → aHp → Prop} {a0 a2 a3 a4 : Option Value} {x : Nat} : WP E c 1 7 [a0, some (.ref x), a2, a3, a4] (st) ah Q = WP E c 1 8 [a0, some (.ref x), a2, a3, a4] (.ref x :: st) ah Q := wp_s i1_7 rfl rfl rfl rfl
theorem r1_7n {E : aEnv} {c : Nat} {ah : aHp} {st : List Value} {Q : Option Value → aHp → Prop} {a0 a2 a3 a4 : Option Value} : WP E c 1 7 [a0, some .null, a2, a3, a4] (st) ah Q = WP E c 1 8 [a0, some .null, a2, a3, a4] (.null :: st) ah Q := wp_s i1_7 rfl rfl rfl rfl
theorem i1_8 : insAt 1 8 = some (.arraylength, 9) := by decide +kernel
theorem r1_8 {E : aEnv} {c : Nat} {ah : aHp} {st : List Value} {Q : Option Value → aHp → Prop} {a0 a1 a2 a3 a4 : Option Value} {a : Nat} : WP E c 1 8 [a0, a1, a2, a3, a4] (.ref a :: st) ah Q = WPo (gN E ah (.ref a :: st)) (fun s9 => WP E c 1 9 [a0, a1, a2, a3, a4] s9 ah Q) := wp_hr i1_8 rfl rfl rfl rfl rfl rfl rfl rfl
theorem i1_9 : insAt 1 9 = some (.invokestatic 294, 12) := by decide +kernel
theorem r1_9 {E : aEnv} {c : Nat} {ah ah1 : aHp} {r : Option Value} {st : List Value} {Q : Option Value → aHp → Prop} {a0 a1 a2 a3 a4 : Option Value} {p0 : Int32} {p1 : Int32} (h : EV E c 294 [.int p0, .int p1] ah r ah1) (h3 : wds st ≤ 8) : WP E (c + 1) 1 9 [a0, a1, a2, a3, a4] (.int p1 :: .int p0 :: st) ah Q = WP E (c + 1) 1 12 [a0, a1, a2, a3, a4] (r.toList ++ st) ah1 Q := wp_call (As := [.int p0, .int p1]) i1_9 (fun _ => rfl) rfl mr294.1 rfl h3 (by rw [mr294.2.1]; exact Nat.le_of_ble_eq_true rfl) h
theorem i1_12 : insAt 1 12 = some (.putfield 10, 15) := by decide +kernel
theorem r1_12 {E : aEnv} {c : Nat} {ah : aHp} {st : List Value} {Q : Option Value → aHp → Prop} {a0 a1 a2 a3 a4 : Option Value} {a : Nat} {v : Value} : WP E c 1 12 [a0, a1, a2, a3, a4] (v :: .ref a :: st) ah Q = WPo (oPF (hg E ah a) 10 v) (fun e => WP E c 1 15 [a0, a1, a2, a3, a4] st (hs E ah a e) Q) := wp_putf i1_12
theorem i1_15 : insAt 1 15 = some (.aload 0, 16) := by decide +kernel
theorem r1_15 {E : aEnv} {c : Nat} {ah : aHp} {st : List Value} {Q : Option Value → aHp → Prop} {a1 a2 a3 a4 : Option Value} {x : Nat} : WP E c 1 15 [some (.ref x), a1, a2, a3, a4] (st) ah Q = WP E c 1 16 [some (.ref x), a1, a2, a3, a4] (.ref x :: st) ah Q := wp_s i1_15 rfl rfl rfl rfl
theorem i1_16 : insAt 1 16 = some (.iconst 0, 17) := by decide +kernel
theorem r1_16 {E : aEnv} {c : Nat} {ah : aHp} {st : List Value} {Q : Option Value → aHp → Prop} {a0 a1 a2 a3 a4 : Option Value} : WP E c 1 16 [a0, a1, a2, a3, a4] (st) ah Q = WP E c 1 17 [a0, a1, a2, a3, a4] (.int (0) :: st) ah Q := wp_s i1_16 rfl rfl rfl rfl
theorem i1_17 : insAt 1 17 = some (.putfield 20, 20) := by decide +kernel
theorem r1_17 {E : aEnv} {c : Nat} {ah : aHp} {st : List Value} {Q : Option Value → aHp → Prop} {a0 a1 a2 a3 a4 : Option Value} {a : Nat} {v : Value} : WP E c 1 17 [a0, a1, a2, a3, a4] (v :: .ref a :: st) ah Q = WPo (oPF (hg E ah a) 20 v) (fun e => WP E c 1 20 [a0, a1, a2, a3, a4] st (hs E ah a e) Q) := wp_putf i1_17
theorem i1_20 : insAt 1 20 = some (.aload 0, 21) := by decide +kernel
theorem r1_20 {E : aEnv} {c : Nat} {ah : aHp} {st : List Value} {Q : Option Value → aHp → Prop} {a1 a2 a3 a4 : Option Value} {x : Nat} : WP E c 1 20 [some (.ref x), a1, a2, a3, a4] (st) ah Q = WP E c 1 21 [some (.ref x), a1, a2, a3, a4] (.ref x :: st) ah Q := wp_s i1_20 rfl rfl rfl rfl
theorem i1_21 : insAt 1 21 = some (.iconst 0, 22) := by decide +kernel
theorem r1_21 {E : aEnv} {c : Nat} {ah : aHp} {st : List Value} {Q : Option Value → aHp → Prop} {a0 a1 a2 a3 a4 : Option Value} : WP E c 1 21 [a0, a1, a2, a3, a4] (st) ah Q = WP E c 1 22 [a0, a1, a2, a3, a4] (.int (0) :: st) ah Q := wp_s i1_21 rfl rfl rfl rfl
theorem i1_22 : insAt 1 22 = some (.putfield 60, 25) := by decide +kernel
theorem r1_22 {E : aEnv} {c : Nat} {ah : aHp} {st : List Value} {Q : Option Value → aHp → Prop} {a0 a1 a2 a3 a4 : Option Value} {a : Nat} {v : Value} : WP E c 1 22 [a0, a1, a2, a3, a4] (v :: .ref a :: st) ah Q = WPo (oPF (hg E ah a) 60 v) (fun e => WP E c 1 25 [a0, a1, a2, a3, a4] st (hs E ah a e) Q) := wp_putf i1_22
theorem i1_25 : insAt 1 25 = some (.aload 0, 26) := by decide +kernel
theorem r1_25 {E : aEnv} {c : Nat} {ah : aHp} {st : List Value} {Q : Option Value → aHp → Prop} {a1 a2 a3 a4 : Option Value} {x : Nat} : WP E c 1 25 [some (.ref x), a1, a2, a3, a4] (st) ah Q = WP E c 1 26 [some (.ref x), a1, a2, a3, a4] (.ref x :: st) ah Q := wp_s i1_25 rfl rfl rfl rfl
theorem i1_26 : insAt 1 26 = some (.iconst (-1), 27) := by decide +kernel
theorem r1_26 {E : aEnv} {c : Nat} {ah : aHp} {st : List Value} {Q : Option Value → aHp → Prop} {a0 a1 a2 a3 a4 : Option Value} : WP E c 1 26 [a0, a1, a2, a3, a4] (st) ah Q = WP E c 1 27 [a0, a1, a2, a3, a4] (.int ((-1)) :: st) ah Q := wp_s i1_26 rfl rfl rfl rfl
theorem i1_27 : insAt 1 27 = some (.putfield 70, 30) := by decide +kernel
theorem r1_27 {E : aEnv} {c : Nat} {ah : aHp} {st : List Value} {Q : Option Value → aHp → Prop} {a0 a1 a2 a3 a4 : Option Value} {a : Nat} {v : Value} : WP E c 1 27 [a0, a1, a2, a3, a4] (v :: .ref a :: st) ah Q = WPo (oPF (hg E ah a) 70 v) (fun e => WP E c 1 30 [a0, a1, a2, a3, a4] st (hs E ah a e) Q) := wp_putf i1_27
theorem i1_30 : insAt 1 30 = some (.aload 3, 31) := by decide +kernel
theorem r1_30 {E : aEnv} {c : Nat} {ah : aHp} {st : List Value} {Q : Option Value → aHp → Prop} {a0 a1 a2 a4 : Option Value} {x : Nat} : WP E c 1 30 [a0, a1, a2, some (.ref x), a4] (st) ah Q = WP E c 1 31 [a0, a1, a2, some (.ref x), a4] (.ref x :: st) ah Q := wp_s i1_30 rfl rfl rfl rfl
theorem r1_30n {E : aEnv} {c : Nat} {ah : aHp} {st : List Value} {Q : Option Value → aHp → Prop} {a0 a1 a2 a4 : Option Value} : WP E c 1 30 [a0, a1, a2, some .null, a4] (st) ah Q = WP E c 1 31 [a0, a1, a2, some .null, a4] (.null :: st) ah Q := wp_s i1_30 rfl rfl rfl rfl
theorem i1_31 : insAt 1 31 = some (.iconst 0, 32) := by decide +kernel
theorem r1_31 {E : aEnv} {c : Nat} {ah : aHp} {st : List Value} {Q : Option Value → aHp → Prop} {a0 a1 a2 a3 a4 : Option Value} : WP E c 1 31 [a0, a1, a2, a3, a4] (st) ah Q = WP E c 1 32 [a0, a1, a2, a3, a4] (.int (0) :: st) ah Q := wp_s i1_31 rfl rfl rfl rfl
theorem i1_32 : insAt 1 32 = some (.putfield 1050, 35) := by decide +kernel
theorem r1_32 {E : aEnv} {c : Nat} {ah : aHp} {st : List Value} {Q : Option Value → aHp → Prop} {a0 a1 a2 a3 a4 : Option Value} {a : Nat} {v : Value} : WP E c 1 32 [a0, a1, a2, a3, a4] (v :: .ref a :: st) ah Q = WPo (oPF (hg E ah a) 1050 v) (fun e => WP E c 1 35 [a0, a1, a2, a3, a4] st (hs E ah a e) Q) := wp_putf i1_32
theorem i1_35 : insAt 1 35 = some (.aload 0, 36) := by decide +kernel
theorem r1_35 {E : aEnv} {c : Nat} {ah : aHp} {st : List Value} {Q : Option Value → aHp → Prop} {a1 a2 a3 a4 : Option Value} {x : Nat} : WP E c 1 35 [some (.ref x), a1, a2, a3, a4] (st) ah Q = WP E c 1 36 [some (.ref x), a1, a2, a3, a4] (.ref x :: st) ah Q := wp_s i1_35 rfl rfl rfl rfl
theorem i1_36 : insAt 1 36 = some (.invokevirtual 12, 39) := by decide +kernel
theorem r1_36 {E : aEnv} {c : Nat} {ah ah1 : aHp} {r : Option Value} {st : List Value} {Q : Option Value → aHp → Prop} {a0 a1 a2 a3 a4 : Option Value} {p0 : Nat} (h : EV E c 12 [.ref p0] ah r ah1) (h2 : oCI (hg E ah p0) = 0) (h3 : wds st ≤ 8) : WP E (c + 1) 1 36 [a0, a1, a2, a3, a4] (.ref p0 :: st) ah Q = WP E (c + 1) 1 39 [a0, a1, a2, a3, a4] (r.toList ++ st) ah1 Q := wp_call (As := [.ref p0]) i1_36 (fun _ => rfl) rfl mr12.1 (rcv_1 h2 mr12.2.2 (by decide)) h3 (by rw [mr12.2.1]; exact Nat.le_of_ble_eq_true rfl) h
theorem i1_39 : insAt 1 39 = some (.iconst 0, 40) := by decide +kernel
theorem r1_39 {E : aEnv} {c : Nat} {ah : aHp} {st : List Value} {Q : Option Value → aHp → Prop} {a0 a1 a2 a3 a4 : Option Value} : WP E c 1 39 [a0, a1, a2, a3, a4] (st) ah Q = WP E c 1 40 [a0, a1, a2, a3, a4] (.int (0) :: st) ah Q := wp_s i1_39 rfl rfl rfl rfl
theorem i1_40 : insAt 1 40 = some (.istore 4, 42) := by decide +kernel
theorem r1_40 {E : aEnv} {c : Nat} {ah : aHp} {st : List Value} {Q : Option Value → aHp → Prop} {a0 a1 a2 a3 a4 : Option Value} {x : Int32} : WP E c 1 40 [a0, a1, a2, a3, a4] (.int x :: st) ah Q = WP E c 1 42 [a0, a1, a2, kil a3, some (.int x)] (st) ah Q := wp_s i1_40 rfl rfl rfl rfl
theorem i1_42 : insAt 1 42 = some (.iload 4, 44) := by decide +kernel
theorem r1_42 {E : aEnv} {c : Nat} {ah : aHp} {st : List Value} {Q : Option Value → aHp → Prop} {a0 a1 a2 a3 : Option Value} {x : Int32} : WP E c 1 42 [a0, a1, a2, a3, some (.int x)] (st) ah Q = WP E c 1 44 [a0, a1, a2, a3, some (.int x)] (.int x :: st) ah Q := wp_s i1_42 rfl rfl rfl rfl
theorem i1_44 : insAt 1 44 = some (.iconst 40, 46) := by decide +kernel
theorem r1_44 {E : aEnv} {c : Nat} {ah : aHp} {st : List Value} {Q : Option Value → aHp → Prop} {a0 a1 a2 a3 a4 : Option Value} : WP E c 1 44 [a0, a1, a2, a3, a4] (st) ah Q = WP E c 1 46 [a0, a1, a2, a3, a4] (.int (40) :: st) ah Q := wp_s i1_44 rfl rfl rfl rfl
theorem i1_46 : insAt 1 46 = some (.if_icmp .gt 74, 49) := by decide +kernel
theorem r1_46 {E : aEnv} {c : Nat} {ah : aHp} {st : List Value} {Q : Option Value → aHp → Prop} {a0 a1 a2 a3 a4 : Option Value} {x y : Int32} : WP E c 1 46 [a0, a1, a2, a3, a4] (.int y :: .int x :: st) ah Q = if y < x then WP E c 1 74 [a0, a1, a2, a3, a4] st ah Q else WP E c 1 49 [a0, a1, a2, a3, a4] st ah Q := wp_j i1_46 rfl rfl rfl rfl
theorem i1_49 : insAt 1 49 = some (.aload 0, 50) := by decide +kernel
theorem r1_49 {E : aEnv} {c : Nat} {ah : aHp} {st : List Value} {Q : Option Value → aHp → Prop} {a1 a2 a3 a4 : Option Value} {x : Nat} : WP E c 1 49 [some (.ref x), a1, a2, a3, a4] (st) ah Q = WP E c 1 50 [some (.ref x), a1, a2, a3, a4] (.ref x :: st) ah Q := wp_s i1_49 rfl rfl rfl rfl
theorem i1_50 : insAt 1 50 = some (.getfield 60, 53) := by decide +kernel
theorem r1_50 {E : aEnv} {c : Nat} {ah : aHp} {st : List Value} {Q : Option Value → aHp → Prop} {a0 a1 a2 a3 a4 : Option Value} {a : Nat} : WP E c 1 50 [a0, a1, a2, a3, a4] (.ref a :: st) ah Q = WPo (oGF (hg E ah a) 0 6) (fun v => WP E c 1 53 [a0, a1, a2, a3, a4] (v :: st) ah Q) := wp_getf i1_50
theorem i1_53 : insAt 1 53 = some (.ifCond .ne 74, 56) := by decide +kernel
theorem r1_53 {E : aEnv} {c : Nat} {ah : aHp} {st : List Value} {Q : Option Value → aHp → Prop} {a0 a1 a2 a3 a4 : Option Value} {x : Int32} : WP E c 1 53 [a0, a1, a2, a3, a4] (.int x :: st) ah Q = if ¬ x = 0 then WP E c 1 74 [a0, a1, a2, a3, a4] st ah Q else WP E c 1 56 [a0, a1, a2, a3, a4] st ah Q := wp_j i1_53 rfl rfl rfl rfl
theorem i1_56 : insAt 1 56 = some (.aload 0, 57) := by decide +kernel
theorem r1_56 {E : aEnv} {c : Nat} {ah : aHp} {st : List Value} {Q : Option Value → aHp → Prop} {a1 a2 a3 a4 : Option Value} {x : Nat} : WP E c 1 56 [some (.ref x), a1, a2, a3, a4] (st) ah Q = WP E c 1 57 [some (.ref x), a1, a2, a3, a4] (.ref x :: st) ah Q := wp_s i1_56 rfl rfl rfl rfl
theorem i1_57 : insAt 1 57 = some (.getfield 30, 60) := by decide +kernel
theorem r1_57 {E : aEnv} {c : Nat} {ah : aHp} {st : List Value} {Q : Option Value → aHp → Prop} {a0 a1 a2 a3 a4 : Option Value} {a : Nat} : WP E c 1 57 [a0, a1, a2, a3, a4] (.ref a :: st) ah Q = WPo (oGF (hg E ah a) 0 3) (fun v => WP E c 1 60 [a0, a1, a2, a3, a4] (v :: st) ah Q) := wp_getf i1_57
theorem i1_60 : insAt 1 60 = some (.ifCond .eq 74, 63) := by decide +kernel
theorem r1_60 {E : aEnv} {c : Nat} {ah : aHp} {st : List Value} {Q : Option Value → aHp → Prop} {a0 a1 a2 a3 a4 : Option Value} {x : Int32} : WP E c 1 60 [a0, a1, a2, a3, a4] (.int x :: st) ah Q = if x = 0 then WP E c 1 74 [a0, a1, a2, a3, a4] st ah Q else WP E c 1 63 [a0, a1, a2, a3, a4] st ah Q := wp_j i1_60 rfl rfl rfl rfl
theorem i1_63 : insAt 1 63 = some (.aload 0, 64) := by decide +kernel
theorem r1_63 {E : aEnv} {c : Nat} {ah : aHp} {st : List Value} {Q : Option Value → aHp → Prop} {a1 a2 a3 a4 : Option Value} {x : Nat} : WP E c 1 63 [some (.ref x), a1, a2, a3, a4] (st) ah Q = WP E c 1 64 [some (.ref x), a1, a2, a3, a4] (.ref x :: st) ah Q := wp_s i1_63 rfl rfl rfl rfl
theorem i1_64 : insAt 1 64 = some (.aload 3, 65) := by decide +kernel
theorem r1_64 {E : aEnv} {c : Nat} {ah : aHp} {st : List Value} {Q : Option Value → aHp → Prop} {a0 a1 a2 a4 : Option Value} {x : Nat} : WP E c 1 64 [a0, a1, a2, some (.ref x), a4] (st) ah Q = WP E c 1 65 [a0, a1, a2, some (.ref x), a4] (.ref x :: st) ah Q := wp_s i1_64 rfl rfl rfl rfl
theorem r1_64n {E : aEnv} {c : Nat} {ah : aHp} {st : List Value} {Q : Option Value → aHp → Prop} {a0 a1 a2 a4 : Option Value} : WP E c 1 64 [a0, a1, a2, some .null, a4] (st) ah Q = WP E c 1 65 [a0, a1, a2, some .null, a4] (.null :: st) ah Q := wp_s i1_64 rfl rfl rfl rfl
theorem i1_65 : insAt 1 65 = some (.invokevirtual 2, 68) := by decide +kernel
theorem r1_65 {E : aEnv} {c : Nat} {ah ah1 : aHp} {r : Option Value} {st : List Value} {Q : Option Value → aHp → Prop} {a0 a1 a2 a3 a4 : Option Value} {p0 : Nat} {p1 : Nat} (h : EV E c 2 [.ref p0, .ref p1] ah r ah1) (h2 : oCI (hg E ah p0) = 0) (h3 : wds st ≤ 8) : WP E (c + 1) 1 65 [a0, a1, a2, a3, a4] (.ref p1 :: .ref p0 :: st) ah Q = WP E (c + 1) 1 68 [a0, a1, a2, a3, a4] (r.toList ++ st) ah1 Q := wp_call (As := [.ref p0, .ref p1]) i1_65 (fun _ => rfl) rfl mr2.1 (rcv_1 h2 mr2.2.2 (by decide)) h3 (by rw [mr2.2.1]; exact Nat.le_of_ble_eq_true rfl) h
theorem i1_68 : insAt 1 68 = some (.iinc 4 1, 71) := by decide +kernel
theorem r1_68 {E : aEnv} {c : Nat} {ah : aHp} {st : List Value} {Q : Option Value → aHp → Prop} {a0 a1 a2 a3 : Option Value} {x : Int32} : WP E c 1 68 [a0, a1, a2, a3, some (.int x)] (st) ah Q = WP E c 1 71 [a0, a1, a2, kil a3, some (.int (x + 1))] (st) ah Q := wp_s i1_68 rfl rfl rfl rfl
theorem i1_71 : insAt 1 71 = some (.goto 42, 74) := by decide +kernel
theorem r1_71 {E : aEnv} {c : Nat} {ah : aHp} {st : List Value} {Q : Option Value → aHp → Prop} {a0 a1 a2 a3 a4 : Option Value} : WP E c 1 71 [a0, a1, a2, a3, a4] (st) ah Q = WP E c 1 42 [a0, a1, a2, a3, a4] st ah Q := wp_s i1_71 rfl rfl rfl rfl
theorem i1_74 : insAt 1 74 = some (.aload 0, 75) := by decide +kernel
theorem r1_74 {E : aEnv} {c : Nat} {ah : aHp} {st : List Value} {Q : Option Value → aHp → Prop} {a1 a2 a3 a4 : Option Value} {x : Nat} : WP E c 1 74 [some (.ref x), a1, a2, a3, a4] (st) ah Q = WP E c 1 75 [some (.ref x), a1, a2, a3, a4] (.ref x :: st) ah Q := wp_s i1_74 rfl rfl rfl rfl
theorem i1_75 : insAt 1 75 = some (.getfield 60, 78) := by decide +kernel
theorem r1_75 {E : aEnv} {c : Nat} {ah : aHp} {st : List Value} {Q : Option Value → aHp → Prop} {a0 a1 a2 a3 a4 : Option Value} {a : Nat} : WP E c 1 75 [a0, a1, a2, a3, a4] (.ref a :: st) ah Q = WPo (oGF (hg E ah a) 0 6) (fun v => WP E c 1 78 [a0, a1, a2, a3, a4] (v :: st) ah Q) := wp_getf i1_75
theorem i1_78 : insAt 1 78 = some (.ifCond .ne 86, 81) := by decide +kernel
theorem r1_78 {E : aEnv} {c : Nat} {ah : aHp} {st : List Value} {Q : Option Value → aHp → Prop} {a0 a1 a2 a3 a4 : Option Value} {x : Int32} : WP E c 1 78 [a0, a1, a2, a3, a4] (.int x :: st) ah Q = if ¬ x = 0 then WP E c 1 86 [a0, a1, a2, a3, a4] st ah Q else WP E c 1 81 [a0, a1, a2, a3, a4] st ah Q := wp_j i1_78 rfl rfl rfl rfl
theorem i1_81 : insAt 1 81 = some (.aload 0, 82) := by decide +kernel
theorem r1_81 {E : aEnv} {c : Nat} {ah : aHp} {st : List Value} {Q : Option Value → aHp → Prop} {a1 a2 a3 a4 : Option Value} {x : Nat} : WP E c 1 81 [some (.ref x), a1, a2, a3, a4] (st) ah Q = WP E c 1 82 [some (.ref x), a1, a2, a3, a4] (.ref x :: st) ah Q := wp_s i1_81 rfl rfl rfl rfl
theorem i1_82 : insAt 1 82 = some (.aload 3, 83) := by decide +kernel
theorem r1_82 {E : aEnv} {c : Nat} {ah : aHp} {st : List Value} {Q : Option Value → aHp → Prop} {a0 a1 a2 a4 : Option Value} {x : Nat} : WP E c 1 82 [a0, a1, a2, some (.ref x), a4] (st) ah Q = WP E c 1 83 [a0, a1, a2, some (.ref x), a4] (.ref x :: st) ah Q := wp_s i1_82 rfl rfl rfl rfl
theorem r1_82n {E : aEnv} {c : Nat} {ah : aHp} {st : List Value} {Q : Option Value → aHp → Prop} {a0 a1 a2 a4 : Option Value} : WP E c 1 82 [a0, a1, a2, some .null, a4] (st) ah Q = WP E c 1 83 [a0, a1, a2, some .null, a4] (.null :: st) ah Q := wp_s i1_82 rfl rfl rfl rfl
theorem i1_83 : insAt 1 83 = some (.invokevirtual 9, 86) := by decide +kernel
theorem r1_83 {E : aEnv} {c : Nat} {ah ah1 : aHp} {r : Option Value} {st : List Value} {Q : Option Value → aHp → Prop} {a0 a1 a2 a3 a4 : Option Value} {p0 : Nat} {p1 : Nat} (h : EV E c 9 [.ref p0, .ref p1] ah r ah1) (h2 : oCI (hg E ah p0) = 0) (h3 : wds st ≤ 8) : WP E (c + 1) 1 83 [a0, a1, a2, a3, a4] (.ref p1 :: .ref p0 :: st) ah Q = WP E (c + 1) 1 86 [a0, a1, a2, a3, a4] (r.toList ++ st) ah1 Q := wp_call (As := [.ref p0, .ref p1]) i1_83 (fun _ => rfl) rfl mr9.1 (rcv_1 h2 mr9.2.2 (by decide)) h3 (by rw [mr9.2.1]; exact Nat.le_of_ble_eq_true rfl) h
theorem i1_86 : insAt 1 86 = some (.aload 0, 87) := by decide +kernel
theorem r1_86 {E : aEnv} {c : Nat} {ah : aHp} {st : List Value} {Q : Option Value → aHp → Prop} {a1 a2 a3 a4 : Option Value} {x : Nat} : WP E c 1 86 [some (.ref x), a1, a2, a3, a4] (st) ah Q = WP E c 1 87 [some (.ref x), a1, a2, a3, a4] (.ref x :: st) ah Q := wp_s i1_86 rfl rfl rfl rfl
theorem i1_87 : insAt 1 87 = some (.getfield 60, 90) := by decide +kernel
theorem r1_87 {E : aEnv} {c : Nat} {ah : aHp} {st : List Value} {Q : Option Value → aHp → Prop} {a0 a1 a2 a3 a4 : Option Value} {a : Nat} : WP E c 1 87 [a0, a1, a2, a3, a4] (.ref a :: st) ah Q = WPo (oGF (hg E ah a) 0 6) (fun v => WP E c 1 90 [a0, a1, a2, a3, a4] (v :: st) ah Q) := wp_getf i1_87
theorem i1_90 : insAt 1 90 = some (.ifCond .ne 97, 93) := by decide +kernel
theorem r1_90 {E : aEnv} {c : Nat} {ah : aHp} {st : List Value} {Q : Option Value → aHp → Prop} {a0 a1 a2 a3 a4 : Option Value} {x : Int32} : WP E c 1 90 [a0, a1, a2, a3, a4] (.int x :: st) ah Q = if ¬ x = 0 then WP E c 1 97 [a0, a1, a2, a3, a4] st ah Q else WP E c 1 93 [a0, a1, a2, a3, a4] st ah Q := wp_j i1_90 rfl rfl rfl rfl
theorem i1_93 : insAt 1 93 = some (.iconst 1, 94) := by decide +kernel
theorem r1_93 {E : aEnv} {c : Nat} {ah : aHp} {st : List Value} {Q : Option Value → aHp → Prop} {a0 a1 a2 a3 a4 : Option Value} : WP E c 1 93 [a0, a1, a2, a3, a4] (st) ah Q = WP E c 1 94 [a0, a1, a2, a3, a4] (.int (1) :: st) ah Q := wp_s i1_93 rfl rfl rfl rfl
theorem i1_94 : insAt 1 94 = some (.goto 98, 97) := by decide +kernel
theorem r1_94 {E : aEnv} {c : Nat} {ah : aHp} {st : List Value} {Q : Option Value → aHp → Prop} {a0 a1 a2 a3 a4 : Option Value} : WP E c 1 94 [a0, a1, a2, a3, a4] (st) ah Q = WP E c 1 98 [a0, a1, a2, a3, a4] st ah Q := wp_s i1_94 rfl rfl rfl rfl
theorem i1_97 : insAt 1 97 = some (.iconst 0, 98) := by decide +kernel
theorem r1_97 {E : aEnv} {c : Nat} {ah : aHp} {st : List Value} {Q : Option Value → aHp → Prop} {a0 a1 a2 a3 a4 : Option Value} : WP E c 1 97 [a0, a1, a2, a3, a4] (st) ah Q = WP E c 1 98 [a0, a1, a2, a3, a4] (.int (0) :: st) ah Q := wp_s i1_97 rfl rfl rfl rfl
theorem i1_98 : insAt 1 98 = some (.freturn, 99) := by decide +kernel
theorem r1_98 {E : aEnv} {c : Nat} {ah : aHp} {Q : Option Value → aHp → Prop} {a0 a1 a2 a3 a4 : Option Value} {x : Int32} (hx : x = 0 ∨ x = 1) : WP E c 1 98 [a0, a1, a2, a3, a4] ([.int x]) ah Q = Q (some (.int x)) ah := wp_rt i1_98 (by simp only [rtA, if_pos hx])
theorem e2 {E : aEnv} {c : Nat} {ah ahF : aHp} {r : Option Value} {p0 : Nat} {p1 : Nat} (h : WP E c 2 0 [some (.ref p0), some (.ref p1), none, none, none] [] ah (fun r1 x1 => r1 = r ∧ x1 = ahF)) : EV E c 2 [.ref p0, .ref p1] ah r ahF := EV.of (by rw [mr2.2.1]; exact h)
theorem i2_0 : insAt 2 0 = some (.aload 0, 1) := by decide +kernel
theorem r2_0 {E : aEnv} {c : Nat} {ah : aHp} {st : List Value} {Q : Option Value → aHp → Prop} {a1 a2 a3 a4 : Option Value} {x : Nat} : WP E c 2 0 [some (.ref x), a1, a2, a3, a4] (st) ah Q = WP E c 2 1 [some (.ref x), a1, a2, a3, a4] (.ref x :: st) ah Q := wp_s i2_0 rfl rfl rfl rfl
theorem i2_1 : insAt 2 1 = some (.invokevirtual 10, 4) := by decide +kernel
theorem r2_1 {E : aEnv} {c : Nat} {ah ah1 : aHp} {r : Option Value} {st : List Value} {Q : Option Value → aHp → Prop} {a0 a1 a2 a3 a4 : Option Value} {p0 : Nat} (h : EV E c 10 [.ref p0] ah r ah1) (h2 : oCI (hg E ah p0) = 0) (h3 : wds st ≤ 8) : WP E (c + 1) 2 1 [a0, a1, a2, a3, a4] (.ref p0 :: st) ah Q = WP E (c + 1) 2 4 [a0, a1, a2, a3, a4] (r.toList ++ st) ah1 Q := wp_call (As := [.ref p0]) i2_1 (fun _ => rfl) rfl mr10.1 (rcv_1 h2 mr10.2.2 (by decide)) h3 (by rw [mr10.2.1]; exact Nat.le_of_ble_eq_true rfl) h
theorem i2_4 : insAt 2 4 = some (.istore 2, 5) := by decide +kernel
theorem r2_4 {E : aEnv} {c : Nat} {ah : aHp} {st : List Value} {Q : Option Value → aHp → Prop} {a0 a1 a2 a3 a4 : Option Value} {x : Int32} : WP E c 2 4 [a0, a1, a2, a3, a4] (.int x :: st) ah Q = WP E c 2 5 [a0, kil a1, some (.int x), a3, a4] (st) ah Q := wp_s i2_4 rfl rfl rfl rfl
theorem i2_5 : insAt 2 5 = some (.iload 2, 6) := by decide +kernel
theorem r2_5 {E : aEnv} {c : Nat} {ah : aHp} {st : List Value} {Q : Option Value → aHp → Prop} {a0 a1 a3 a4 : Option Value} {x : Int32} : WP E c 2 5 [a0, a1, some (.int x), a3, a4] (st) ah Q = WP E c 2 6 [a0, a1, some (.int x), a3, a4] (.int x :: st) ah Q := wp_s i2_5 rfl rfl rfl rfl
theorem i2_6 : insAt 2 6 = some (.iconst (-1), 7) := by decide +kernel
theorem r2_6 {E : aEnv} {c : Nat} {ah : aHp} {st : List Value} {Q : Option Value → aHp → Prop} {a0 a1 a2 a3 a4 : Option Value} : WP E c 2 6 [a0, a1, a2, a3, a4] (st) ah Q = WP E c 2 7 [a0, a1, a2, a3, a4] (.int ((-1)) :: st) ah Q := wp_s i2_6 rfl rfl rfl rfl
theorem i2_7 : insAt 2 7 = some (.if_icmp .ne 16, 10) := by decide +kernel
theorem r2_7 {E : aEnv} {c : Nat} {ah : aHp} {st : List Value} {Q : Option Value → aHp → Prop} {a0 a1 a2 a3 a4 : Option Value} {x y : Int32} : WP E c 2 7 [a0, a1, a2, a3, a4] (.int y :: .int x :: st) ah Q = if ¬ x = y then WP E c 2 16 [a0, a1, a2, a3, a4] st ah Q else WP E c 2 10 [a0, a1, a2, a3, a4] st ah Q := wp_j i2_7 rfl rfl rfl rfl
theorem i2_10 : insAt 2 10 = some (.aload 0, 11) := by decide +kernel
theorem r2_10 {E : aEnv} {c : Nat} {ah : aHp} {st : List Value} {Q : Option Value → aHp → Prop} {a1 a2 a3 a4 : Option Value} {x : Nat} : WP E c 2 10 [some (.ref x), a1, a2, a3, a4] (st) ah Q = WP E c 2 11 [some (.ref x), a1, a2, a3, a4] (.ref x :: st) ah Q := wp_s i2_10 rfl rfl rfl rfl
theorem i2_11 : insAt 2 11 = some (.iconst 2, 12) := by decide +kernel
theorem r2_11 {E : aEnv} {c : Nat} {ah : aHp} {st : List Value} {Q : Option Value → aHp → Prop} {a0 a1 a2 a3 a4 : Option Value} : WP E c 2 11 [a0, a1, a2, a3, a4] (st) ah Q = WP E c 2 12 [a0, a1, a2, a3, a4] (.int (2) :: st) ah Q := wp_s i2_11 rfl rfl rfl rfl
theorem i2_12 : insAt 2 12 = some (.invokevirtual 8, 15) := by decide +kernel
theorem r2_12 {E : aEnv} {c : Nat} {ah ah1 : aHp} {r : Option Value} {st : List Value} {Q : Option Value → aHp → Prop} {a0 a1 a2 a3 a4 : Option Value} {p0 : Nat} {p1 : Int32} (h : EV E c 8 [.ref p0, .int p1] ah r ah1) (h2 : oCI (hg E ah p0) = 0) (h3 : wds st ≤ 8) : WP E (c + 1) 2 12 [a0, a1, a2, a3, a4] (.int p1 :: .ref p0 :: st) ah Q = WP E (c + 1) 2 15 [a0, a1, a2, a3, a4] (r.toList ++ st) ah1 Q := wp_call (As := [.ref p0, .int p1]) i2_12 (fun _ => rfl) rfl mr8.1 (rcv_1 h2 mr8.2.2 (by decide)) h3 (by rw [mr8.2.1]; exact Nat.le_of_ble_eq_true rfl) h
theorem i2_15 : insAt 2 15 = some (.return_, 16) := by decide +kernel
theorem r2_15 {E : aEnv} {c : Nat} {ah : aHp} {Q : Option Value → aHp → Prop} {a0 a1 a2 a3 a4 : Option Value} : WP E c 2 15 [a0, a1, a2, a3, a4] ([]) ah Q = Q none ah := wp_rt i2_15 rfl
theorem i2_16 : insAt 2 16 = some (.aload 1, 17) := by decide +kernel
theorem r2_16 {E : aEnv} {c : Nat} {ah : aHp} {st : List Value} {Q : Option Value → aHp → Prop} {a0 a2 a3 a4 : Option Value} {x : Nat} : WP E c 2 16 [a0, some (.ref x), a2, a3, a4] (st) ah Q = WP E c 2 17 [a0, some (.ref x), a2, a3, a4] (.ref x :: st) ah Q := wp_s i2_16 rfl rfl rfl rfl
theorem r2_16n {E : aEnv} {c : Nat} {ah : aHp} {st : List Value} {Q : Option Value → aHp → Prop} {a0 a2 a3 a4 : Option Value} : WP E c 2 16 [a0, some .null, a2, a3, a4] (st) ah Q = WP E c 2 17 [a0, some .null, a2, a3, a4] (.null :: st) ah Q := wp_s i2_16 rfl rfl rfl rfl
theorem i2_17 : insAt 2 17 = some (.invokevirtual 17, 20) := by decide +kernel
theorem r2_17 {E : aEnv} {c : Nat} {ah ah1 : aHp} {r : Option Value} {st : List Value} {Q : Option Value → aHp → Prop} {a0 a1 a2 a3 a4 : Option Value} {p0 : Nat} (h : EV E c 17 [.ref p0] ah r ah1) (h2 : oCI (hg E ah p0) = 1) (h3 : wds st ≤ 8) : WP E (c + 1) 2 17 [a0, a1, a2, a3, a4] (.ref p0 :: st) ah Q = WP E (c + 1) 2 20 [a0, a1, a2, a3, a4] (r.toList ++ st) ah1 Q := wp_call (As := [.ref p0]) i2_17 (fun _ => rfl) rfl mr17.1 (rcv_1 h2 mr17.2.2 (by decide)) h3 (by rw [mr17.2.1]; exact Nat.le_of_ble_eq_true rfl) h
theorem i2_20 : insAt 2 20 = some (.ifCond .eq 29, 23) := by decide +kernel
theorem r2_20 {E : aEnv} {c : Nat} {ah : aHp} {st : List Value} {Q : Option Value → aHp → Prop} {a0 a1 a2 a3 a4 : Option Value} {x : Int32} : WP E c 2 20 [a0, a1, a2, a3, a4] (.int x :: st) ah Q = if x = 0 then WP E c 2 29 [a0, a1, a2, a3, a4] st ah Q else WP E c 2 23 [a0, a1, a2, a3, a4] st ah Q := wp_j i2_20 rfl rfl rfl rfl
theorem i2_23 : insAt 2 23 = some (.aload 0, 24) := by decide +kernel
theorem r2_23 {E : aEnv} {c : Nat} {ah : aHp} {st : List Value} {Q : Option Value → aHp → Prop} {a1 a2 a3 a4 : Option Value} {x : Nat} : WP E c 2 23 [some (.ref x), a1, a2, a3, a4] (st) ah Q = WP E c 2 24 [some (.ref x), a1, a2, a3, a4] (.ref x :: st) ah Q := wp_s i2_23 rfl rfl rfl rfl
theorem i2_24 : insAt 2 24 = some (.iconst 3, 25) := by decide +kernel
theorem r2_24 {E : aEnv} {c : Nat} {ah : aHp} {st : List Value} {Q : Option Value → aHp → Prop} {a0 a1 a2 a3 a4 : Option Value} : WP E c 2 24 [a0, a1, a2, a3, a4] (st) ah Q = WP E c 2 25 [a0, a1, a2, a3, a4] (.int (3) :: st) ah Q := wp_s i2_24 rfl rfl rfl rfl
theorem i2_25 : insAt 2 25 = some (.invokevirtual 8, 28) := by decide +kernel
theorem r2_25 {E : aEnv} {c : Nat} {ah ah1 : aHp} {r : Option Value} {st : List Value} {Q : Option Value → aHp → Prop} {a0 a1 a2 a3 a4 : Option Value} {p0 : Nat} {p1 : Int32} (h : EV E c 8 [.ref p0, .int p1] ah r ah1) (h2 : oCI (hg E ah p0) = 0) (h3 : wds st ≤ 8) : WP E (c + 1) 2 25 [a0, a1, a2, a3, a4] (.int p1 :: .ref p0 :: st) ah Q = WP E (c + 1) 2 28 [a0, a1, a2, a3, a4] (r.toList ++ st) ah1 Q := wp_call (As := [.ref p0, .int p1]) i2_25 (fun _ => rfl) rfl mr8.1 (rcv_1 h2 mr8.2.2 (by decide)) h3 (by rw [mr8.2.1]; exact Nat.le_of_ble_eq_true rfl) h
theorem i2_28 : insAt 2 28 = some (.return_, 29) := by decide +kernel
theorem r2_28 {E : aEnv} {c : Nat} {ah : aHp} {Q : Option Value → aHp → Prop} {a0 a1 a2 a3 a4 : Option Value} : WP E c 2 28 [a0, a1, a2, a3, a4] ([]) ah Q = Q none ah := wp_rt i2_28 rfl
theorem i2_29 : insAt 2 29 = some (.aload 0, 30) := by decide +kernel
theorem r2_29 {E : aEnv} {c : Nat} {ah : aHp} {st : List Value} {Q : Option Value → aHp → Prop} {a1 a2 a3 a4 : Option Value} {x : Nat} : WP E c 2 29 [some (.ref x), a1, a2, a3, a4] (st) ah Q = WP E c 2 30 [some (.ref x), a1, a2, a3, a4] (.ref x :: st) ah Q := wp_s i2_29 rfl rfl rfl rfl
theorem i2_30 : insAt 2 30 = some (.invokevirtual 12, 33) := by decide +kernel
theorem r2_30 {E : aEnv} {c : Nat} {ah ah1 : aHp} {r : Option Value} {st : List Value} {Q : Option Value → aHp → Prop} {a0 a1 a2 a3 a4 : Option Value} {p0 : Nat} (h : EV E c 12 [.ref p0] ah r ah1) (h2 : oCI (hg E ah p0) = 0) (h3 : wds st ≤ 8) : WP E (c + 1) 2 30 [a0, a1, a2, a3, a4] (.ref p0 :: st) ah Q = WP E (c + 1) 2 33 [a0, a1, a2, a3, a4] (r.toList ++ st) ah1 Q := wp_call (As := [.ref p0]) i2_30 (fun _ => rfl) rfl mr12.1 (rcv_1 h2 mr12.2.2 (by decide)) h3 (by rw [mr12.2.1]; exact Nat.le_of_ble_eq_true rfl) h
theorem i2_33 : insAt 2 33 = some (.aload 1, 34) := by decide +kernel
theorem r2_33 {E : aEnv} {c : Nat} {ah : aHp} {st : List Value} {Q : Option Value → aHp → Prop} {a0 a2 a3 a4 : Option Value} {x : Nat} : WP E c 2 33 [a0, some (.ref x), a2, a3, a4] (st) ah Q = WP E c 2 34 [a0, some (.ref x), a2, a3, a4] (.ref x :: st) ah Q := wp_s i2_33 rfl rfl rfl rfl
theorem r2_33n {E : aEnv} {c : Nat} {ah : aHp} {st : List Value} {Q : Option Value → aHp → Prop} {a0 a2 a3 a4 : Option Value} : WP E c 2 33 [a0, some .null, a2, a3, a4] (st) ah Q = WP E c 2 34 [a0, some .null, a2, a3, a4] (.null :: st) ah Q := wp_s i2_33 rfl rfl rfl rfl
theorem i2_34 : insAt 2 34 = some (.getfield 1002, 37) := by decide +kernel
theorem r2_34 {E : aEnv} {c : Nat} {ah : aHp} {st : List Value} {Q : Option Value → aHp → Prop} {a0 a1 a2 a3 a4 : Option Value} {a : Nat} : WP E c 2 34 [a0, a1, a2, a3, a4] (.ref a :: st) ah Q = WPo (oGF (hg E ah a) 1 0) (fun v => WP E c 2 37 [a0, a1, a2, a3, a4] (v :: st) ah Q) := wp_getf i2_34
theorem i2_37 : insAt 2 37 = some (.aload 1, 38) := by decide +kernel
theorem r2_37 {E : aEnv} {c : Nat} {ah : aHp} {st : List Value} {Q : Option Value → aHp → Prop} {a0 a2 a3 a4 : Option Value} {x : Nat} : WP E c 2 37 [a0, some (.ref x), a2, a3, a4] (st) ah Q = WP E c 2 38 [a0, some (.ref x), a2, a3, a4] (.ref x :: st) ah Q := wp_s i2_37 rfl rfl rfl rfl
theorem r2_37n {E : aEnv} {c : Nat} {ah : aHp} {st : List Value} {Q : Option Value → aHp → Prop} {a0 a2 a3 a4 : Option Value} : WP E c 2 37 [a0, some .null, a2, a3, a4] (st) ah Q = WP E c 2 38 [a0, some .null, a2, a3, a4] (.null :: st) ah Q := wp_s i2_37 rfl rfl rfl rfl
theorem i2_38 : insAt 2 38 = some (.getfield 1050, 41) := by decide +kernel
theorem r2_38 {E : aEnv} {c : Nat} {ah : aHp} {st : List Value} {Q : Option Value → aHp → Prop} {a0 a1 a2 a3 a4 : Option Value} {a : Nat} : WP E c 2 38 [a0, a1, a2, a3, a4] (.ref a :: st) ah Q = WPo (oGF (hg E ah a) 1 5) (fun v => WP E c 2 41 [a0, a1, a2, a3, a4] (v :: st) ah Q) := wp_getf i2_38
theorem i2_41 : insAt 2 41 = some (.iload 2, 42) := by decide +kernel
theorem r2_41 {E : aEnv} {c : Nat} {ah : aHp} {st : List Value} {Q : Option Value → aHp → Prop} {a0 a1 a3 a4 : Option Value} {x : Int32} : WP E c 2 41 [a0, a1, some (.int x), a3, a4] (st) ah Q = WP E c 2 42 [a0, a1, some (.int x), a3, a4] (.int x :: st) ah Q := wp_s i2_41 rfl rfl rfl rfl
theorem i2_42 : insAt 2 42 = some (.iastore, 43) := by decide +kernel
theorem r2_42 {E : aEnv} {c : Nat} {ah : aHp} {st : List Value} {Q : Option Value → aHp → Prop} {a0 a1 a2 a3 a4 : Option Value} {x : Int32} {i : Int32} {a : Nat} : WP E c 2 42 [a0, a1, a2, a3, a4] (.int x :: .int i :: .ref a :: st) ah Q = WPo (pI E ah (.int x :: .int i :: .ref a :: st)) (fun q9 => WP E c 2 43 [a0, a1, a2, a3, a4] q9.1 q9.2 Q) := wp_hw i2_42 rfl rfl rfl rfl rfl rfl rfl rfl
theorem i2_43 : insAt 2 43 = some (.aload 1, 44) := by decide +kernel
theorem r2_43 {E : aEnv} {c : Nat} {ah : aHp} {st : List Value} {Q : Option Value → aHp → Prop} {a0 a2 a3 a4 : Option Value} {x : Nat} : WP E c 2 43 [a0, some (.ref x), a2, a3, a4] (st) ah Q = WP E c 2 44 [a0, some (.ref x), a2, a3, a4] (.ref x :: st) ah Q := wp_s i2_43 rfl rfl rfl rfl
theorem r2_43n {E : aEnv} {c : Nat} {ah : aHp} {st : List Value} {Q : Option Value → aHp → Prop} {a0 a2 a3 a4 : Option Value} : WP E c 2 43 [a0, some .null, a2, a3, a4] (st) ah Q = WP E c 2 44 [a0, some .null, a2, a3, a4] (.null :: st) ah Q := wp_s i2_43 rfl rfl rfl rfl
theorem i2_44 : insAt 2 44 = some (.getfield 1012, 47) := by decide +kernel
theorem r2_44 {E : aEnv} {c : Nat} {ah : aHp} {st : List Value} {Q : Option Value → aHp → Prop} {a0 a1 a2 a3 a4 : Option Value} {a : Nat} : WP E c 2 44 [a0, a1, a2, a3, a4] (.ref a :: st) ah Q = WPo (oGF (hg E ah a) 1 1) (fun v => WP E c 2 47 [a0, a1, a2, a3, a4] (v :: st) ah Q) := wp_getf i2_44
theorem i2_47 : insAt 2 47 = some (.aload 1, 48) := by decide +kernel
theorem r2_47 {E : aEnv} {c : Nat} {ah : aHp} {st : List Value} {Q : Option Value → aHp → Prop} {a0 a2 a3 a4 : Option Value} {x : Nat} : WP E c 2 47 [a0, some (.ref x), a2, a3, a4] (st) ah Q = WP E c 2 48 [a0, some (.ref x), a2, a3, a4] (.ref x :: st) ah Q := wp_s i2_47 rfl rfl rfl rfl
theorem r2_47n {E : aEnv} {c : Nat} {ah : aHp} {st : List Value} {Q : Option Value → aHp → Prop} {a0 a2 a3 a4 : Option Value} : WP E c 2 47 [a0, some .null, a2, a3, a4] (st) ah Q = WP E c 2 48 [a0, some .null, a2, a3, a4] (.null :: st) ah Q := wp_s i2_47 rfl rfl rfl rfl
theorem i2_48 : insAt 2 48 = some (.getfield 1050, 51) := by decide +kernel
theorem r2_48 {E : aEnv} {c : Nat} {ah : aHp} {st : List Value} {Q : Option Value → aHp → Prop} {a0 a1 a2 a3 a4 : Option Value} {a : Nat} : WP E c 2 48 [a0, a1, a2, a3, a4] (.ref a :: st) ah Q = WPo (oGF (hg E ah a) 1 5) (fun v => WP E c 2 51 [a0, a1, a2, a3, a4] (v :: st) ah Q) := wp_getf i2_48
theorem i2_51 : insAt 2 51 = some (.iconst 0, 52) := by decide +kernel
theorem r2_51 {E : aEnv} {c : Nat} {ah : aHp} {st : List Value} {Q : Option Value → aHp → Prop} {a0 a1 a2 a3 a4 : Option Value} : WP E c 2 51 [a0, a1, a2, a3, a4] (st) ah Q = WP E c 2 52 [a0, a1, a2, a3, a4] (.int (0) :: st) ah Q := wp_s i2_51 rfl rfl rfl rfl
theorem i2_52 : insAt 2 52 = some (.iastore, 53) := by decide +kernel
theorem r2_52 {E : aEnv} {c : Nat} {ah : aHp} {st : List Value} {Q : Option Value → aHp → Prop} {a0 a1 a2 a3 a4 : Option Value} {x : Int32} {i : Int32} {a : Nat} : WP E c 2 52 [a0, a1, a2, a3, a4] (.int x :: .int i :: .ref a :: st) ah Q = WPo (pI E ah (.int x :: .int i :: .ref a :: st)) (fun q9 => WP E c 2 53 [a0, a1, a2, a3, a4] q9.1 q9.2 Q) := wp_hw i2_52 rfl rfl rfl rfl rfl rfl rfl rfl
theorem i2_53 : insAt 2 53 = some (.iload 2, 54) := by decide +kernel
theorem r2_53 {E : aEnv} {c : Nat} {ah : aHp} {st : List Value} {Q : Option Value → aHp → Prop} {a0 a1 a3 a4 : Option Value} {x : Int32} : WP E c 2 53 [a0, a1, some (.int x), a3, a4] (st) ah Q = WP E c 2 54 [a0, a1, some (.int x), a3, a4] (.int x :: st) ah Q := wp_s i2_53 rfl rfl rfl rfl
theorem i2_54 : insAt 2 54 = some (.invokestatic 26, 57) := by decide +kernel
theorem r2_54 {E : aEnv} {c : Nat} {ah ah1 : aHp} {r : Option Value} {st : List Value} {Q : Option Value → aHp → Prop} {a0 a1 a2 a3 a4 : Option Value} {p0 : Int32} (h : EV E c 26 [.int p0] ah r ah1) (h3 : wds st ≤ 8) : WP E (c + 1) 2 54 [a0, a1, a2, a3, a4] (.int p0 :: st) ah Q = WP E (c + 1) 2 57 [a0, a1, a2, a3, a4] (r.toList ++ st) ah1 Q := wp_call (As := [.int p0]) i2_54 (fun _ => rfl) rfl mr26.1 rfl h3 (by rw [mr26.2.1]; exact Nat.le_of_ble_eq_true rfl) h
theorem i2_57 : insAt 2 57 = some (.istore 3, 58) := by decide +kernel
theorem r2_57 {E : aEnv} {c : Nat} {ah : aHp} {st : List Value} {Q : Option Value → aHp → Prop} {a0 a1 a2 a3 a4 : Option Value} {x : Int32} : WP E c 2 57 [a0, a1, a2, a3, a4] (.int x :: st) ah Q = WP E c 2 58 [a0, a1, kil a2, some (.int x), a4] (st) ah Q := wp_s i2_57 rfl rfl rfl rfl
theorem i2_58 : insAt 2 58 = some (.iconst 0, 59) := by decide +kernel
theorem r2_58 {E : aEnv} {c : Nat} {ah : aHp} {st : List Value} {Q : Option Value → aHp → Prop} {a0 a1 a2 a3 a4 : Option Value} : WP E c 2 58 [a0, a1, a2, a3, a4] (st) ah Q = WP E c 2 59 [a0, a1, a2, a3, a4] (.int (0) :: st) ah Q := wp_s i2_58 rfl rfl rfl rfl
theorem i2_59 : insAt 2 59 = some (.istore 4, 61) := by decide +kernel
theorem r2_59 {E : aEnv} {c : Nat} {ah : aHp} {st : List Value} {Q : Option Value → aHp → Prop} {a0 a1 a2 a3 a4 : Option Value} {x : Int32} : WP E c 2 59 [a0, a1, a2, a3, a4] (.int x :: st) ah Q = WP E c 2 61 [a0, a1, a2, kil a3, some (.int x)] (st) ah Q := wp_s i2_59 rfl rfl rfl rfl
theorem i2_61 : insAt 2 61 = some (.iload 4, 63) := by decide +kernel
theorem r2_61 {E : aEnv} {c : Nat} {ah : aHp} {st : List Value} {Q : Option Value → aHp → Prop} {a0 a1 a2 a3 : Option Value} {x : Int32} : WP E c 2 61 [a0, a1, a2, a3, some (.int x)] (st) ah Q = WP E c 2 63 [a0, a1, a2, a3, some (.int x)] (.int x :: st) ah Q := wp_s i2_61 rfl rfl rfl rfl
theorem i2_63 : insAt 2 63 = some (.iload 3, 64) := by decide +kernel
theorem r2_63 {E : aEnv} {c : Nat} {ah : aHp} {st : List Value} {Q : Option Value → aHp → Prop} {a0 a1 a2 a4 : Option Value} {x : Int32} : WP E c 2 63 [a0, a1, a2, some (.int x), a4] (st) ah Q = WP E c 2 64 [a0, a1, a2, some (.int x), a4] (.int x :: st) ah Q := wp_s i2_63 rfl rfl rfl rfl
theorem i2_64 : insAt 2 64 = some (.if_icmp .ge 93, 67) := by decide +kernel
theorem r2_64 {E : aEnv} {c : Nat} {ah : aHp} {st : List Value} {Q : Option Value → aHp → Prop} {a0 a1 a2 a3 a4 : Option Value} {x y : Int32} : WP E c 2 64 [a0, a1, a2, a3, a4] (.int y :: .int x :: st) ah Q = if y ≤ x then WP E c 2 93 [a0, a1, a2, a3, a4] st ah Q else WP E c 2 67 [a0, a1, a2, a3, a4] st ah Q := wp_j i2_64 rfl rfl rfl rfl
theorem i2_67 : insAt 2 67 = some (.aload 0, 68) := by decide +kernel
theorem r2_67 {E : aEnv} {c : Nat} {ah : aHp} {st : List Value} {Q : Option Value → aHp → Prop} {a1 a2 a3 a4 : Option Value} {x : Nat} : WP E c 2 67 [some (.ref x), a1, a2, a3, a4] (st) ah Q = WP E c 2 68 [some (.ref x), a1, a2, a3, a4] (.ref x :: st) ah Q := wp_s i2_67 rfl rfl rfl rfl
theorem i2_68 : insAt 2 68 = some (.getfield 60, 71) := by decide +kernel
theorem r2_68 {E : aEnv} {c : Nat} {ah : aHp} {st : List Value} {Q : Option Value → aHp → Prop} {a0 a1 a2 a3 a4 : Option Value} {a : Nat} : WP E c 2 68 [a0, a1, a2, a3, a4] (.ref a :: st) ah Q = WPo (oGF (hg E ah a) 0 6) (fun v => WP E c 2 71 [a0, a1, a2, a3, a4] (v :: st) ah Q) := wp_getf i2_68
theorem i2_71 : insAt 2 71 = some (.ifCond .ne 93, 74) := by decide +kernel
theorem r2_71 {E : aEnv} {c : Nat} {ah : aHp} {st : List Value} {Q : Option Value → aHp → Prop} {a0 a1 a2 a3 a4 : Option Value} {x : Int32} : WP E c 2 71 [a0, a1, a2, a3, a4] (.int x :: st) ah Q = if ¬ x = 0 then WP E c 2 93 [a0, a1, a2, a3, a4] st ah Q else WP E c 2 74 [a0, a1, a2, a3, a4] st ah Q := wp_j i2_71 rfl rfl rfl rfl
theorem i2_74 : insAt 2 74 = some (.aload 1, 75) := by decide +kernel
theorem r2_74 {E : aEnv} {c : Nat} {ah : aHp} {st : List Value} {Q : Option Value → aHp → Prop} {a0 a2 a3 a4 : Option Value} {x : Nat} : WP E c 2 74 [a0, some (.ref x), a2, a3, a4] (st) ah Q = WP E c 2 75 [a0, some (.ref x), a2, a3, a4] (.ref x :: st) ah Q := wp_s i2_74 rfl rfl rfl rfl
theorem r2_74n {E : aEnv} {c : Nat} {ah : aHp} {st : List Value} {Q : Option Value → aHp → Prop} {a0 a2 a3 a4 : Option Value} : WP E c 2 74 [a0, some .null, a2, a3, a4] (st) ah Q = WP E c 2 75 [a0, some .null, a2, a3, a4] (.null :: st) ah Q := wp_s i2_74 rfl rfl rfl rfl
theorem i2_75 : insAt 2 75 = some (.iload 4, 77) := by decide +kernel
theorem r2_75 {E : aEnv} {c : Nat} {ah : aHp} {st : List Value} {Q : Option Value → aHp → Prop} {a0 a1 a2 a3 : Option Value} {x : Int32} : WP E c 2 75 [a0, a1, a2, a3, some (.int x)] (st) ah Q = WP E c 2 77 [a0, a1, a2, a3, some (.int x)] (.int x :: st) ah Q := wp_s i2_75 rfl rfl rfl rfl
theorem i2_77 : insAt 2 77 = some (.aload 0, 78) := by decide +kernel
theorem r2_77 {E : aEnv} {c : Nat} {ah : aHp} {st : List Value} {Q : Option Value → aHp → Prop} {a1 a2 a3 a4 : Option Value} {x : Nat} : WP E c 2 77 [some (.ref x), a1, a2, a3, a4] (st) ah Q = WP E c 2 78 [some (.ref x), a1, a2, a3, a4] (.ref x :: st) ah Q := wp_s i2_77 rfl rfl rfl rfl
theorem i2_78 : insAt 2 78 = some (.iconst 0, 79) := by decide +kernel
theorem r2_78 {E : aEnv} {c : Nat} {ah : aHp} {st : List Value} {Q : Option Value → aHp → Prop} {a0 a1 a2 a3 a4 : Option Value} : WP E c 2 78 [a0, a1, a2, a3, a4] (st) ah Q = WP E c 2 79 [a0, a1, a2, a3, a4] (.int (0) :: st) ah Q := wp_s i2_78 rfl rfl rfl rfl
theorem i2_79 : insAt 2 79 = some (.iconst 19, 81) := by decide +kernel
theorem r2_79 {E : aEnv} {c : Nat} {ah : aHp} {st : List Value} {Q : Option Value → aHp → Prop} {a0 a1 a2 a3 a4 : Option Value} : WP E c 2 79 [a0, a1, a2, a3, a4] (st) ah Q = WP E c 2 81 [a0, a1, a2, a3, a4] (.int (19) :: st) ah Q := wp_s i2_79 rfl rfl rfl rfl
theorem i2_81 : insAt 2 81 = some (.invokevirtual 5, 84) := by decide +kernel
theorem r2_81 {E : aEnv} {c : Nat} {ah ah1 : aHp} {r : Option Value} {st : List Value} {Q : Option Value → aHp → Prop} {a0 a1 a2 a3 a4 : Option Value} {p0 : Nat} {p1 : Int32} {p2 : Int32} (h : EV E c 5 [.ref p0, .int p1, .int p2] ah r ah1) (h2 : oCI (hg E ah p0) = 0) (h3 : wds st ≤ 8) : WP E (c + 1) 2 81 [a0, a1, a2, a3, a4] (.int p2 :: .int p1 :: .ref p0 :: st) ah Q = WP E (c + 1) 2 84 [a0, a1, a2, a3, a4] (r.toList ++ st) ah1 Q := wp_call (As := [.ref p0, .int p1, .int p2]) i2_81 (fun _ => rfl) rfl mr5.1 (rcv_1 h2 mr5.2.2 (by decide)) h3 (by rw [mr5.2.1]; exact Nat.le_of_ble_eq_true rfl) h
theorem i2_84 : insAt 2 84 = some (.invokevirtual 23, 87) := by decide +kernel
theorem r2_84 {E : aEnv} {c : Nat} {ah ah1 : aHp} {r : Option Value} {st : List Value} {Q : Option Value → aHp → Prop} {a0 a1 a2 a3 a4 : Option Value} {p0 : Nat} {p1 : Int32} {p2 : Int32} (h : EV E c 23 [.ref p0, .int p1, .int p2] ah r ah1) (h2 : oCI (hg E ah p0) = 1) (h3 : wds st ≤ 8) : WP E (c + 1) 2 84 [a0, a1, a2, a3, a4] (.int p2 :: .int p1 :: .ref p0 :: st) ah Q = WP E (c + 1) 2 87 [a0, a1, a2, a3, a4] (r.toList ++ st) ah1 Q := wp_call (As := [.ref p0, .int p1, .int p2]) i2_84 (fun _ => rfl) rfl mr23.1 (rcv_1 h2 mr23.2.2 (by decide)) h3 (by rw [mr23.2.1]; exact Nat.le_of_ble_eq_true rfl) h
theorem i2_87 : insAt 2 87 = some (.iinc 4 1, 90) := by decide +kernel
theorem r2_87 {E : aEnv} {c : Nat} {ah : aHp} {st : List Value} {Q : Option Value → aHp → Prop} {a0 a1 a2 a3 : Option Value} {x : Int32} : WP E c 2 87 [a0, a1, a2, a3, some (.int x)] (st) ah Q = WP E c 2 90 [a0, a1, a2, kil a3, some (.int (x + 1))] (st) ah Q := wp_s i2_87 rfl rfl rfl rfl
theorem i2_90 : insAt 2 90 = some (.goto 61, 93) := by decide +kernel
theorem r2_90 {E : aEnv} {c : Nat} {ah : aHp} {st : List Value} {Q : Option Value → aHp → Prop} {a0 a1 a2 a3 a4 : Option Value} : WP E c 2 90 [a0, a1, a2, a3, a4] (st) ah Q = WP E c 2 61 [a0, a1, a2, a3, a4] st ah Q := wp_s i2_90 rfl rfl rfl rfl
theorem i2_93 : insAt 2 93 = some (.iload 2, 94) := by decide +kernel
theorem r2_93 {E : aEnv} {c : Nat} {ah : aHp} {st : List Value} {Q : Option Value → aHp → Prop} {a0 a1 a3 a4 : Option Value} {x : Int32} : WP E c 2 93 [a0, a1, some (.int x), a3, a4] (st) ah Q = WP E c 2 94 [a0, a1, some (.int x), a3, a4] (.int x :: st) ah Q := wp_s i2_93 rfl rfl rfl rfl
theorem i2_94 : insAt 2 94 = some (.ifCond .ne 110, 97) := by decide +kernel
theorem r2_94 {E : aEnv} {c : Nat} {ah : aHp} {st : List Value} {Q : Option Value → aHp → Prop} {a0 a1 a2 a3 a4 : Option Value} {x : Int32} : WP E c 2 94 [a0, a1, a2, a3, a4] (.int x :: st) ah Q = if ¬ x = 0 then WP E c 2 110 [a0, a1, a2, a3, a4] st ah Q else WP E c 2 97 [a0, a1, a2, a3, a4] st ah Q := wp_j i2_94 rfl rfl rfl rfl
theorem i2_97 : insAt 2 97 = some (.aload 1, 98) := by decide +kernel
theorem r2_97 {E : aEnv} {c : Nat} {ah : aHp} {st : List Value} {Q : Option Value → aHp → Prop} {a0 a2 a3 a4 : Option Value} {x : Nat} : WP E c 2 97 [a0, some (.ref x), a2, a3, a4] (st) ah Q = WP E c 2 98 [a0, some (.ref x), a2, a3, a4] (.ref x :: st) ah Q := wp_s i2_97 rfl rfl rfl rfl
theorem r2_97n {E : aEnv} {c : Nat} {ah : aHp} {st : List Value} {Q : Option Value → aHp → Prop} {a0 a2 a3 a4 : Option Value} : WP E c 2 97 [a0, some .null, a2, a3, a4] (st) ah Q = WP E c 2 98 [a0, some .null, a2, a3, a4] (.null :: st) ah Q := wp_s i2_97 rfl rfl rfl rfl
theorem i2_98 : insAt 2 98 = some (.getfield 1042, 101) := by decide +kernel
theorem r2_98 {E : aEnv} {c : Nat} {ah : aHp} {st : List Value} {Q : Option Value → aHp → Prop} {a0 a1 a2 a3 a4 : Option Value} {a : Nat} : WP E c 2 98 [a0, a1, a2, a3, a4] (.ref a :: st) ah Q = WPo (oGF (hg E ah a) 1 4) (fun v => WP E c 2 101 [a0, a1, a2, a3, a4] (v :: st) ah Q) := wp_getf i2_98
theorem i2_101 : insAt 2 101 = some (.aload 1, 102) := by decide +kernel
theorem r2_101 {E : aEnv} {c : Nat} {ah : aHp} {st : List Value} {Q : Option Value → aHp → Prop} {a0 a2 a3 a4 : Option Value} {x : Nat} : WP E c 2 101 [a0, some (.ref x), a2, a3, a4] (st) ah Q = WP E c 2 102 [a0, some (.ref x), a2, a3, a4] (.ref x :: st) ah Q := wp_s i2_101 rfl rfl rfl rfl
theorem r2_101n {E : aEnv} {c : Nat} {ah : aHp} {st : List Value} {Q : Option Value → aHp → Prop} {a0 a2 a3 a4 : Option Value} : WP E c 2 101 [a0, some .null, a2, a3, a4] (st) ah Q = WP E c 2 102 [a0, some .null, a2, a3, a4] (.null :: st) ah Q := wp_s i2_101 rfl rfl rfl rfl
theorem i2_102 : insAt 2 102 = some (.getfield 1050, 105) := by decide +kernel
theorem r2_102 {E : aEnv} {c : Nat} {ah : aHp} {st : List Value} {Q : Option Value → aHp → Prop} {a0 a1 a2 a3 a4 : Option Value} {a : Nat} : WP E c 2 102 [a0, a1, a2, a3, a4] (.ref a :: st) ah Q = WPo (oGF (hg E ah a) 1 5) (fun v => WP E c 2 105 [a0, a1, a2, a3, a4] (v :: st) ah Q) := wp_getf i2_102
theorem i2_105 : insAt 2 105 = some (.aload 0, 106) := by decide +kernel
theorem r2_105 {E : aEnv} {c : Nat} {ah : aHp} {st : List Value} {Q : Option Value → aHp → Prop} {a1 a2 a3 a4 : Option Value} {x : Nat} : WP E c 2 105 [some (.ref x), a1, a2, a3, a4] (st) ah Q = WP E c 2 106 [some (.ref x), a1, a2, a3, a4] (.ref x :: st) ah Q := wp_s i2_105 rfl rfl rfl rfl
theorem i2_106 : insAt 2 106 = some (.invokevirtual 6, 109) := by decide +kernel
theorem r2_106 {E : aEnv} {c : Nat} {ah ah1 : aHp} {r : Option Value} {st : List Value} {Q : Option Value → aHp → Prop} {a0 a1 a2 a3 a4 : Option Value} {p0 : Nat} (h : EV E c 6 [.ref p0] ah r ah1) (h2 : oCI (hg E ah p0) = 0) (h3 : wds st ≤ 8) : WP E (c + 1) 2 106 [a0, a1, a2, a3, a4] (.ref p0 :: st) ah Q = WP E (c + 1) 2 109 [a0, a1, a2, a3, a4] (r.toList ++ st) ah1 Q := wp_call (As := [.ref p0]) i2_106 (fun _ => rfl) rfl mr6.1 (rcv_1 h2 mr6.2.2 (by decide)) h3 (by rw [mr6.2.1]; exact Nat.le_of_ble_eq_true rfl) h
theorem i2_109 : insAt 2 109 = some (.lastore, 110) := by decide +kernel
theorem r2_109 {E : aEnv} {c : Nat} {ah : aHp} {st : List Value} {Q : Option Value → aHp → Prop} {a0 a1 a2 a3 a4 : Option Value} {x : Int64} {i : Int32} {a : Nat} : WP E c 2 109 [a0, a1, a2, a3, a4] (.long x :: .int i :: .ref a :: st) ah Q = WPo (pL E ah (.long x :: .int i :: .ref a :: st)) (fun q9 => WP E c 2 110 [a0, a1, a2, a3, a4] q9.1 q9.2 Q) := wp_hw i2_109 rfl rfl rfl rfl rfl rfl rfl rfl
theorem i2_110 : insAt 2 110 = some (.iload 2, 111) := by decide +kernel
theorem r2_110 {E : aEnv} {c : Nat} {ah : aHp} {st : List Value} {Q : Option Value → aHp → Prop} {a0 a1 a3 a4 : Option Value} {x : Int32} : WP E c 2 110 [a0, a1, some (.int x), a3, a4] (st) ah Q = WP E c 2 111 [a0, a1, some (.int x), a3, a4] (.int x :: st) ah Q := wp_s i2_110 rfl rfl rfl rfl
theorem i2_111 : insAt 2 111 = some (.iconst 6, 113) := by decide +kernel
theorem r2_111 {E : aEnv} {c : Nat} {ah : aHp} {st : List Value} {Q : Option Value → aHp → Prop} {a0 a1 a2 a3 a4 : Option Value} : WP E c 2 111 [a0, a1, a2, a3, a4] (st) ah Q = WP E c 2 113 [a0, a1, a2, a3, a4] (.int (6) :: st) ah Q := wp_s i2_111 rfl rfl rfl rfl
theorem i2_113 : insAt 2 113 = some (.if_icmp .eq 122, 116) := by decide +kernel
theorem r2_113 {E : aEnv} {c : Nat} {ah : aHp} {st : List Value} {Q : Option Value → aHp → Prop} {a0 a1 a2 a3 a4 : Option Value} {x y : Int32} : WP E c 2 113 [a0, a1, a2, a3, a4] (.int y :: .int x :: st) ah Q = if x = y then WP E c 2 122 [a0, a1, a2, a3, a4] st ah Q else WP E c 2 116 [a0, a1, a2, a3, a4] st ah Q := wp_j i2_113 rfl rfl rfl rfl
theorem i2_116 : insAt 2 116 = some (.iload 2, 117) := by decide +kernel
theorem r2_116 {E : aEnv} {c : Nat} {ah : aHp} {st : List Value} {Q : Option Value → aHp → Prop} {a0 a1 a3 a4 : Option Value} {x : Int32} : WP E c 2 116 [a0, a1, some (.int x), a3, a4] (st) ah Q = WP E c 2 117 [a0, a1, some (.int x), a3, a4] (.int x :: st) ah Q := wp_s i2_116 rfl rfl rfl rfl
theorem i2_117 : insAt 2 117 = some (.iconst 7, 119) := by decide +kernel
theorem r2_117 {E : aEnv} {c : Nat} {ah : aHp} {st : List Value} {Q : Option Value → aHp → Prop} {a0 a1 a2 a3 a4 : Option Value} : WP E c 2 117 [a0, a1, a2, a3, a4] (st) ah Q = WP E c 2 119 [a0, a1, a2, a3, a4] (.int (7) :: st) ah Q := wp_s i2_117 rfl rfl rfl rfl
theorem i2_119 : insAt 2 119 = some (.if_icmp .ne 127, 122) := by decide +kernel
theorem r2_119 {E : aEnv} {c : Nat} {ah : aHp} {st : List Value} {Q : Option Value → aHp → Prop} {a0 a1 a2 a3 a4 : Option Value} {x y : Int32} : WP E c 2 119 [a0, a1, a2, a3, a4] (.int y :: .int x :: st) ah Q = if ¬ x = y then WP E c 2 127 [a0, a1, a2, a3, a4] st ah Q else WP E c 2 122 [a0, a1, a2, a3, a4] st ah Q := wp_j i2_119 rfl rfl rfl rfl
theorem i2_122 : insAt 2 122 = some (.aload 0, 123) := by decide +kernel
theorem r2_122 {E : aEnv} {c : Nat} {ah : aHp} {st : List Value} {Q : Option Value → aHp → Prop} {a1 a2 a3 a4 : Option Value} {x : Nat} : WP E c 2 122 [some (.ref x), a1, a2, a3, a4] (st) ah Q = WP E c 2 123 [some (.ref x), a1, a2, a3, a4] (.ref x :: st) ah Q := wp_s i2_122 rfl rfl rfl rfl
theorem i2_123 : insAt 2 123 = some (.aload 1, 124) := by decide +kernel
theorem r2_123 {E : aEnv} {c : Nat} {ah : aHp} {st : List Value} {Q : Option Value → aHp → Prop} {a0 a2 a3 a4 : Option Value} {x : Nat} : WP E c 2 123 [a0, some (.ref x), a2, a3, a4] (st) ah Q = WP E c 2 124 [a0, some (.ref x), a2, a3, a4] (.ref x :: st) ah Q := wp_s i2_123 rfl rfl rfl rfl
theorem r2_123n {E : aEnv} {c : Nat} {ah : aHp} {st : List Value} {Q : Option Value → aHp → Prop} {a0 a2 a3 a4 : Option Value} : WP E c 2 123 [a0, some .null, a2, a3, a4] (st) ah Q = WP E c 2 124 [a0, some .null, a2, a3, a4] (.null :: st) ah Q := wp_s i2_123 rfl rfl rfl rfl
theorem i2_124 : insAt 2 124 = some (.invokevirtual 3, 127) := by decide +kernel
theorem r2_124 {E : aEnv} {c : Nat} {ah ah1 : aHp} {r : Option Value} {st : List Value} {Q : Option Value → aHp → Prop} {a0 a1 a2 a3 a4 : Option Value} {p0 : Nat} {p1 : Nat} (h : EV E c 3 [.ref p0, .ref p1] ah r ah1) (h2 : oCI (hg E ah p0) = 0) (h3 : wds st ≤ 8) : WP E (c + 1) 2 124 [a0, a1, a2, a3, a4] (.ref p1 :: .ref p0 :: st) ah Q = WP E (c + 1) 2 127 [a0, a1, a2, a3, a4] (r.toList ++ st) ah1 Q := wp_call (As := [.ref p0, .ref p1]) i2_124 (fun _ => rfl) rfl mr3.1 (rcv_1 h2 mr3.2.2 (by decide)) h3 (by rw [mr3.2.1]; exact Nat.le_of_ble_eq_true rfl) h
theorem i2_127 : insAt 2 127 = some (.aload 0, 128) := by decide +kernel
theorem r2_127 {E : aEnv} {c : Nat} {ah : aHp} {st : List Value} {Q : Option Value → aHp → Prop} {a1 a2 a3 a4 : Option Value} {x : Nat} : WP E c 2 127 [some (.ref x), a1, a2, a3, a4] (st) ah Q = WP E c 2 128 [some (.ref x), a1, a2, a3, a4] (.ref x :: st) ah Q := wp_s i2_127 rfl rfl rfl rfl
theorem i2_128 : insAt 2 128 = some (.iconst 3, 129) := by decide +kernel
theorem r2_128 {E : aEnv} {c : Nat} {ah : aHp} {st : List Value} {Q : Option Value → aHp → Prop} {a0 a1 a2 a3 a4 : Option Value} : WP E c 2 128 [a0, a1, a2, a3, a4] (st) ah Q = WP E c 2 129 [a0, a1, a2, a3, a4] (.int (3) :: st) ah Q := wp_s i2_128 rfl rfl rfl rfl
theorem i2_129 : insAt 2 129 = some (.invokevirtual 7, 132) := by decide +kernel
theorem r2_129 {E : aEnv} {c : Nat} {ah ah1 : aHp} {r : Option Value} {st : List Value} {Q : Option Value → aHp → Prop} {a0 a1 a2 a3 a4 : Option Value} {p0 : Nat} {p1 : Int32} (h : EV E c 7 [.ref p0, .int p1] ah r ah1) (h2 : oCI (hg E ah p0) = 0) (h3 : wds st ≤ 8) : WP E (c + 1) 2 129 [a0, a1, a2, a3, a4] (.int p1 :: .ref p0 :: st) ah Q = WP E (c + 1) 2 132 [a0, a1, a2, a3, a4] (r.toList ++ st) ah1 Q := wp_call (As := [.ref p0, .int p1]) i2_129 (fun _ => rfl) rfl mr7.1 (rcv_1 h2 mr7.2.2 (by decide)) h3 (by rw [mr7.2.1]; exact Nat.le_of_ble_eq_true rfl) h
theorem i2_132 : insAt 2 132 = some (.aload 1, 133) := by decide +kernel
theorem r2_132 {E : aEnv} {c : Nat} {ah : aHp} {st : List Value} {Q : Option Value → aHp → Prop} {a0 a2 a3 a4 : Option Value} {x : Nat} : WP E c 2 132 [a0, some (.ref x), a2, a3, a4] (st) ah Q = WP E c 2 133 [a0, some (.ref x), a2, a3, a4] (.ref x :: st) ah Q := wp_s i2_132 rfl rfl rfl rfl
theorem r2_132n {E : aEnv} {c : Nat} {ah : aHp} {st : List Value} {Q : Option Value → aHp → Prop} {a0 a2 a3 a4 : Option Value} : WP E c 2 132 [a0, some .null, a2, a3, a4] (st) ah Q = WP E c 2 133 [a0, some .null, a2, a3, a4] (.null :: st) ah Q := wp_s i2_132 rfl rfl rfl rfl
theorem i2_133 : insAt 2 133 = some (.dup, 134) := by decide +kernel
theorem r2_133 {E : aEnv} {c : Nat} {ah : aHp} {st : List Value} {Q : Option Value → aHp → Prop} {a0 a1 a2 a3 a4 : Option Value} {x : Nat} : WP E c 2 133 [a0, a1, a2, a3, a4] (.ref x :: st) ah Q = WP E c 2 134 [a0, a1, a2, a3, a4] (.ref x :: .ref x :: st) ah Q := wp_s i2_133 rfl rfl rfl rfl
theorem r2_133i {E : aEnv} {c : Nat} {ah : aHp} {st : List Value} {Q : Option Value → aHp → Prop} {a0 a1 a2 a3 a4 : Option Value} {x : Int32} : WP E c 2 133 [a0, a1, a2, a3, a4] (.int x :: st) ah Q = WP E c 2 134 [a0, a1, a2, a3, a4] (.int x :: .int x :: st) ah Q := wp_s i2_133 rfl rfl rfl rfl
theorem i2_134 : insAt 2 134 = some (.getfield 1050, 137) := by decide +kernel
theorem r2_134 {E : aEnv} {c : Nat} {ah : aHp} {st : List Value} {Q : Option Value → aHp → Prop} {a0 a1 a2 a3 a4 : Option Value} {a : Nat} : WP E c 2 134 [a0, a1, a2, a3, a4] (.ref a :: st) ah Q = WPo (oGF (hg E ah a) 1 5) (fun v => WP E c 2 137 [a0, a1, a2, a3, a4] (v :: st) ah Q) := wp_getf i2_134
theorem i2_137 : insAt 2 137 = some (.iconst 1, 138) := by decide +kernel
theorem r2_137 {E : aEnv} {c : Nat} {ah : aHp} {st : List Value} {Q : Option Value → aHp → Prop} {a0 a1 a2 a3 a4 : Option Value} : WP E c 2 137 [a0, a1, a2, a3, a4] (st) ah Q = WP E c 2 138 [a0, a1, a2, a3, a4] (.int (1) :: st) ah Q := wp_s i2_137 rfl rfl rfl rfl
theorem i2_138 : insAt 2 138 = some (.iadd, 139) := by decide +kernel
theorem r2_138 {E : aEnv} {c : Nat} {ah : aHp} {st : List Value} {Q : Option Value → aHp → Prop} {a0 a1 a2 a3 a4 : Option Value} {x y : Int32} : WP E c 2 138 [a0, a1, a2, a3, a4] (.int y :: .int x :: st) ah Q = WP E c 2 139 [a0, a1, a2, a3, a4] (.int (x + y) :: st) ah Q := wp_s i2_138 rfl rfl rfl rfl
theorem i2_139 : insAt 2 139 = some (.putfield 1050, 142) := by decide +kernel
theorem r2_139 {E : aEnv} {c : Nat} {ah : aHp} {st : List Value} {Q : Option Value → aHp → Prop} {a0 a1 a2 a3 a4 : Option Value} {a : Nat} {v : Value} : WP E c 2 139 [a0, a1, a2, a3, a4] (v :: .ref a :: st) ah Q = WPo (oPF (hg E ah a) 1050 v) (fun e => WP E c 2 142 [a0, a1, a2, a3, a4] st (hs E ah a e) Q) := wp_putf i2_139
theorem i2_142 : insAt 2 142 = some (.return_, 143) := by decide +kernel
theorem r2_142 {E : aEnv} {c : Nat} {ah : aHp} {Q : Option Value → aHp → Prop} {a0 a1 a2 a3 a4 : Option Value} : WP E c 2 142 [a0, a1, a2, a3, a4] ([]) ah Q = Q none ah := wp_rt i2_142 rfl
theorem e3 {E : aEnv} {c : Nat} {ah ahF : aHp} {r : Option Value} {p0 : Nat} {p1 : Nat} (h : WP E c 3 0 [some (.ref p0), some (.ref p1)] [] ah (fun r1 x1 => r1 = r ∧ x1 = ahF)) : EV E c 3 [.ref p0, .ref p1] ah r ahF := EV.of (by rw [mr3.2.1]; exact h)
theorem i3_0 : insAt 3 0 = some (.aload 1, 1) := by decide +kernel
theorem r3_0 {E : aEnv} {c : Nat} {ah : aHp} {st : List Value} {Q : Option Value → aHp → Prop} {a0 : Option Value} {x : Nat} : WP E c 3 0 [a0, some (.ref x)] (st) ah Q = WP E c 3 1 [a0, some (.ref x)] (.ref x :: st) ah Q := wp_s i3_0 rfl rfl rfl rfl
theorem r3_0n {E : aEnv} {c : Nat} {ah : aHp} {st : List Value} {Q : Option Value → aHp → Prop} {a0 : Option Value} : WP E c 3 0 [a0, some .null] (st) ah Q = WP E c 3 1 [a0, some .null] (.null :: st) ah Q := wp_s i3_0 rfl rfl rfl rfl
theorem i3_1 : insAt 3 1 = some (.getfield 1032, 4) := by decide +kernel
theorem r3_1 {E : aEnv} {c : Nat} {ah : aHp} {st : List Value} {Q : Option Value → aHp → Prop} {a0 a1 : Option Value} {a : Nat} : WP E c 3 1 [a0, a1] (.ref a :: st) ah Q = WPo (oGF (hg E ah a) 1 3) (fun v => WP E c 3 4 [a0, a1] (v :: st) ah Q) := wp_getf i3_1
theorem i3_4 : insAt 3 4 = some (.aload 1, 5) := by decide +kernel
theorem r3_4 {E : aEnv} {c : Nat} {ah : aHp} {st : List Value} {Q : Option Value → aHp → Prop} {a0 : Option Value} {x : Nat} : WP E c 3 4 [a0, some (.ref x)] (st) ah Q = WP E c 3 5 [a0, some (.ref x)] (.ref x :: st) ah Q := wp_s i3_4 rfl rfl rfl rfl
theorem r3_4n {E : aEnv} {c : Nat} {ah : aHp} {st : List Value} {Q : Option Value → aHp → Prop} {a0 : Option Value} : WP E c 3 4 [a0, some .null] (st) ah Q = WP E c 3 5 [a0, some .null] (.null :: st) ah Q := wp_s i3_4 rfl rfl rfl rfl
theorem i3_5 : insAt 3 5 = some (.getfield 1050, 8) := by decide +kernel
theorem r3_5 {E : aEnv} {c : Nat} {ah : aHp} {st : List Value} {Q : Option Value → aHp → Prop} {a0 a1 : Option Value} {a : Nat} : WP E c 3 5 [a0, a1] (.ref a :: st) ah Q = WPo (oGF (hg E ah a) 1 5) (fun v => WP E c 3 8 [a0, a1] (v :: st) ah Q) := wp_getf i3_5
theorem i3_8 : insAt 3 8 = some (.aload 0, 9) := by decide +kernel
theorem r3_8 {E : aEnv} {c : Nat} {ah : aHp} {st : List Value} {Q : Option Value → aHp → Prop} {a1 : Option Value} {x : Nat} : WP E c 3 8 [some (.ref x), a1] (st) ah Q = WP E c 3 9 [some (.ref x), a1] (.ref x :: st) ah Q := wp_s i3_8 rfl rfl rfl rfl
theorem i3_9 : insAt 3 9 = some (.getfield 40, 12) := by decide +kernel
theorem r3_9 {E : aEnv} {c : Nat} {ah : aHp} {st : List Value} {Q : Option Value → aHp → Prop} {a0 a1 : Option Value} {a : Nat} : WP E c 3 9 [a0, a1] (.ref a :: st) ah Q = WPo (oGF (hg E ah a) 0 4) (fun v => WP E c 3 12 [a0, a1] (v :: st) ah Q) := wp_getf i3_9
theorem i3_12 : insAt 3 12 = some (.iastore, 13) := by decide +kernel
theorem r3_12 {E : aEnv} {c : Nat} {ah : aHp} {st : List Value} {Q : Option Value → aHp → Prop} {a0 a1 : Option Value} {x : Int32} {i : Int32} {a : Nat} : WP E c 3 12 [a0, a1] (.int x :: .int i :: .ref a :: st) ah Q = WPo (pI E ah (.int x :: .int i :: .ref a :: st)) (fun q9 => WP E c 3 13 [a0, a1] q9.1 q9.2 Q) := wp_hw i3_12 rfl rfl rfl rfl rfl rfl rfl rfl
theorem i3_13 : insAt 3 13 = some (.aload 1, 14) := by decide +kernel
theorem r3_13 {E : aEnv} {c : Nat} {ah : aHp} {st : List Value} {Q : Option Value → aHp → Prop} {a0 : Option Value} {x : Nat} : WP E c 3 13 [a0, some (.ref x)] (st) ah Q = WP E c 3 14 [a0, some (.ref x)] (.ref x :: st) ah Q := wp_s i3_13 rfl rfl rfl rfl
theorem r3_13n {E : aEnv} {c : Nat} {ah : aHp} {st : List Value} {Q : Option Value → aHp → Prop} {a0 : Option Value} : WP E c 3 13 [a0, some .null] (st) ah Q = WP E c 3 14 [a0, some .null] (.null :: st) ah Q := wp_s i3_13 rfl rfl rfl rfl
theorem i3_14 : insAt 3 14 = some (.iconst 0, 15) := by decide +kernel
theorem r3_14 {E : aEnv} {c : Nat} {ah : aHp} {st : List Value} {Q : Option Value → aHp → Prop} {a0 a1 : Option Value} : WP E c 3 14 [a0, a1] (st) ah Q = WP E c 3 15 [a0, a1] (.int (0) :: st) ah Q := wp_s i3_14 rfl rfl rfl rfl
theorem i3_15 : insAt 3 15 = some (.aload 0, 16) := by decide +kernel
theorem r3_15 {E : aEnv} {c : Nat} {ah : aHp} {st : List Value} {Q : Option Value → aHp → Prop} {a1 : Option Value} {x : Nat} : WP E c 3 15 [some (.ref x), a1] (st) ah Q = WP E c 3 16 [some (.ref x), a1] (.ref x :: st) ah Q := wp_s i3_15 rfl rfl rfl rfl
theorem i3_16 : insAt 3 16 = some (.iconst 1, 17) := by decide +kernel
theorem r3_16 {E : aEnv} {c : Nat} {ah : aHp} {st : List Value} {Q : Option Value → aHp → Prop} {a0 a1 : Option Value} : WP E c 3 16 [a0, a1] (st) ah Q = WP E c 3 17 [a0, a1] (.int (1) :: st) ah Q := wp_s i3_16 rfl rfl rfl rfl
theorem i3_17 : insAt 3 17 = some (.iconst 40, 19) := by decide +kernel
theorem r3_17 {E : aEnv} {c : Nat} {ah : aHp} {st : List Value} {Q : Option Value → aHp → Prop} {a0 a1 : Option Value} : WP E c 3 17 [a0, a1] (st) ah Q = WP E c 3 19 [a0, a1] (.int (40) :: st) ah Q := wp_s i3_17 rfl rfl rfl rfl
theorem i3_19 : insAt 3 19 = some (.invokevirtual 5, 22) := by decide +kernel
theorem r3_19 {E : aEnv} {c : Nat} {ah ah1 : aHp} {r : Option Value} {st : List Value} {Q : Option Value → aHp → Prop} {a0 a1 : Option Value} {p0 : Nat} {p1 : Int32} {p2 : Int32} (h : EV E c 5 [.ref p0, .int p1, .int p2] ah r ah1) (h2 : oCI (hg E ah p0) = 0) (h3 : wds st ≤ 8) : WP E (c + 1) 3 19 [a0, a1] (.int p2 :: .int p1 :: .ref p0 :: st) ah Q = WP E (c + 1) 3 22 [a0, a1] (r.toList ++ st) ah1 Q := wp_call (As := [.ref p0, .int p1, .int p2]) i3_19 (fun _ => rfl) rfl mr5.1 (rcv_1 h2 mr5.2.2 (by decide)) h3 (by rw [mr5.2.1]; exact Nat.le_of_ble_eq_true rfl) h
theorem i3_22 : insAt 3 22 = some (.invokevirtual 23, 25) := by decide +kernel
theorem r3_22 {E : aEnv} {c : Nat} {ah ah1 : aHp} {r : Option Value} {st : List Value} {Q : Option Value → aHp → Prop} {a0 a1 : Option Value} {p0 : Nat} {p1 : Int32} {p2 : Int32} (h : EV E c 23 [.ref p0, .int p1, .int p2] ah r ah1) (h2 : oCI (hg E ah p0) = 1) (h3 : wds st ≤ 8) : WP E (c + 1) 3 22 [a0, a1] (.int p2 :: .int p1 :: .ref p0 :: st) ah Q = WP E (c + 1) 3 25 [a0, a1] (r.toList ++ st) ah1 Q := wp_call (As := [.ref p0, .int p1, .int p2]) i3_22 (fun _ => rfl) rfl mr23.1 (rcv_1 h2 mr23.2.2 (by decide)) h3 (by rw [mr23.2.1]; exact Nat.le_of_ble_eq_true rfl) h
theorem i3_25 : insAt 3 25 = some (.aload 0, 26) := by decide +kernel
theorem r3_25 {E : aEnv} {c : Nat} {ah : aHp} {st : List Value} {Q : Option Value → aHp → Prop} {a1 : Option Value} {x : Nat} : WP E c 3 25 [some (.ref x), a1] (st) ah Q = WP E c 3 26 [some (.ref x), a1] (.ref x :: st) ah Q := wp_s i3_25 rfl rfl rfl rfl
theorem i3_26 : insAt 3 26 = some (.getfield 60, 29) := by decide +kernel
theorem r3_26 {E : aEnv} {c : Nat} {ah : aHp} {st : List Value} {Q : Option Value → aHp → Prop} {a0 a1 : Option Value} {a : Nat} : WP E c 3 26 [a0, a1] (.ref a :: st) ah Q = WPo (oGF (hg E ah a) 0 6) (fun v => WP E c 3 29 [a0, a1] (v :: st) ah Q) := wp_getf i3_26
theorem i3_29 : insAt 3 29 = some (.ifCond .ne 53, 32) := by decide +kernel
theorem r3_29 {E : aEnv} {c : Nat} {ah : aHp} {st : List Value} {Q : Option Value → aHp → Prop} {a0 a1 : Option Value} {x : Int32} : WP E c 3 29 [a0, a1] (.int x :: st) ah Q = if ¬ x = 0 then WP E c 3 53 [a0, a1] st ah Q else WP E c 3 32 [a0, a1] st ah Q := wp_j i3_29 rfl rfl rfl rfl
theorem i3_32 : insAt 3 32 = some (.aload 0, 33) := by decide +kernel
theorem r3_32 {E : aEnv} {c : Nat} {ah : aHp} {st : List Value} {Q : Option Value → aHp → Prop} {a1 : Option Value} {x : Nat} : WP E c 3 32 [some (.ref x), a1] (st) ah Q = WP E c 3 33 [some (.ref x), a1] (.ref x :: st) ah Q := wp_s i3_32 rfl rfl rfl rfl
theorem i3_33 : insAt 3 33 = some (.getfield 30, 36) := by decide +kernel
theorem r3_33 {E : aEnv} {c : Nat} {ah : aHp} {st : List Value} {Q : Option Value → aHp → Prop} {a0 a1 : Option Value} {a : Nat} : WP E c 3 33 [a0, a1] (.ref a :: st) ah Q = WPo (oGF (hg E ah a) 0 3) (fun v => WP E c 3 36 [a0, a1] (v :: st) ah Q) := wp_getf i3_33
theorem i3_36 : insAt 3 36 = some (.iconst 1, 37) := by decide +kernel
theorem r3_36 {E : aEnv} {c : Nat} {ah : aHp} {st : List Value} {Q : Option Value → aHp → Prop} {a0 a1 : Option Value} : WP E c 3 36 [a0, a1] (st) ah Q = WP E c 3 37 [a0, a1] (.int (1) :: st) ah Q := wp_s i3_36 rfl rfl rfl rfl
theorem i3_37 : insAt 3 37 = some (.if_icmp .ne 53, 40) := by decide +kernel
theorem r3_37 {E : aEnv} {c : Nat} {ah : aHp} {st : List Value} {Q : Option Value → aHp → Prop} {a0 a1 : Option Value} {x y : Int32} : WP E c 3 37 [a0, a1] (.int y :: .int x :: st) ah Q = if ¬ x = y then WP E c 3 53 [a0, a1] st ah Q else WP E c 3 40 [a0, a1] st ah Q := wp_j i3_37 rfl rfl rfl rfl
theorem i3_40 : insAt 3 40 = some (.aload 1, 41) := by decide +kernel
theorem r3_40 {E : aEnv} {c : Nat} {ah : aHp} {st : List Value} {Q : Option Value → aHp → Prop} {a0 : Option Value} {x : Nat} : WP E c 3 40 [a0, some (.ref x)] (st) ah Q = WP E c 3 41 [a0, some (.ref x)] (.ref x :: st) ah Q := wp_s i3_40 rfl rfl rfl rfl
theorem r3_40n {E : aEnv} {c : Nat} {ah : aHp} {st : List Value} {Q : Option Value → aHp → Prop} {a0 : Option Value} : WP E c 3 40 [a0, some .null] (st) ah Q = WP E c 3 41 [a0, some .null] (.null :: st) ah Q := wp_s i3_40 rfl rfl rfl rfl
theorem i3_41 : insAt 3 41 = some (.getfield 1012, 44) := by decide +kernel
theorem r3_41 {E : aEnv} {c : Nat} {ah : aHp} {st : List Value} {Q : Option Value → aHp → Prop} {a0 a1 : Option Value} {a : Nat} : WP E c 3 41 [a0, a1] (.ref a :: st) ah Q = WPo (oGF (hg E ah a) 1 1) (fun v => WP E c 3 44 [a0, a1] (v :: st) ah Q) := wp_getf i3_41
theorem i3_44 : insAt 3 44 = some (.aload 1, 45) := by decide +kernel
theorem r3_44 {E : aEnv} {c : Nat} {ah : aHp} {st : List Value} {Q : Option Value → aHp → Prop} {a0 : Option Value} {x : Nat} : WP E c 3 44 [a0, some (.ref x)] (st) ah Q = WP E c 3 45 [a0, some (.ref x)] (.ref x :: st) ah Q := wp_s i3_44 rfl rfl rfl rfl
theorem r3_44n {E : aEnv} {c : Nat} {ah : aHp} {st : List Value} {Q : Option Value → aHp → Prop} {a0 : Option Value} : WP E c 3 44 [a0, some .null] (st) ah Q = WP E c 3 45 [a0, some .null] (.null :: st) ah Q := wp_s i3_44 rfl rfl rfl rfl
theorem i3_45 : insAt 3 45 = some (.getfield 1050, 48) := by decide +kernel
theorem r3_45 {E : aEnv} {c : Nat} {ah : aHp} {st : List Value} {Q : Option Value → aHp → Prop} {a0 a1 : Option Value} {a : Nat} : WP E c 3 45 [a0, a1] (.ref a :: st) ah Q = WPo (oGF (hg E ah a) 1 5) (fun v => WP E c 3 48 [a0, a1] (v :: st) ah Q) := wp_getf i3_45
theorem i3_48 : insAt 3 48 = some (.aload 0, 49) := by decide +kernel
theorem r3_48 {E : aEnv} {c : Nat} {ah : aHp} {st : List Value} {Q : Option Value → aHp → Prop} {a1 : Option Value} {x : Nat} : WP E c 3 48 [some (.ref x), a1] (st) ah Q = WP E c 3 49 [some (.ref x), a1] (.ref x :: st) ah Q := wp_s i3_48 rfl rfl rfl rfl
theorem i3_49 : insAt 3 49 = some (.invokevirtual 4, 52) := by decide +kernel
theorem r3_49 {E : aEnv} {c : Nat} {ah ah1 : aHp} {r : Option Value} {st : List Value} {Q : Option Value → aHp → Prop} {a0 a1 : Option Value} {p0 : Nat} (h : EV E c 4 [.ref p0] ah r ah1) (h2 : oCI (hg E ah p0) = 0) (h3 : wds st ≤ 8) : WP E (c + 1) 3 49 [a0, a1] (.ref p0 :: st) ah Q = WP E (c + 1) 3 52 [a0, a1] (r.toList ++ st) ah1 Q := wp_call (As := [.ref p0]) i3_49 (fun _ => rfl) rfl mr4.1 (rcv_1 h2 mr4.2.2 (by decide)) h3 (by rw [mr4.2.1]; exact Nat.le_of_ble_eq_true rfl) h
theorem i3_52 : insAt 3 52 = some (.iastore, 53) := by decide +kernel
theorem r3_52 {E : aEnv} {c : Nat} {ah : aHp} {st : List Value} {Q : Option Value → aHp → Prop} {a0 a1 : Option Value} {x : Int32} {i : Int32} {a : Nat} : WP E c 3 52 [a0, a1] (.int x :: .int i :: .ref a :: st) ah Q = WPo (pI E ah (.int x :: .int i :: .ref a :: st)) (fun q9 => WP E c 3 53 [a0, a1] q9.1 q9.2 Q) := wp_hw i3_52 rfl rfl rfl rfl rfl rfl rfl rfl
theorem i3_53 : insAt 3 53 = some (.return_, 54) := by decide +kernel
theorem r3_53 {E : aEnv} {c : Nat} {ah : aHp} {Q : Option Value → aHp → Prop} {a0 a1 : Option Value} : WP E c 3 53 [a0, a1] ([]) ah Q = Q none ah := wp_rt i3_53 rfl
theorem e4 {E : aEnv} {c : Nat} {ah ahF : aHp} {r : Option Value} {p0 : Nat} (h : WP E c 4 0 [some (.ref p0), none] [] ah (fun r1 x1 => r1 = r ∧ x1 = ahF)) : EV E c 4 [.ref p0] ah r ahF := EV.of (by rw [mr4.2.1]; exact h)
theorem i4_0 : insAt 4 0 = some (.aload 0, 1) := by decide +kernel
theorem r4_0 {E : aEnv} {c : Nat} {ah : aHp} {st : List Value} {Q : Option Value → aHp → Prop} {a1 : Option Value} {x : Nat} : WP E c 4 0 [some (.ref x), a1] (st) ah Q = WP E c 4 1 [some (.ref x), a1] (.ref x :: st) ah Q := wp_s i4_0 rfl rfl rfl rfl
theorem i4_1 : insAt 4 1 = some (.ldc 100, 3) := by decide +kernel
theorem r4_1 {E : aEnv} {c : Nat} {ah : aHp} {st : List Value} {Q : Option Value → aHp → Prop} {a0 a1 : Option Value} : WP E c 4 1 [a0, a1] (st) ah Q = WPo (gC E 100 st) (fun s9 => WP E c 4 3 [a0, a1] s9 ah Q) := wp_hr i4_1 rfl rfl rfl rfl rfl rfl rfl rfl
theorem i4_3 : insAt 4 3 = some (.invokevirtual 11, 6) := by decide +kernel
theorem r4_3 {E : aEnv} {c : Nat} {ah ah1 : aHp} {r : Option Value} {st : List Value} {Q : Option Value → aHp → Prop} {a0 a1 : Option Value} {p0 : Nat} {p1 : Nat} (h : EV E c 11 [.ref p0, .ref p1] ah r ah1) (h2 : oCI (hg E ah p0) = 0) (h3 : wds st ≤ 8) : WP E (c + 1) 4 3 [a0, a1] (.ref p1 :: .ref p0 :: st) ah Q = WP E (c + 1) 4 6 [a0, a1] (r.toList ++ st) ah1 Q := wp_call (As := [.ref p0, .ref p1]) i4_3 (fun _ => rfl) rfl mr11.1 (rcv_1 h2 mr11.2.2 (by decide)) h3 (by rw [mr11.2.1]; exact Nat.le_of_ble_eq_true rfl) h
theorem i4_6 : insAt 4 6 = some (.ifCond .ne 16, 9) := by decide +kernel
theorem r4_6 {E : aEnv} {c : Nat} {ah : aHp} {st : List Value} {Q : Option Value → aHp → Prop} {a0 a1 : Option Value} {x : Int32} : WP E c 4 6 [a0, a1] (.int x :: st) ah Q = if ¬ x = 0 then WP E c 4 16 [a0, a1] st ah Q else WP E c 4 9 [a0, a1] st ah Q := wp_j i4_6 rfl rfl rfl rfl
theorem i4_9 : insAt 4 9 = some (.aload 0, 10) := by decide +kernel
theorem r4_9 {E : aEnv} {c : Nat} {ah : aHp} {st : List Value} {Q : Option Value → aHp → Prop} {a1 : Option Value} {x : Nat} : WP E c 4 9 [some (.ref x), a1] (st) ah Q = WP E c 4 10 [some (.ref x), a1] (.ref x :: st) ah Q := wp_s i4_9 rfl rfl rfl rfl
theorem i4_10 : insAt 4 10 = some (.iconst 2, 11) := by decide +kernel
theorem r4_10 {E : aEnv} {c : Nat} {ah : aHp} {st : List Value} {Q : Option Value → aHp → Prop} {a0 a1 : Option Value} : WP E c 4 10 [a0, a1] (st) ah Q = WP E c 4 11 [a0, a1] (.int (2) :: st) ah Q := wp_s i4_10 rfl rfl rfl rfl
theorem i4_11 : insAt 4 11 = some (.invokevirtual 8, 14) := by decide +kernel
theorem r4_11 {E : aEnv} {c : Nat} {ah ah1 : aHp} {r : Option Value} {st : List Value} {Q : Option Value → aHp → Prop} {a0 a1 : Option Value} {p0 : Nat} {p1 : Int32} (h : EV E c 8 [.ref p0, .int p1] ah r ah1) (h2 : oCI (hg E ah p0) = 0) (h3 : wds st ≤ 8) : WP E (c + 1) 4 11 [a0, a1] (.int p1 :: .ref p0 :: st) ah Q = WP E (c + 1) 4 14 [a0, a1] (r.toList ++ st) ah1 Q := wp_call (As := [.ref p0, .int p1]) i4_11 (fun _ => rfl) rfl mr8.1 (rcv_1 h2 mr8.2.2 (by decide)) h3 (by rw [mr8.2.1]; exact Nat.le_of_ble_eq_true rfl) h
theorem i4_14 : insAt 4 14 = some (.iconst 0, 15) := by decide +kernel
theorem r4_14 {E : aEnv} {c : Nat} {ah : aHp} {st : List Value} {Q : Option Value → aHp → Prop} {a0 a1 : Option Value} : WP E c 4 14 [a0, a1] (st) ah Q = WP E c 4 15 [a0, a1] (.int (0) :: st) ah Q := wp_s i4_14 rfl rfl rfl rfl
theorem i4_15 : insAt 4 15 = some (.ireturn, 16) := by decide +kernel
theorem r4_15 {E : aEnv} {c : Nat} {ah : aHp} {Q : Option Value → aHp → Prop} {a0 a1 : Option Value} {x : Int32} : WP E c 4 15 [a0, a1] ([.int x]) ah Q = Q (some (.int x)) ah := wp_rt i4_15 rfl
theorem i4_16 : insAt 4 16 = some (.aload 0, 17) := by decide +kernel
theorem r4_16 {E : aEnv} {c : Nat} {ah : aHp} {st : List Value} {Q : Option Value → aHp → Prop} {a1 : Option Value} {x : Nat} : WP E c 4 16 [some (.ref x), a1] (st) ah Q = WP E c 4 17 [some (.ref x), a1] (.ref x :: st) ah Q := wp_s i4_16 rfl rfl rfl rfl
theorem i4_17 : insAt 4 17 = some (.invokevirtual 12, 20) := by decide +kernel
theorem r4_17 {E : aEnv} {c : Nat} {ah ah1 : aHp} {r : Option Value} {st : List Value} {Q : Option Value → aHp → Prop} {a0 a1 : Option Value} {p0 : Nat} (h : EV E c 12 [.ref p0] ah r ah1) (h2 : oCI (hg E ah p0) = 0) (h3 : wds st ≤ 8) : WP E (c + 1) 4 17 [a0, a1] (.ref p0 :: st) ah Q = WP E (c + 1) 4 20 [a0, a1] (r.toList ++ st) ah1 Q := wp_call (As := [.ref p0]) i4_17 (fun _ => rfl) rfl mr12.1 (rcv_1 h2 mr12.2.2 (by decide)) h3 (by rw [mr12.2.1]; exact Nat.le_of_ble_eq_true rfl) h
theorem i4_20 : insAt 4 20 = some (.aload 0, 21) := by decide +kernel
theorem r4_20 {E : aEnv} {c : Nat} {ah : aHp} {st : List Value} {Q : Option Value → aHp → Prop} {a1 : Option Value} {x : Nat} : WP E c 4 20 [some (.ref x), a1] (st) ah Q = WP E c 4 21 [some (.ref x), a1] (.ref x :: st) ah Q := wp_s i4_20 rfl rfl rfl rfl
theorem i4_21 : insAt 4 21 = some (.ldc 101, 23) := by decide +kernel
theorem r4_21 {E : aEnv} {c : Nat} {ah : aHp} {st : List Value} {Q : Option Value → aHp → Prop} {a0 a1 : Option Value} : WP E c 4 21 [a0, a1] (st) ah Q = WPo (gC E 101 st) (fun s9 => WP E c 4 23 [a0, a1] s9 ah Q) := wp_hr i4_21 rfl rfl rfl rfl rfl rfl rfl rfl
theorem i4_23 : insAt 4 23 = some (.invokevirtual 11, 26) := by decide +kernel
theorem r4_23 {E : aEnv} {c : Nat} {ah ah1 : aHp} {r : Option Value} {st : List Value} {Q : Option Value → aHp → Prop} {a0 a1 : Option Value} {p0 : Nat} {p1 : Nat} (h : EV E c 11 [.ref p0, .ref p1] ah r ah1) (h2 : oCI (hg E ah p0) = 0) (h3 : wds st ≤ 8) : WP E (c + 1) 4 23 [a0, a1] (.ref p1 :: .ref p0 :: st) ah Q = WP E (c + 1) 4 26 [a0, a1] (r.toList ++ st) ah1 Q := wp_call (As := [.ref p0, .ref p1]) i4_23 (fun _ => rfl) rfl mr11.1 (rcv_1 h2 mr11.2.2 (by decide)) h3 (by rw [mr11.2.1]; exact Nat.le_of_ble_eq_true rfl) h
theorem i4_26 : insAt 4 26 = some (.istore 1, 27) := by decide +kernel
theorem r4_26 {E : aEnv} {c : Nat} {ah : aHp} {st : List Value} {Q : Option Value → aHp → Prop} {a0 a1 : Option Value} {x : Int32} : WP E c 4 26 [a0, a1] (.int x :: st) ah Q = WP E c 4 27 [kil a0, some (.int x)] (st) ah Q := wp_s i4_26 rfl rfl rfl rfl
theorem i4_27 : insAt 4 27 = some (.iload 1, 28) := by decide +kernel
theorem r4_27 {E : aEnv} {c : Nat} {ah : aHp} {st : List Value} {Q : Option Value → aHp → Prop} {a0 : Option Value} {x : Int32} : WP E c 4 27 [a0, some (.int x)] (st) ah Q = WP E c 4 28 [a0, some (.int x)] (.int x :: st) ah Q := wp_s i4_27 rfl rfl rfl rfl
theorem i4_28 : insAt 4 28 = some (.ifCond .ne 47, 31) := by decide +kernel
theorem r4_28 {E : aEnv} {c : Nat} {ah : aHp} {st : List Value} {Q : Option Value → aHp → Prop} {a0 a1 : Option Value} {x : Int32} : WP E c 4 28 [a0, a1] (.int x :: st) ah Q = if ¬ x = 0 then WP E c 4 47 [a0, a1] st ah Q else WP E c 4 31 [a0, a1] st ah Q := wp_j i4_28 rfl rfl rfl rfl
theorem i4_31 : insAt 4 31 = some (.aload 0, 32) := by decide +kernel
theorem r4_31 {E : aEnv} {c : Nat} {ah : aHp} {st : List Value} {Q : Option Value → aHp → Prop} {a1 : Option Value} {x : Nat} : WP E c 4 31 [some (.ref x), a1] (st) ah Q = WP E c 4 32 [some (.ref x), a1] (.ref x :: st) ah Q := wp_s i4_31 rfl rfl rfl rfl
theorem i4_32 : insAt 4 32 = some (.ldc 102, 34) := by decide +kernel
theorem r4_32 {E : aEnv} {c : Nat} {ah : aHp} {st : List Value} {Q : Option Value → aHp → Prop} {a0 a1 : Option Value} : WP E c 4 32 [a0, a1] (st) ah Q = WPo (gC E 102 st) (fun s9 => WP E c 4 34 [a0, a1] s9 ah Q) := wp_hr i4_32 rfl rfl rfl rfl rfl rfl rfl rfl
theorem i4_34 : insAt 4 34 = some (.invokevirtual 11, 37) := by decide +kernel
theorem r4_34 {E : aEnv} {c : Nat} {ah ah1 : aHp} {r : Option Value} {st : List Value} {Q : Option Value → aHp → Prop} {a0 a1 : Option Value} {p0 : Nat} {p1 : Nat} (h : EV E c 11 [.ref p0, .ref p1] ah r ah1) (h2 : oCI (hg E ah p0) = 0) (h3 : wds st ≤ 8) : WP E (c + 1) 4 34 [a0, a1] (.ref p1 :: .ref p0 :: st) ah Q = WP E (c + 1) 4 37 [a0, a1] (r.toList ++ st) ah1 Q := wp_call (As := [.ref p0, .ref p1]) i4_34 (fun _ => rfl) rfl mr11.1 (rcv_1 h2 mr11.2.2 (by decide)) h3 (by rw [mr11.2.1]; exact Nat.le_of_ble_eq_true rfl) h
theorem i4_37 : insAt 4 37 = some (.ifCond .ne 47, 40) := by decide +kernel
theorem r4_37 {E : aEnv} {c : Nat} {ah : aHp} {st : List Value} {Q : Option Value → aHp → Prop} {a0 a1 : Option Value} {x : Int32} : WP E c 4 37 [a0, a1] (.int x :: st) ah Q = if ¬ x = 0 then WP E c 4 47 [a0, a1] st ah Q else WP E c 4 40 [a0, a1] st ah Q := wp_j i4_37 rfl rfl rfl rfl
theorem i4_40 : insAt 4 40 = some (.aload 0, 41) := by decide +kernel
theorem r4_40 {E : aEnv} {c : Nat} {ah : aHp} {st : List Value} {Q : Option Value → aHp → Prop} {a1 : Option Value} {x : Nat} : WP E c 4 40 [some (.ref x), a1] (st) ah Q = WP E c 4 41 [some (.ref x), a1] (.ref x :: st) ah Q := wp_s i4_40 rfl rfl rfl rfl
theorem i4_41 : insAt 4 41 = some (.iconst 2, 42) := by decide +kernel
theorem r4_41 {E : aEnv} {c : Nat} {ah : aHp} {st : List Value} {Q : Option Value → aHp → Prop} {a0 a1 : Option Value} : WP E c 4 41 [a0, a1] (st) ah Q = WP E c 4 42 [a0, a1] (.int (2) :: st) ah Q := wp_s i4_41 rfl rfl rfl rfl
theorem i4_42 : insAt 4 42 = some (.invokevirtual 8, 45) := by decide +kernel
theorem r4_42 {E : aEnv} {c : Nat} {ah ah1 : aHp} {r : Option Value} {st : List Value} {Q : Option Value → aHp → Prop} {a0 a1 : Option Value} {p0 : Nat} {p1 : Int32} (h : EV E c 8 [.ref p0, .int p1] ah r ah1) (h2 : oCI (hg E ah p0) = 0) (h3 : wds st ≤ 8) : WP E (c + 1) 4 42 [a0, a1] (.int p1 :: .ref p0 :: st) ah Q = WP E (c + 1) 4 45 [a0, a1] (r.toList ++ st) ah1 Q := wp_call (As := [.ref p0, .int p1]) i4_42 (fun _ => rfl) rfl mr8.1 (rcv_1 h2 mr8.2.2 (by decide)) h3 (by rw [mr8.2.1]; exact Nat.le_of_ble_eq_true rfl) h
theorem i4_45 : insAt 4 45 = some (.iconst 0, 46) := by decide +kernel
theorem r4_45 {E : aEnv} {c : Nat} {ah : aHp} {st : List Value} {Q : Option Value → aHp → Prop} {a0 a1 : Option Value} : WP E c 4 45 [a0, a1] (st) ah Q = WP E c 4 46 [a0, a1] (.int (0) :: st) ah Q := wp_s i4_45 rfl rfl rfl rfl
theorem i4_46 : insAt 4 46 = some (.ireturn, 47) := by decide +kernel
theorem r4_46 {E : aEnv} {c : Nat} {ah : aHp} {Q : Option Value → aHp → Prop} {a0 a1 : Option Value} {x : Int32} : WP E c 4 46 [a0, a1] ([.int x]) ah Q = Q (some (.int x)) ah := wp_rt i4_46 rfl
theorem i4_47 : insAt 4 47 = some (.aload 0, 48) := by decide +kernel
theorem r4_47 {E : aEnv} {c : Nat} {ah : aHp} {st : List Value} {Q : Option Value → aHp → Prop} {a1 : Option Value} {x : Nat} : WP E c 4 47 [some (.ref x), a1] (st) ah Q = WP E c 4 48 [some (.ref x), a1] (.ref x :: st) ah Q := wp_s i4_47 rfl rfl rfl rfl
theorem i4_48 : insAt 4 48 = some (.invokevirtual 12, 51) := by decide +kernel
theorem r4_48 {E : aEnv} {c : Nat} {ah ah1 : aHp} {r : Option Value} {st : List Value} {Q : Option Value → aHp → Prop} {a0 a1 : Option Value} {p0 : Nat} (h : EV E c 12 [.ref p0] ah r ah1) (h2 : oCI (hg E ah p0) = 0) (h3 : wds st ≤ 8) : WP E (c + 1) 4 48 [a0, a1] (.ref p0 :: st) ah Q = WP E (c + 1) 4 51 [a0, a1] (r.toList ++ st) ah1 Q := wp_call (As := [.ref p0]) i4_48 (fun _ => rfl) rfl mr12.1 (rcv_1 h2 mr12.2.2 (by decide)) h3 (by rw [mr12.2.1]; exact Nat.le_of_ble_eq_true rfl) h
theorem i4_51 : insAt 4 51 = some (.iload 1, 52) := by decide +kernel
theorem r4_51 {E : aEnv} {c : Nat} {ah : aHp} {st : List Value} {Q : Option Value → aHp → Prop} {a0 : Option Value} {x : Int32} : WP E c 4 51 [a0, some (.int x)] (st) ah Q = WP E c 4 52 [a0, some (.int x)] (.int x :: st) ah Q := wp_s i4_51 rfl rfl rfl rfl
theorem i4_52 : insAt 4 52 = some (.ifCond .eq 59, 55) := by decide +kernel
theorem r4_52 {E : aEnv} {c : Nat} {ah : aHp} {st : List Value} {Q : Option Value → aHp → Prop} {a0 a1 : Option Value} {x : Int32} : WP E c 4 52 [a0, a1] (.int x :: st) ah Q = if x = 0 then WP E c 4 59 [a0, a1] st ah Q else WP E c 4 55 [a0, a1] st ah Q := wp_j i4_52 rfl rfl rfl rfl
theorem i4_55 : insAt 4 55 = some (.iconst 1, 56) := by decide +kernel
theorem r4_55 {E : aEnv} {c : Nat} {ah : aHp} {st : List Value} {Q : Option Value → aHp → Prop} {a0 a1 : Option Value} : WP E c 4 55 [a0, a1] (st) ah Q = WP E c 4 56 [a0, a1] (.int (1) :: st) ah Q := wp_s i4_55 rfl rfl rfl rfl
theorem i4_56 : insAt 4 56 = some (.goto 60, 59) := by decide +kernel
theorem r4_56 {E : aEnv} {c : Nat} {ah : aHp} {st : List Value} {Q : Option Value → aHp → Prop} {a0 a1 : Option Value} : WP E c 4 56 [a0, a1] (st) ah Q = WP E c 4 60 [a0, a1] st ah Q := wp_s i4_56 rfl rfl rfl rfl
theorem i4_59 : insAt 4 59 = some (.iconst 2, 60) := by decide +kernel
theorem r4_59 {E : aEnv} {c : Nat} {ah : aHp} {st : List Value} {Q : Option Value → aHp → Prop} {a0 a1 : Option Value} : WP E c 4 59 [a0, a1] (st) ah Q = WP E c 4 60 [a0, a1] (.int (2) :: st) ah Q := wp_s i4_59 rfl rfl rfl rfl
theorem i4_60 : insAt 4 60 = some (.ireturn, 61) := by decide +kernel
theorem r4_60 {E : aEnv} {c : Nat} {ah : aHp} {Q : Option Value → aHp → Prop} {a0 a1 : Option Value} {x : Int32} : WP E c 4 60 [a0, a1] ([.int x]) ah Q = Q (some (.int x)) ah := wp_rt i4_60 rfl
theorem e5 {E : aEnv} {c : Nat} {ah ahF : aHp} {r : Option Value} {p0 : Nat} {p1 : Int32} {p2 : Int32} (h : WP E c 5 0 [some (.ref p0), some (.int p1), some (.int p2), none, none] [] ah (fun r1 x1 => r1 = r ∧ x1 = ahF)) : EV E c 5 [.ref p0, .int p1, .int p2] ah r ahF := EV.of (by rw [mr5.2.1]; exact h)
theorem i5_0 : insAt 5 0 = some (.aload 0, 1) := by decide +kernel
theorem r5_0 {E : aEnv} {c : Nat} {ah : aHp} {st : List Value} {Q : Option Value → aHp → Prop} {a1 a2 a3 a4 : Option Value} {x : Nat} : WP E c 5 0 [some (.ref x), a1, a2, a3, a4] (st) ah Q = WP E c 5 1 [some (.ref x), a1, a2, a3, a4] (.ref x :: st) ah Q := wp_s i5_0 rfl rfl rfl rfl
theorem i5_1 : insAt 5 1 = some (.getfield 51, 4) := by decide +kernel
theorem r5_1 {E : aEnv} {c : Nat} {ah : aHp} {st : List Value} {Q : Option Value → aHp → Prop} {a0 a1 a2 a3 a4 : Option Value} {a : Nat} : WP E c 5 1 [a0, a1, a2, a3, a4] (.ref a :: st) ah Q = WPo (oGF (hg E ah a) 0 5) (fun v => WP E c 5 4 [a0, a1, a2, a3, a4] (v :: st) ah Q) := wp_getf i5_1
theorem i5_4 : insAt 5 4 = some (.lstore 3, 5) := by decide +kernel
theorem r5_4 {E : aEnv} {c : Nat} {ah : aHp} {st : List Value} {Q : Option Value → aHp → Prop} {a0 a1 a2 a3 a4 : Option Value} {x : Int64} : WP E c 5 4 [a0, a1, a2, a3, a4] (.long x :: st) ah Q = WP E c 5 5 [a0, a1, kil a2, some (.long x), none] (st) ah Q := wp_s i5_4 rfl rfl rfl rfl
theorem i5_5 : insAt 5 5 = some (.aload 0, 6) := by decide +kernel
theorem r5_5 {E : aEnv} {c : Nat} {ah : aHp} {st : List Value} {Q : Option Value → aHp → Prop} {a1 a2 a3 a4 : Option Value} {x : Nat} : WP E c 5 5 [some (.ref x), a1, a2, a3, a4] (st) ah Q = WP E c 5 6 [some (.ref x), a1, a2, a3, a4] (.ref x :: st) ah Q := wp_s i5_5 rfl rfl rfl rfl
theorem i5_6 : insAt 5 6 = some (.getfield 30, 9) := by decide +kernel
theorem r5_6 {E : aEnv} {c : Nat} {ah : aHp} {st : List Value} {Q : Option Value → aHp → Prop} {a0 a1 a2 a3 a4 : Option Value} {a : Nat} : WP E c 5 6 [a0, a1, a2, a3, a4] (.ref a :: st) ah Q = WPo (oGF (hg E ah a) 0 3) (fun v => WP E c 5 9 [a0, a1, a2, a3, a4] (v :: st) ah Q) := wp_getf i5_6
theorem i5_9 : insAt 5 9 = some (.iconst 2, 10) := by decide +kernel
theorem r5_9 {E : aEnv} {c : Nat} {ah : aHp} {st : List Value} {Q : Option Value → aHp → Prop} {a0 a1 a2 a3 a4 : Option Value} : WP E c 5 9 [a0, a1, a2, a3, a4] (st) ah Q = WP E c 5 10 [a0, a1, a2, a3, a4] (.int (2) :: st) ah Q := wp_s i5_9 rfl rfl rfl rfl
theorem i5_10 : insAt 5 10 = some (.if_icmp .eq 21, 13) := by decide +kernel
theorem r5_10 {E : aEnv} {c : Nat} {ah : aHp} {st : List Value} {Q : Option Value → aHp → Prop} {a0 a1 a2 a3 a4 : Option Value} {x y : Int32} : WP E c 5 10 [a0, a1, a2, a3, a4] (.int y :: .int x :: st) ah Q = if x = y then WP E c 5 21 [a0, a1, a2, a3, a4] st ah Q else WP E c 5 13 [a0, a1, a2, a3, a4] st ah Q := wp_j i5_10 rfl rfl rfl rfl
theorem i5_13 : insAt 5 13 = some (.aload 0, 14) := by decide +kernel
theorem r5_13 {E : aEnv} {c : Nat} {ah : aHp} {st : List Value} {Q : Option Value → aHp → Prop} {a1 a2 a3 a4 : Option Value} {x : Nat} : WP E c 5 13 [some (.ref x), a1, a2, a3, a4] (st) ah Q = WP E c 5 14 [some (.ref x), a1, a2, a3, a4] (.ref x :: st) ah Q := wp_s i5_13 rfl rfl rfl rfl
theorem i5_14 : insAt 5 14 = some (.iconst 2, 15) := by decide +kernel
theorem r5_14 {E : aEnv} {c : Nat} {ah : aHp} {st : List Value} {Q : Option Value → aHp → Prop} {a0 a1 a2 a3 a4 : Option Value} : WP E c 5 14 [a0, a1, a2, a3, a4] (st) ah Q = WP E c 5 15 [a0, a1, a2, a3, a4] (.int (2) :: st) ah Q := wp_s i5_14 rfl rfl rfl rfl
theorem i5_15 : insAt 5 15 = some (.invokevirtual 8, 18) := by decide +kernel
theorem r5_15 {E : aEnv} {c : Nat} {ah ah1 : aHp} {r : Option Value} {st : List Value} {Q : Option Value → aHp → Prop} {a0 a1 a2 a3 a4 : Option Value} {p0 : Nat} {p1 : Int32} (h : EV E c 8 [.ref p0, .int p1] ah r ah1) (h2 : oCI (hg E ah p0) = 0) (h3 : wds st ≤ 8) : WP E (c + 1) 5 15 [a0, a1, a2, a3, a4] (.int p1 :: .ref p0 :: st) ah Q = WP E (c + 1) 5 18 [a0, a1, a2, a3, a4] (r.toList ++ st) ah1 Q := wp_call (As := [.ref p0, .int p1]) i5_15 (fun _ => rfl) rfl mr8.1 (rcv_1 h2 mr8.2.2 (by decide)) h3 (by rw [mr8.2.1]; exact Nat.le_of_ble_eq_true rfl) h
theorem i5_18 : insAt 5 18 = some (.goto 50, 21) := by decide +kernel
theorem r5_18 {E : aEnv} {c : Nat} {ah : aHp} {st : List Value} {Q : Option Value → aHp → Prop} {a0 a1 a2 a3 a4 : Option Value} : WP E c 5 18 [a0, a1, a2, a3, a4] (st) ah Q = WP E c 5 50 [a0, a1, a2, a3, a4] st ah Q := wp_s i5_18 rfl rfl rfl rfl
theorem i5_21 : insAt 5 21 = some (.lload 3, 22) := by decide +kernel
theorem r5_21 {E : aEnv} {c : Nat} {ah : aHp} {st : List Value} {Q : Option Value → aHp → Prop} {a0 a1 a2 a4 : Option Value} {x : Int64} : WP E c 5 21 [a0, a1, a2, some (.long x), a4] (st) ah Q = WP E c 5 22 [a0, a1, a2, some (.long x), a4] (.long x :: st) ah Q := wp_s i5_21 rfl rfl rfl rfl
theorem i5_22 : insAt 5 22 = some (.iload 1, 23) := by decide +kernel
theorem r5_22 {E : aEnv} {c : Nat} {ah : aHp} {st : List Value} {Q : Option Value → aHp → Prop} {a0 a2 a3 a4 : Option Value} {x : Int32} : WP E c 5 22 [a0, some (.int x), a2, a3, a4] (st) ah Q = WP E c 5 23 [a0, some (.int x), a2, a3, a4] (.int x :: st) ah Q := wp_s i5_22 rfl rfl rfl rfl
theorem i5_23 : insAt 5 23 = some (.i2l, 24) := by decide +kernel
theorem r5_23 {E : aEnv} {c : Nat} {ah : aHp} {st : List Value} {Q : Option Value → aHp → Prop} {a0 a1 a2 a3 a4 : Option Value} {x : Int32} : WP E c 5 23 [a0, a1, a2, a3, a4] (.int x :: st) ah Q = WP E c 5 24 [a0, a1, a2, a3, a4] (.long x.toInt64 :: st) ah Q := wp_s i5_23 rfl rfl rfl rfl
theorem i5_24 : insAt 5 24 = some (.lcmp, 25) := by decide +kernel
theorem r5_24 {E : aEnv} {c : Nat} {ah : aHp} {st : List Value} {Q : Option Value → aHp → Prop} {a0 a1 a2 a3 a4 : Option Value} {x y : Int64} : WP E c 5 24 [a0, a1, a2, a3, a4] (.long y :: .long x :: st) ah Q = WP E c 5 25 [a0, a1, a2, a3, a4] (.int (lg_cmp x y) :: st) ah Q := wp_s i5_24 rfl rfl rfl rfl
theorem i5_25 : insAt 5 25 = some (.ifCond .lt 35, 28) := by decide +kernel
theorem r5_25 {E : aEnv} {c : Nat} {ah : aHp} {st : List Value} {Q : Option Value → aHp → Prop} {a0 a1 a2 a3 a4 : Option Value} {x : Int32} : WP E c 5 25 [a0, a1, a2, a3, a4] (.int x :: st) ah Q = if x < 0 then WP E c 5 35 [a0, a1, a2, a3, a4] st ah Q else WP E c 5 28 [a0, a1, a2, a3, a4] st ah Q := wp_j i5_25 rfl rfl rfl rfl
theorem i5_28 : insAt 5 28 = some (.lload 3, 29) := by decide +kernel
theorem r5_28 {E : aEnv} {c : Nat} {ah : aHp} {st : List Value} {Q : Option Value → aHp → Prop} {a0 a1 a2 a4 : Option Value} {x : Int64} : WP E c 5 28 [a0, a1, a2, some (.long x), a4] (st) ah Q = WP E c 5 29 [a0, a1, a2, some (.long x), a4] (.long x :: st) ah Q := wp_s i5_28 rfl rfl rfl rfl
theorem i5_29 : insAt 5 29 = some (.iload 2, 30) := by decide +kernel
theorem r5_29 {E : aEnv} {c : Nat} {ah : aHp} {st : List Value} {Q : Option Value → aHp → Prop} {a0 a1 a3 a4 : Option Value} {x : Int32} : WP E c 5 29 [a0, a1, some (.int x), a3, a4] (st) ah Q = WP E c 5 30 [a0, a1, some (.int x), a3, a4] (.int x :: st) ah Q := wp_s i5_29 rfl rfl rfl rfl
theorem i5_30 : insAt 5 30 = some (.i2l, 31) := by decide +kernel
theorem r5_30 {E : aEnv} {c : Nat} {ah : aHp} {st : List Value} {Q : Option Value → aHp → Prop} {a0 a1 a2 a3 a4 : Option Value} {x : Int32} : WP E c 5 30 [a0, a1, a2, a3, a4] (.int x :: st) ah Q = WP E c 5 31 [a0, a1, a2, a3, a4] (.long x.toInt64 :: st) ah Q := wp_s i5_30 rfl rfl rfl rfl
theorem i5_31 : insAt 5 31 = some (.lcmp, 32) := by decide +kernel
theorem r5_31 {E : aEnv} {c : Nat} {ah : aHp} {st : List Value} {Q : Option Value → aHp → Prop} {a0 a1 a2 a3 a4 : Option Value} {x y : Int64} : WP E c 5 31 [a0, a1, a2, a3, a4] (.long y :: .long x :: st) ah Q = WP E c 5 32 [a0, a1, a2, a3, a4] (.int (lg_cmp x y) :: st) ah Q := wp_s i5_31 rfl rfl rfl rfl
theorem i5_32 : insAt 5 32 = some (.ifCond .le 43, 35) := by decide +kernel
theorem r5_32 {E : aEnv} {c : Nat} {ah : aHp} {st : List Value} {Q : Option Value → aHp → Prop} {a0 a1 a2 a3 a4 : Option Value} {x : Int32} : WP E c 5 32 [a0, a1, a2, a3, a4] (.int x :: st) ah Q = if x ≤ 0 then WP E c 5 43 [a0, a1, a2, a3, a4] st ah Q else WP E c 5 35 [a0, a1, a2, a3, a4] st ah Q := wp_j i5_32 rfl rfl rfl rfl
theorem i5_35 : insAt 5 35 = some (.aload 0, 36) := by decide +kernel
theorem r5_35 {E : aEnv} {c : Nat} {ah : aHp} {st : List Value} {Q : Option Value → aHp → Prop} {a1 a2 a3 a4 : Option Value} {x : Nat} : WP E c 5 35 [some (.ref x), a1, a2, a3, a4] (st) ah Q = WP E c 5 36 [some (.ref x), a1, a2, a3, a4] (.ref x :: st) ah Q := wp_s i5_35 rfl rfl rfl rfl
theorem i5_36 : insAt 5 36 = some (.iconst 4, 37) := by decide +kernel
theorem r5_36 {E : aEnv} {c : Nat} {ah : aHp} {st : List Value} {Q : Option Value → aHp → Prop} {a0 a1 a2 a3 a4 : Option Value} : WP E c 5 36 [a0, a1, a2, a3, a4] (st) ah Q = WP E c 5 37 [a0, a1, a2, a3, a4] (.int (4) :: st) ah Q := wp_s i5_36 rfl rfl rfl rfl
theorem i5_37 : insAt 5 37 = some (.invokevirtual 8, 40) := by decide +kernel
theorem r5_37 {E : aEnv} {c : Nat} {ah ah1 : aHp} {r : Option Value} {st : List Value} {Q : Option Value → aHp → Prop} {a0 a1 a2 a3 a4 : Option Value} {p0 : Nat} {p1 : Int32} (h : EV E c 8 [.ref p0, .int p1] ah r ah1) (h2 : oCI (hg E ah p0) = 0) (h3 : wds st ≤ 8) : WP E (c + 1) 5 37 [a0, a1, a2, a3, a4] (.int p1 :: .ref p0 :: st) ah Q = WP E (c + 1) 5 40 [a0, a1, a2, a3, a4] (r.toList ++ st) ah1 Q := wp_call (As := [.ref p0, .int p1]) i5_37 (fun _ => rfl) rfl mr8.1 (rcv_1 h2 mr8.2.2 (by decide)) h3 (by rw [mr8.2.1]; exact Nat.le_of_ble_eq_true rfl) h
theorem i5_40 : insAt 5 40 = some (.goto 50, 43) := by decide +kernel
theorem r5_40 {E : aEnv} {c : Nat} {ah : aHp} {st : List Value} {Q : Option Value → aHp → Prop} {a0 a1 a2 a3 a4 : Option Value} : WP E c 5 40 [a0, a1, a2, a3, a4] (st) ah Q = WP E c 5 50 [a0, a1, a2, a3, a4] st ah Q := wp_s i5_40 rfl rfl rfl rfl
theorem i5_43 : insAt 5 43 = some (.aload 0, 44) := by decide +kernel
theorem r5_43 {E : aEnv} {c : Nat} {ah : aHp} {st : List Value} {Q : Option Value → aHp → Prop} {a1 a2 a3 a4 : Option Value} {x : Nat} : WP E c 5 43 [some (.ref x), a1, a2, a3, a4] (st) ah Q = WP E c 5 44 [some (.ref x), a1, a2, a3, a4] (.ref x :: st) ah Q := wp_s i5_43 rfl rfl rfl rfl
theorem i5_44 : insAt 5 44 = some (.invokevirtual 12, 47) := by decide +kernel
theorem r5_44 {E : aEnv} {c : Nat} {ah ah1 : aHp} {r : Option Value} {st : List Value} {Q : Option Value → aHp → Prop} {a0 a1 a2 a3 a4 : Option Value} {p0 : Nat} (h : EV E c 12 [.ref p0] ah r ah1) (h2 : oCI (hg E ah p0) = 0) (h3 : wds st ≤ 8) : WP E (c + 1) 5 44 [a0, a1, a2, a3, a4] (.ref p0 :: st) ah Q = WP E (c + 1) 5 47 [a0, a1, a2, a3, a4] (r.toList ++ st) ah1 Q := wp_call (As := [.ref p0]) i5_44 (fun _ => rfl) rfl mr12.1 (rcv_1 h2 mr12.2.2 (by decide)) h3 (by rw [mr12.2.1]; exact Nat.le_of_ble_eq_true rfl) h
theorem i5_47 : insAt 5 47 = some (.lload 3, 48) := by decide +kernel
theorem r5_47 {E : aEnv} {c : Nat} {ah : aHp} {st : List Value} {Q : Option Value → aHp → Prop} {a0 a1 a2 a4 : Option Value} {x : Int64} : WP E c 5 47 [a0, a1, a2, some (.long x), a4] (st) ah Q = WP E c 5 48 [a0, a1, a2, some (.long x), a4] (.long x :: st) ah Q := wp_s i5_47 rfl rfl rfl rfl
theorem i5_48 : insAt 5 48 = some (.l2i, 49) := by decide +kernel
theorem r5_48 {E : aEnv} {c : Nat} {ah : aHp} {st : List Value} {Q : Option Value → aHp → Prop} {a0 a1 a2 a3 a4 : Option Value} {x : Int64} : WP E c 5 48 [a0, a1, a2, a3, a4] (.long x :: st) ah Q = WP E c 5 49 [a0, a1, a2, a3, a4] (.int x.toInt32 :: st) ah Q := wp_s i5_48 rfl rfl rfl rfl
theorem i5_49 : insAt 5 49 = some (.ireturn, 50) := by decide +kernel
theorem r5_49 {E : aEnv} {c : Nat} {ah : aHp} {Q : Option Value → aHp → Prop} {a0 a1 a2 a3 a4 : Option Value} {x : Int32} : WP E c 5 49 [a0, a1, a2, a3, a4] ([.int x]) ah Q = Q (some (.int x)) ah := wp_rt i5_49 rfl
theorem i5_50 : insAt 5 50 = some (.iconst 0, 51) := by decide +kernel
theorem r5_50 {E : aEnv} {c : Nat} {ah : aHp} {st : List Value} {Q : Option Value → aHp → Prop} {a0 a1 a2 a3 a4 : Option Value} : WP E c 5 50 [a0, a1, a2, a3, a4] (st) ah Q = WP E c 5 51 [a0, a1, a2, a3, a4] (.int (0) :: st) ah Q := wp_s i5_50 rfl rfl rfl rfl
theorem i5_51 : insAt 5 51 = some (.ireturn, 52) := by decide +kernel
theorem r5_51 {E : aEnv} {c : Nat} {ah : aHp} {Q : Option Value → aHp → Prop} {a0 a1 a2 a3 a4 : Option Value} {x : Int32} : WP E c 5 51 [a0, a1, a2, a3, a4] ([.int x]) ah Q = Q (some (.int x)) ah := wp_rt i5_51 rfl
theorem e6 {E : aEnv} {c : Nat} {ah ahF : aHp} {r : Option Value} {p0 : Nat} (h : WP E c 6 0 [some (.ref p0), none, none, none] [] ah (fun r1 x1 => r1 = r ∧ x1 = ahF)) : EV E c 6 [.ref p0] ah r ahF := EV.of (by rw [mr6.2.1]; exact h)
theorem i6_0 : insAt 6 0 = some (.aload 0, 1) := by decide +kernel
theorem r6_0 {E : aEnv} {c : Nat} {ah : aHp} {st : List Value} {Q : Option Value → aHp → Prop} {a1 a2 a3 : Option Value} {x : Nat} : WP E c 6 0 [some (.ref x), a1, a2, a3] (st) ah Q = WP E c 6 1 [some (.ref x), a1, a2, a3] (.ref x :: st) ah Q := wp_s i6_0 rfl rfl rfl rfl
theorem i6_1 : insAt 6 1 = some (.getfield 60, 4) := by decide +kernel
theorem r6_1 {E : aEnv} {c : Nat} {ah : aHp} {st : List Value} {Q : Option Value → aHp → Prop} {a0 a1 a2 a3 : Option Value} {a : Nat} : WP E c 6 1 [a0, a1, a2, a3] (.ref a :: st) ah Q = WPo (oGF (hg E ah a) 0 6) (fun v => WP E c 6 4 [a0, a1, a2, a3] (v :: st) ah Q) := wp_getf i6_1
theorem i6_4 : insAt 6 4 = some (.ifCond .ne 19, 7) := by decide +kernel
theorem r6_4 {E : aEnv} {c : Nat} {ah : aHp} {st : List Value} {Q : Option Value → aHp → Prop} {a0 a1 a2 a3 : Option Value} {x : Int32} : WP E c 6 4 [a0, a1, a2, a3] (.int x :: st) ah Q = if ¬ x = 0 then WP E c 6 19 [a0, a1, a2, a3] st ah Q else WP E c 6 7 [a0, a1, a2, a3] st ah Q := wp_j i6_4 rfl rfl rfl rfl
theorem i6_7 : insAt 6 7 = some (.aload 0, 8) := by decide +kernel
theorem r6_7 {E : aEnv} {c : Nat} {ah : aHp} {st : List Value} {Q : Option Value → aHp → Prop} {a1 a2 a3 : Option Value} {x : Nat} : WP E c 6 7 [some (.ref x), a1, a2, a3] (st) ah Q = WP E c 6 8 [some (.ref x), a1, a2, a3] (.ref x :: st) ah Q := wp_s i6_7 rfl rfl rfl rfl
theorem i6_8 : insAt 6 8 = some (.getfield 30, 11) := by decide +kernel
theorem r6_8 {E : aEnv} {c : Nat} {ah : aHp} {st : List Value} {Q : Option Value → aHp → Prop} {a0 a1 a2 a3 : Option Value} {a : Nat} : WP E c 6 8 [a0, a1, a2, a3] (.ref a :: st) ah Q = WPo (oGF (hg E ah a) 0 3) (fun v => WP E c 6 11 [a0, a1, a2, a3] (v :: st) ah Q) := wp_getf i6_8
theorem i6_11 : insAt 6 11 = some (.iconst 4, 12) := by decide +kernel
theorem r6_11 {E : aEnv} {c : Nat} {ah : aHp} {st : List Value} {Q : Option Value → aHp → Prop} {a0 a1 a2 a3 : Option Value} : WP E c 6 11 [a0, a1, a2, a3] (st) ah Q = WP E c 6 12 [a0, a1, a2, a3] (.int (4) :: st) ah Q := wp_s i6_11 rfl rfl rfl rfl
theorem i6_12 : insAt 6 12 = some (.if_icmp .ne 19, 15) := by decide +kernel
theorem r6_12 {E : aEnv} {c : Nat} {ah : aHp} {st : List Value} {Q : Option Value → aHp → Prop} {a0 a1 a2 a3 : Option Value} {x y : Int32} : WP E c 6 12 [a0, a1, a2, a3] (.int y :: .int x :: st) ah Q = if ¬ x = y then WP E c 6 19 [a0, a1, a2, a3] st ah Q else WP E c 6 15 [a0, a1, a2, a3] st ah Q := wp_j i6_12 rfl rfl rfl rfl
theorem i6_15 : insAt 6 15 = some (.iconst 1, 16) := by decide +kernel
theorem r6_15 {E : aEnv} {c : Nat} {ah : aHp} {st : List Value} {Q : Option Value → aHp → Prop} {a0 a1 a2 a3 : Option Value} : WP E c 6 15 [a0, a1, a2, a3] (st) ah Q = WP E c 6 16 [a0, a1, a2, a3] (.int (1) :: st) ah Q := wp_s i6_15 rfl rfl rfl rfl
theorem i6_16 : insAt 6 16 = some (.goto 20, 19) := by decide +kernel
theorem r6_16 {E : aEnv} {c : Nat} {ah : aHp} {st : List Value} {Q : Option Value → aHp → Prop} {a0 a1 a2 a3 : Option Value} : WP E c 6 16 [a0, a1, a2, a3] (st) ah Q = WP E c 6 20 [a0, a1, a2, a3] st ah Q := wp_s i6_16 rfl rfl rfl rfl
theorem i6_19 : insAt 6 19 = some (.iconst 0, 20) := by decide +kernel
theorem r6_19 {E : aEnv} {c : Nat} {ah : aHp} {st : List Value} {Q : Option Value → aHp → Prop} {a0 a1 a2 a3 : Option Value} : WP E c 6 19 [a0, a1, a2, a3] (st) ah Q = WP E c 6 20 [a0, a1, a2, a3] (.int (0) :: st) ah Q := wp_s i6_19 rfl rfl rfl rfl
theorem i6_20 : insAt 6 20 = some (.istore 1, 21) := by decide +kernel
theorem r6_20 {E : aEnv} {c : Nat} {ah : aHp} {st : List Value} {Q : Option Value → aHp → Prop} {a0 a1 a2 a3 : Option Value} {x : Int32} : WP E c 6 20 [a0, a1, a2, a3] (.int x :: st) ah Q = WP E c 6 21 [kil a0, some (.int x), a2, a3] (st) ah Q := wp_s i6_20 rfl rfl rfl rfl
theorem i6_21 : insAt 6 21 = some (.iload 1, 22) := by decide +kernel
theorem r6_21 {E : aEnv} {c : Nat} {ah : aHp} {st : List Value} {Q : Option Value → aHp → Prop} {a0 a2 a3 : Option Value} {x : Int32} : WP E c 6 21 [a0, some (.int x), a2, a3] (st) ah Q = WP E c 6 22 [a0, some (.int x), a2, a3] (.int x :: st) ah Q := wp_s i6_21 rfl rfl rfl rfl
theorem i6_22 : insAt 6 22 = some (.ifCond .eq 29, 25) := by decide +kernel
theorem r6_22 {E : aEnv} {c : Nat} {ah : aHp} {st : List Value} {Q : Option Value → aHp → Prop} {a0 a1 a2 a3 : Option Value} {x : Int32} : WP E c 6 22 [a0, a1, a2, a3] (.int x :: st) ah Q = if x = 0 then WP E c 6 29 [a0, a1, a2, a3] st ah Q else WP E c 6 25 [a0, a1, a2, a3] st ah Q := wp_j i6_22 rfl rfl rfl rfl
theorem i6_25 : insAt 6 25 = some (.aload 0, 26) := by decide +kernel
theorem r6_25 {E : aEnv} {c : Nat} {ah : aHp} {st : List Value} {Q : Option Value → aHp → Prop} {a1 a2 a3 : Option Value} {x : Nat} : WP E c 6 25 [some (.ref x), a1, a2, a3] (st) ah Q = WP E c 6 26 [some (.ref x), a1, a2, a3] (.ref x :: st) ah Q := wp_s i6_25 rfl rfl rfl rfl
theorem i6_26 : insAt 6 26 = some (.invokevirtual 12, 29) := by decide +kernel
theorem r6_26 {E : aEnv} {c : Nat} {ah ah1 : aHp} {r : Option Value} {st : List Value} {Q : Option Value → aHp → Prop} {a0 a1 a2 a3 : Option Value} {p0 : Nat} (h : EV E c 12 [.ref p0] ah r ah1) (h2 : oCI (hg E ah p0) = 0) (h3 : wds st ≤ 8) : WP E (c + 1) 6 26 [a0, a1, a2, a3] (.ref p0 :: st) ah Q = WP E (c + 1) 6 29 [a0, a1, a2, a3] (r.toList ++ st) ah1 Q := wp_call (As := [.ref p0]) i6_26 (fun _ => rfl) rfl mr12.1 (rcv_1 h2 mr12.2.2 (by decide)) h3 (by rw [mr12.2.1]; exact Nat.le_of_ble_eq_true rfl) h
theorem i6_29 : insAt 6 29 = some (.aload 0, 30) := by decide +kernel
theorem r6_29 {E : aEnv} {c : Nat} {ah : aHp} {st : List Value} {Q : Option Value → aHp → Prop} {a1 a2 a3 : Option Value} {x : Nat} : WP E c 6 29 [some (.ref x), a1, a2, a3] (st) ah Q = WP E c 6 30 [some (.ref x), a1, a2, a3] (.ref x :: st) ah Q := wp_s i6_29 rfl rfl rfl rfl
theorem i6_30 : insAt 6 30 = some (.getfield 51, 33) := by decide +kernel
theorem r6_30 {E : aEnv} {c : Nat} {ah : aHp} {st : List Value} {Q : Option Value → aHp → Prop} {a0 a1 a2 a3 : Option Value} {a : Nat} : WP E c 6 30 [a0, a1, a2, a3] (.ref a :: st) ah Q = WPo (oGF (hg E ah a) 0 5) (fun v => WP E c 6 33 [a0, a1, a2, a3] (v :: st) ah Q) := wp_getf i6_30
theorem i6_33 : insAt 6 33 = some (.lstore 2, 34) := by decide +kernel
theorem r6_33 {E : aEnv} {c : Nat} {ah : aHp} {st : List Value} {Q : Option Value → aHp → Prop} {a0 a1 a2 a3 : Option Value} {x : Int64} : WP E c 6 33 [a0, a1, a2, a3] (.long x :: st) ah Q = WP E c 6 34 [a0, kil a1, some (.long x), none] (st) ah Q := wp_s i6_33 rfl rfl rfl rfl
theorem i6_34 : insAt 6 34 = some (.aload 0, 35) := by decide +kernel
theorem r6_34 {E : aEnv} {c : Nat} {ah : aHp} {st : List Value} {Q : Option Value → aHp → Prop} {a1 a2 a3 : Option Value} {x : Nat} : WP E c 6 34 [some (.ref x), a1, a2, a3] (st) ah Q = WP E c 6 35 [some (.ref x), a1, a2, a3] (.ref x :: st) ah Q := wp_s i6_34 rfl rfl rfl rfl
theorem i6_35 : insAt 6 35 = some (.iconst 2, 36) := by decide +kernel
theorem r6_35 {E : aEnv} {c : Nat} {ah : aHp} {st : List Value} {Q : Option Value → aHp → Prop} {a0 a1 a2 a3 : Option Value} : WP E c 6 35 [a0, a1, a2, a3] (st) ah Q = WP E c 6 36 [a0, a1, a2, a3] (.int (2) :: st) ah Q := wp_s i6_35 rfl rfl rfl rfl
theorem i6_36 : insAt 6 36 = some (.invokevirtual 7, 39) := by decide +kernel
theorem r6_36 {E : aEnv} {c : Nat} {ah ah1 : aHp} {r : Option Value} {st : List Value} {Q : Option Value → aHp → Prop} {a0 a1 a2 a3 : Option Value} {p0 : Nat} {p1 : Int32} (h : EV E c 7 [.ref p0, .int p1] ah r ah1) (h2 : oCI (hg E ah p0) = 0) (h3 : wds st ≤ 8) : WP E (c + 1) 6 36 [a0, a1, a2, a3] (.int p1 :: .ref p0 :: st) ah Q = WP E (c + 1) 6 39 [a0, a1, a2, a3] (r.toList ++ st) ah1 Q := wp_call (As := [.ref p0, .int p1]) i6_36 (fun _ => rfl) rfl mr7.1 (rcv_1 h2 mr7.2.2 (by decide)) h3 (by rw [mr7.2.1]; exact Nat.le_of_ble_eq_true rfl) h
theorem i6_39 : insAt 6 39 = some (.iload 1, 40) := by decide +kernel
theorem r6_39 {E : aEnv} {c : Nat} {ah : aHp} {st : List Value} {Q : Option Value → aHp → Prop} {a0 a2 a3 : Option Value} {x : Int32} : WP E c 6 39 [a0, some (.int x), a2, a3] (st) ah Q = WP E c 6 40 [a0, some (.int x), a2, a3] (.int x :: st) ah Q := wp_s i6_39 rfl rfl rfl rfl
theorem i6_40 : insAt 6 40 = some (.ifCond .eq 48, 43) := by decide +kernel
theorem r6_40 {E : aEnv} {c : Nat} {ah : aHp} {st : List Value} {Q : Option Value → aHp → Prop} {a0 a1 a2 a3 : Option Value} {x : Int32} : WP E c 6 40 [a0, a1, a2, a3] (.int x :: st) ah Q = if x = 0 then WP E c 6 48 [a0, a1, a2, a3] st ah Q else WP E c 6 43 [a0, a1, a2, a3] st ah Q := wp_j i6_40 rfl rfl rfl rfl
theorem i6_43 : insAt 6 43 = some (.lload 2, 44) := by decide +kernel
theorem r6_43 {E : aEnv} {c : Nat} {ah : aHp} {st : List Value} {Q : Option Value → aHp → Prop} {a0 a1 a3 : Option Value} {x : Int64} : WP E c 6 43 [a0, a1, some (.long x), a3] (st) ah Q = WP E c 6 44 [a0, a1, some (.long x), a3] (.long x :: st) ah Q := wp_s i6_43 rfl rfl rfl rfl
theorem i6_44 : insAt 6 44 = some (.lneg, 45) := by decide +kernel
theorem r6_44 {E : aEnv} {c : Nat} {ah : aHp} {st : List Value} {Q : Option Value → aHp → Prop} {a0 a1 a2 a3 : Option Value} {x : Int64} : WP E c 6 44 [a0, a1, a2, a3] (.long x :: st) ah Q = WP E c 6 45 [a0, a1, a2, a3] (.long (-x) :: st) ah Q := wp_s i6_44 rfl rfl rfl rfl
theorem i6_45 : insAt 6 45 = some (.goto 49, 48) := by decide +kernel
theorem r6_45 {E : aEnv} {c : Nat} {ah : aHp} {st : List Value} {Q : Option Value → aHp → Prop} {a0 a1 a2 a3 : Option Value} : WP E c 6 45 [a0, a1, a2, a3] (st) ah Q = WP E c 6 49 [a0, a1, a2, a3] st ah Q := wp_s i6_45 rfl rfl rfl rfl
theorem i6_48 : insAt 6 48 = some (.lload 2, 49) := by decide +kernel
theorem r6_48 {E : aEnv} {c : Nat} {ah : aHp} {st : List Value} {Q : Option Value → aHp → Prop} {a0 a1 a3 : Option Value} {x : Int64} : WP E c 6 48 [a0, a1, some (.long x), a3] (st) ah Q = WP E c 6 49 [a0, a1, some (.long x), a3] (.long x :: st) ah Q := wp_s i6_48 rfl rfl rfl rfl
theorem i6_49 : insAt 6 49 = some (.lreturn, 50) := by decide +kernel
theorem r6_49 {E : aEnv} {c : Nat} {ah : aHp} {Q : Option Value → aHp → Prop} {a0 a1 a2 a3 : Option Value} {x : Int64} : WP E c 6 49 [a0, a1, a2, a3] ([.long x]) ah Q = Q (some (.long x)) ah := wp_rt i6_49 rfl
theorem e7 {E : aEnv} {c : Nat} {ah ahF : aHp} {r : Option Value} {p0 : Nat} {p1 : Int32} (h : WP E c 7 0 [some (.ref p0), some (.int p1)] [] ah (fun r1 x1 => r1 = r ∧ x1 = ahF)) : EV E c 7 [.ref p0, .int p1] ah r ahF := EV.of (by rw [mr7.2.1]; exact h)
theorem i7_0 : insAt 7 0 = some (.aload 0, 1) := by decide +kernel
theorem r7_0 {E : aEnv} {c : Nat} {ah : aHp} {st : List Value} {Q : Option Value → aHp → Prop} {a1 : Option Value} {x : Nat} : WP E c 7 0 [some (.ref x), a1] (st) ah Q = WP E c 7 1 [some (.ref x), a1] (.ref x :: st) ah Q := wp_s i7_0 rfl rfl rfl rfl
theorem i7_1 : insAt 7 1 = some (.getfield 60, 4) := by decide +kernel
theorem r7_1 {E : aEnv} {c : Nat} {ah : aHp} {st : List Value} {Q : Option Value → aHp → Prop} {a0 a1 : Option Value} {a : Nat} : WP E c 7 1 [a0, a1] (.ref a :: st) ah Q = WPo (oGF (hg E ah a) 0 6) (fun v => WP E c 7 4 [a0, a1] (v :: st) ah Q) := wp_getf i7_1
theorem i7_4 : insAt 7 4 = some (.ifCond .eq 8, 7) := by decide +kernel
theorem r7_4 {E : aEnv} {c : Nat} {ah : aHp} {st : List Value} {Q : Option Value → aHp → Prop} {a0 a1 : Option Value} {x : Int32} : WP E c 7 4 [a0, a1] (.int x :: st) ah Q = if x = 0 then WP E c 7 8 [a0, a1] st ah Q else WP E c 7 7 [a0, a1] st ah Q := wp_j i7_4 rfl rfl rfl rfl
theorem i7_7 : insAt 7 7 = some (.return_, 8) := by decide +kernel
theorem r7_7 {E : aEnv} {c : Nat} {ah : aHp} {Q : Option Value → aHp → Prop} {a0 a1 : Option Value} : WP E c 7 7 [a0, a1] ([]) ah Q = Q none ah := wp_rt i7_7 rfl
theorem i7_8 : insAt 7 8 = some (.aload 0, 9) := by decide +kernel
theorem r7_8 {E : aEnv} {c : Nat} {ah : aHp} {st : List Value} {Q : Option Value → aHp → Prop} {a1 : Option Value} {x : Nat} : WP E c 7 8 [some (.ref x), a1] (st) ah Q = WP E c 7 9 [some (.ref x), a1] (.ref x :: st) ah Q := wp_s i7_8 rfl rfl rfl rfl
theorem i7_9 : insAt 7 9 = some (.getfield 30, 12) := by decide +kernel
theorem r7_9 {E : aEnv} {c : Nat} {ah : aHp} {st : List Value} {Q : Option Value → aHp → Prop} {a0 a1 : Option Value} {a : Nat} : WP E c 7 9 [a0, a1] (.ref a :: st) ah Q = WPo (oGF (hg E ah a) 0 3) (fun v => WP E c 7 12 [a0, a1] (v :: st) ah Q) := wp_getf i7_9
theorem i7_12 : insAt 7 12 = some (.iload 1, 13) := by decide +kernel
theorem r7_12 {E : aEnv} {c : Nat} {ah : aHp} {st : List Value} {Q : Option Value → aHp → Prop} {a0 : Option Value} {x : Int32} : WP E c 7 12 [a0, some (.int x)] (st) ah Q = WP E c 7 13 [a0, some (.int x)] (.int x :: st) ah Q := wp_s i7_12 rfl rfl rfl rfl
theorem i7_13 : insAt 7 13 = some (.if_icmp .ne 23, 16) := by decide +kernel
theorem r7_13 {E : aEnv} {c : Nat} {ah : aHp} {st : List Value} {Q : Option Value → aHp → Prop} {a0 a1 : Option Value} {x y : Int32} : WP E c 7 13 [a0, a1] (.int y :: .int x :: st) ah Q = if ¬ x = y then WP E c 7 23 [a0, a1] st ah Q else WP E c 7 16 [a0, a1] st ah Q := wp_j i7_13 rfl rfl rfl rfl
theorem i7_16 : insAt 7 16 = some (.aload 0, 17) := by decide +kernel
theorem r7_16 {E : aEnv} {c : Nat} {ah : aHp} {st : List Value} {Q : Option Value → aHp → Prop} {a1 : Option Value} {x : Nat} : WP E c 7 16 [some (.ref x), a1] (st) ah Q = WP E c 7 17 [some (.ref x), a1] (.ref x :: st) ah Q := wp_s i7_16 rfl rfl rfl rfl
theorem i7_17 : insAt 7 17 = some (.invokevirtual 12, 20) := by decide +kernel
theorem r7_17 {E : aEnv} {c : Nat} {ah ah1 : aHp} {r : Option Value} {st : List Value} {Q : Option Value → aHp → Prop} {a0 a1 : Option Value} {p0 : Nat} (h : EV E c 12 [.ref p0] ah r ah1) (h2 : oCI (hg E ah p0) = 0) (h3 : wds st ≤ 8) : WP E (c + 1) 7 17 [a0, a1] (.ref p0 :: st) ah Q = WP E (c + 1) 7 20 [a0, a1] (r.toList ++ st) ah1 Q := wp_call (As := [.ref p0]) i7_17 (fun _ => rfl) rfl mr12.1 (rcv_1 h2 mr12.2.2 (by decide)) h3 (by rw [mr12.2.1]; exact Nat.le_of_ble_eq_true rfl) h
theorem i7_20 : insAt 7 20 = some (.goto 28, 23) := by decide +kernel
theorem r7_20 {E : aEnv} {c : Nat} {ah : aHp} {st : List Value} {Q : Option Value → aHp → Prop} {a0 a1 : Option Value} : WP E c 7 20 [a0, a1] (st) ah Q = WP E c 7 28 [a0, a1] st ah Q := wp_s i7_20 rfl rfl rfl rfl
theorem i7_23 : insAt 7 23 = some (.aload 0, 24) := by decide +kernel
theorem r7_23 {E : aEnv} {c : Nat} {ah : aHp} {st : List Value} {Q : Option Value → aHp → Prop} {a1 : Option Value} {x : Nat} : WP E c 7 23 [some (.ref x), a1] (st) ah Q = WP E c 7 24 [some (.ref x), a1] (.ref x :: st) ah Q := wp_s i7_23 rfl rfl rfl rfl
theorem i7_24 : insAt 7 24 = some (.iconst 2, 25) := by decide +kernel
theorem r7_24 {E : aEnv} {c : Nat} {ah : aHp} {st : List Value} {Q : Option Value → aHp → Prop} {a0 a1 : Option Value} : WP E c 7 24 [a0, a1] (st) ah Q = WP E c 7 25 [a0, a1] (.int (2) :: st) ah Q := wp_s i7_24 rfl rfl rfl rfl
theorem i7_25 : insAt 7 25 = some (.invokevirtual 8, 28) := by decide +kernel
theorem r7_25 {E : aEnv} {c : Nat} {ah ah1 : aHp} {r : Option Value} {st : List Value} {Q : Option Value → aHp → Prop} {a0 a1 : Option Value} {p0 : Nat} {p1 : Int32} (h : EV E c 8 [.ref p0, .int p1] ah r ah1) (h2 : oCI (hg E ah p0) = 0) (h3 : wds st ≤ 8) : WP E (c + 1) 7 25 [a0, a1] (.int p1 :: .ref p0 :: st) ah Q = WP E (c + 1) 7 28 [a0, a1] (r.toList ++ st) ah1 Q := wp_call (As := [.ref p0, .int p1]) i7_25 (fun _ => rfl) rfl mr8.1 (rcv_1 h2 mr8.2.2 (by decide)) h3 (by rw [mr8.2.1]; exact Nat.le_of_ble_eq_true rfl) h
theorem i7_28 : insAt 7 28 = some (.return_, 29) := by decide +kernel
theorem r7_28 {E : aEnv} {c : Nat} {ah : aHp} {Q : Option Value → aHp → Prop} {a0 a1 : Option Value} : WP E c 7 28 [a0, a1] ([]) ah Q = Q none ah := wp_rt i7_28 rfl
theorem e8 {E : aEnv} {c : Nat} {ah ahF : aHp} {r : Option Value} {p0 : Nat} {p1 : Int32} (h : WP E c 8 0 [some (.ref p0), some (.int p1)] [] ah (fun r1 x1 => r1 = r ∧ x1 = ahF)) : EV E c 8 [.ref p0, .int p1] ah r ahF := EV.of (by rw [mr8.2.1]; exact h)
theorem i8_0 : insAt 8 0 = some (.aload 0, 1) := by decide +kernel
theorem r8_0 {E : aEnv} {c : Nat} {ah : aHp} {st : List Value} {Q : Option Value → aHp → Prop} {a1 : Option Value} {x : Nat} : WP E c 8 0 [some (.ref x), a1] (st) ah Q = WP E c 8 1 [some (.ref x), a1] (.ref x :: st) ah Q := wp_s i8_0 rfl rfl rfl rfl
theorem i8_1 : insAt 8 1 = some (.getfield 60, 4) := by decide +kernel
theorem r8_1 {E : aEnv} {c : Nat} {ah : aHp} {st : List Value} {Q : Option Value → aHp → Prop} {a0 a1 : Option Value} {a : Nat} : WP E c 8 1 [a0, a1] (.ref a :: st) ah Q = WPo (oGF (hg E ah a) 0 6) (fun v => WP E c 8 4 [a0, a1] (v :: st) ah Q) := wp_getf i8_1
theorem i8_4 : insAt 8 4 = some (.ifCond .ne 32, 7) := by decide +kernel
theorem r8_4 {E : aEnv} {c : Nat} {ah : aHp} {st : List Value} {Q : Option Value → aHp → Prop} {a0 a1 : Option Value} {x : Int32} : WP E c 8 4 [a0, a1] (.int x :: st) ah Q = if ¬ x = 0 then WP E c 8 32 [a0, a1] st ah Q else WP E c 8 7 [a0, a1] st ah Q := wp_j i8_4 rfl rfl rfl rfl
theorem i8_7 : insAt 8 7 = some (.aload 0, 8) := by decide +kernel
theorem r8_7 {E : aEnv} {c : Nat} {ah : aHp} {st : List Value} {Q : Option Value → aHp → Prop} {a1 : Option Value} {x : Nat} : WP E c 8 7 [some (.ref x), a1] (st) ah Q = WP E c 8 8 [some (.ref x), a1] (.ref x :: st) ah Q := wp_s i8_7 rfl rfl rfl rfl
theorem i8_8 : insAt 8 8 = some (.aload 0, 9) := by decide +kernel
theorem r8_8 {E : aEnv} {c : Nat} {ah : aHp} {st : List Value} {Q : Option Value → aHp → Prop} {a1 : Option Value} {x : Nat} : WP E c 8 8 [some (.ref x), a1] (st) ah Q = WP E c 8 9 [some (.ref x), a1] (.ref x :: st) ah Q := wp_s i8_8 rfl rfl rfl rfl
theorem i8_9 : insAt 8 9 = some (.getfield 30, 12) := by decide +kernel
theorem r8_9 {E : aEnv} {c : Nat} {ah : aHp} {st : List Value} {Q : Option Value → aHp → Prop} {a0 a1 : Option Value} {a : Nat} : WP E c 8 9 [a0, a1] (.ref a :: st) ah Q = WPo (oGF (hg E ah a) 0 3) (fun v => WP E c 8 12 [a0, a1] (v :: st) ah Q) := wp_getf i8_9
theorem i8_12 : insAt 8 12 = some (.iconst 5, 13) := by decide +kernel
theorem r8_12 {E : aEnv} {c : Nat} {ah : aHp} {st : List Value} {Q : Option Value → aHp → Prop} {a0 a1 : Option Value} : WP E c 8 12 [a0, a1] (st) ah Q = WP E c 8 13 [a0, a1] (.int (5) :: st) ah Q := wp_s i8_12 rfl rfl rfl rfl
theorem i8_13 : insAt 8 13 = some (.if_icmp .ne 20, 16) := by decide +kernel
theorem r8_13 {E : aEnv} {c : Nat} {ah : aHp} {st : List Value} {Q : Option Value → aHp → Prop} {a0 a1 : Option Value} {x y : Int32} : WP E c 8 13 [a0, a1] (.int y :: .int x :: st) ah Q = if ¬ x = y then WP E c 8 20 [a0, a1] st ah Q else WP E c 8 16 [a0, a1] st ah Q := wp_j i8_13 rfl rfl rfl rfl
theorem i8_16 : insAt 8 16 = some (.iconst 1, 17) := by decide +kernel
theorem r8_16 {E : aEnv} {c : Nat} {ah : aHp} {st : List Value} {Q : Option Value → aHp → Prop} {a0 a1 : Option Value} : WP E c 8 16 [a0, a1] (st) ah Q = WP E c 8 17 [a0, a1] (.int (1) :: st) ah Q := wp_s i8_16 rfl rfl rfl rfl
theorem i8_17 : insAt 8 17 = some (.goto 21, 20) := by decide +kernel
theorem r8_17 {E : aEnv} {c : Nat} {ah : aHp} {st : List Value} {Q : Option Value → aHp → Prop} {a0 a1 : Option Value} : WP E c 8 17 [a0, a1] (st) ah Q = WP E c 8 21 [a0, a1] st ah Q := wp_s i8_17 rfl rfl rfl rfl
theorem i8_20 : insAt 8 20 = some (.iload 1, 21) := by decide +kernel
theorem r8_20 {E : aEnv} {c : Nat} {ah : aHp} {st : List Value} {Q : Option Value → aHp → Prop} {a0 : Option Value} {x : Int32} : WP E c 8 20 [a0, some (.int x)] (st) ah Q = WP E c 8 21 [a0, some (.int x)] (.int x :: st) ah Q := wp_s i8_20 rfl rfl rfl rfl
theorem i8_21 : insAt 8 21 = some (.putfield 60, 24) := by decide +kernel
theorem r8_21 {E : aEnv} {c : Nat} {ah : aHp} {st : List Value} {Q : Option Value → aHp → Prop} {a0 a1 : Option Value} {a : Nat} {v : Value} : WP E c 8 21 [a0, a1] (v :: .ref a :: st) ah Q = WPo (oPF (hg E ah a) 60 v) (fun e => WP E c 8 24 [a0, a1] st (hs E ah a e) Q) := wp_putf i8_21
theorem i8_24 : insAt 8 24 = some (.aload 0, 25) := by decide +kernel
theorem r8_24 {E : aEnv} {c : Nat} {ah : aHp} {st : List Value} {Q : Option Value → aHp → Prop} {a1 : Option Value} {x : Nat} : WP E c 8 24 [some (.ref x), a1] (st) ah Q = WP E c 8 25 [some (.ref x), a1] (.ref x :: st) ah Q := wp_s i8_24 rfl rfl rfl rfl
theorem i8_25 : insAt 8 25 = some (.aload 0, 26) := by decide +kernel
theorem r8_25 {E : aEnv} {c : Nat} {ah : aHp} {st : List Value} {Q : Option Value → aHp → Prop} {a1 : Option Value} {x : Nat} : WP E c 8 25 [some (.ref x), a1] (st) ah Q = WP E c 8 26 [some (.ref x), a1] (.ref x :: st) ah Q := wp_s i8_25 rfl rfl rfl rfl
theorem i8_26 : insAt 8 26 = some (.getfield 40, 29) := by decide +kernel
theorem r8_26 {E : aEnv} {c : Nat} {ah : aHp} {st : List Value} {Q : Option Value → aHp → Prop} {a0 a1 : Option Value} {a : Nat} : WP E c 8 26 [a0, a1] (.ref a :: st) ah Q = WPo (oGF (hg E ah a) 0 4) (fun v => WP E c 8 29 [a0, a1] (v :: st) ah Q) := wp_getf i8_26
theorem i8_29 : insAt 8 29 = some (.putfield 70, 32) := by decide +kernel
theorem r8_29 {E : aEnv} {c : Nat} {ah : aHp} {st : List Value} {Q : Option Value → aHp → Prop} {a0 a1 : Option Value} {a : Nat} {v : Value} : WP E c 8 29 [a0, a1] (v :: .ref a :: st) ah Q = WPo (oPF (hg E ah a) 70 v) (fun e => WP E c 8 32 [a0, a1] st (hs E ah a e) Q) := wp_putf i8_29
theorem i8_32 : insAt 8 32 = some (.return_, 33) := by decide +kernel
theorem r8_32 {E : aEnv} {c : Nat} {ah : aHp} {Q : Option Value → aHp → Prop} {a0 a1 : Option Value} : WP E c 8 32 [a0, a1] ([]) ah Q = Q none ah := wp_rt i8_32 rfl
theorem e9 {E : aEnv} {c : Nat} {ah ahF : aHp} {r : Option Value} {p0 : Nat} {p1 : Nat} (h : WP E c 9 0 [some (.ref p0), some (.ref p1), none] [] ah (fun r1 x1 => r1 = r ∧ x1 = ahF)) : EV E c 9 [.ref p0, .ref p1] ah r ahF := EV.of (by rw [mr9.2.1]; exact h)
theorem i9_0 : insAt 9 0 = some (.iconst 0, 1) := by decide +kernel
theorem r9_0 {E : aEnv} {c : Nat} {ah : aHp} {st : List Value} {Q : Option Value → aHp → Prop} {a0 a1 a2 : Option Value} : WP E c 9 0 [a0, a1, a2] (st) ah Q = WP E c 9 1 [a0, a1, a2] (.int (0) :: st) ah Q := wp_s i9_0 rfl rfl rfl rfl
theorem i9_1 : insAt 9 1 = some (.istore 2, 2) := by decide +kernel
theorem r9_1 {E : aEnv} {c : Nat} {ah : aHp} {st : List Value} {Q : Option Value → aHp → Prop} {a0 a1 a2 : Option Value} {x : Int32} : WP E c 9 1 [a0, a1, a2] (.int x :: st) ah Q = WP E c 9 2 [a0, kil a1, some (.int x)] (st) ah Q := wp_s i9_1 rfl rfl rfl rfl
theorem i9_2 : insAt 9 2 = some (.iload 2, 3) := by decide +kernel
theorem r9_2 {E : aEnv} {c : Nat} {ah : aHp} {st : List Value} {Q : Option Value → aHp → Prop} {a0 a1 : Option Value} {x : Int32} : WP E c 9 2 [a0, a1, some (.int x)] (st) ah Q = WP E c 9 3 [a0, a1, some (.int x)] (.int x :: st) ah Q := wp_s i9_2 rfl rfl rfl rfl
theorem i9_3 : insAt 9 3 = some (.aload 1, 4) := by decide +kernel
theorem r9_3 {E : aEnv} {c : Nat} {ah : aHp} {st : List Value} {Q : Option Value → aHp → Prop} {a0 a2 : Option Value} {x : Nat} : WP E c 9 3 [a0, some (.ref x), a2] (st) ah Q = WP E c 9 4 [a0, some (.ref x), a2] (.ref x :: st) ah Q := wp_s i9_3 rfl rfl rfl rfl
theorem r9_3n {E : aEnv} {c : Nat} {ah : aHp} {st : List Value} {Q : Option Value → aHp → Prop} {a0 a2 : Option Value} : WP E c 9 3 [a0, some .null, a2] (st) ah Q = WP E c 9 4 [a0, some .null, a2] (.null :: st) ah Q := wp_s i9_3 rfl rfl rfl rfl
theorem i9_4 : insAt 9 4 = some (.getfield 1050, 7) := by decide +kernel
theorem r9_4 {E : aEnv} {c : Nat} {ah : aHp} {st : List Value} {Q : Option Value → aHp → Prop} {a0 a1 a2 : Option Value} {a : Nat} : WP E c 9 4 [a0, a1, a2] (.ref a :: st) ah Q = WPo (oGF (hg E ah a) 1 5) (fun v => WP E c 9 7 [a0, a1, a2] (v :: st) ah Q) := wp_getf i9_4
theorem i9_7 : insAt 9 7 = some (.if_icmp .ge 60, 10) := by decide +kernel
theorem r9_7 {E : aEnv} {c : Nat} {ah : aHp} {st : List Value} {Q : Option Value → aHp → Prop} {a0 a1 a2 : Option Value} {x y : Int32} : WP E c 9 7 [a0, a1, a2] (.int y :: .int x :: st) ah Q = if y ≤ x then WP E c 9 60 [a0, a1, a2] st ah Q else WP E c 9 10 [a0, a1, a2] st ah Q := wp_j i9_7 rfl rfl rfl rfl
theorem i9_10 : insAt 9 10 = some (.aload 1, 11) := by decide +kernel
theorem r9_10 {E : aEnv} {c : Nat} {ah : aHp} {st : List Value} {Q : Option Value → aHp → Prop} {a0 a2 : Option Value} {x : Nat} : WP E c 9 10 [a0, some (.ref x), a2] (st) ah Q = WP E c 9 11 [a0, some (.ref x), a2] (.ref x :: st) ah Q := wp_s i9_10 rfl rfl rfl rfl
theorem r9_10n {E : aEnv} {c : Nat} {ah : aHp} {st : List Value} {Q : Option Value → aHp → Prop} {a0 a2 : Option Value} : WP E c 9 10 [a0, some .null, a2] (st) ah Q = WP E c 9 11 [a0, some .null, a2] (.null :: st) ah Q := wp_s i9_10 rfl rfl rfl rfl
theorem i9_11 : insAt 9 11 = some (.iload 2, 12) := by decide +kernel
theorem r9_11 {E : aEnv} {c : Nat} {ah : aHp} {st : List Value} {Q : Option Value → aHp → Prop} {a0 a1 : Option Value} {x : Int32} : WP E c 9 11 [a0, a1, some (.int x)] (st) ah Q = WP E c 9 12 [a0, a1, some (.int x)] (.int x :: st) ah Q := wp_s i9_11 rfl rfl rfl rfl
theorem i9_12 : insAt 9 12 = some (.invokevirtual 24, 15) := by decide +kernel
theorem r9_12 {E : aEnv} {c : Nat} {ah ah1 : aHp} {r : Option Value} {st : List Value} {Q : Option Value → aHp → Prop} {a0 a1 a2 : Option Value} {p0 : Nat} {p1 : Int32} (h : EV E c 24 [.ref p0, .int p1] ah r ah1) (h2 : oCI (hg E ah p0) = 1) (h3 : wds st ≤ 8) : WP E (c + 1) 9 12 [a0, a1, a2] (.int p1 :: .ref p0 :: st) ah Q = WP E (c + 1) 9 15 [a0, a1, a2] (r.toList ++ st) ah1 Q := wp_call (As := [.ref p0, .int p1]) i9_12 (fun _ => rfl) rfl mr24.1 (rcv_1 h2 mr24.2.2 (by decide)) h3 (by rw [mr24.2.1]; exact Nat.le_of_ble_eq_true rfl) h
theorem i9_15 : insAt 9 15 = some (.ifCond .eq 54, 18) := by decide +kernel
theorem r9_15 {E : aEnv} {c : Nat} {ah : aHp} {st : List Value} {Q : Option Value → aHp → Prop} {a0 a1 a2 : Option Value} {x : Int32} : WP E c 9 15 [a0, a1, a2] (.int x :: st) ah Q = if x = 0 then WP E c 9 54 [a0, a1, a2] st ah Q else WP E c 9 18 [a0, a1, a2] st ah Q := wp_j i9_15 rfl rfl rfl rfl
theorem i9_18 : insAt 9 18 = some (.aload 1, 19) := by decide +kernel
theorem r9_18 {E : aEnv} {c : Nat} {ah : aHp} {st : List Value} {Q : Option Value → aHp → Prop} {a0 a2 : Option Value} {x : Nat} : WP E c 9 18 [a0, some (.ref x), a2] (st) ah Q = WP E c 9 19 [a0, some (.ref x), a2] (.ref x :: st) ah Q := wp_s i9_18 rfl rfl rfl rfl
theorem r9_18n {E : aEnv} {c : Nat} {ah : aHp} {st : List Value} {Q : Option Value → aHp → Prop} {a0 a2 : Option Value} : WP E c 9 18 [a0, some .null, a2] (st) ah Q = WP E c 9 19 [a0, some .null, a2] (.null :: st) ah Q := wp_s i9_18 rfl rfl rfl rfl
theorem i9_19 : insAt 9 19 = some (.iload 2, 20) := by decide +kernel
theorem r9_19 {E : aEnv} {c : Nat} {ah : aHp} {st : List Value} {Q : Option Value → aHp → Prop} {a0 a1 : Option Value} {x : Int32} : WP E c 9 19 [a0, a1, some (.int x)] (st) ah Q = WP E c 9 20 [a0, a1, some (.int x)] (.int x :: st) ah Q := wp_s i9_19 rfl rfl rfl rfl
theorem i9_20 : insAt 9 20 = some (.invokevirtual 25, 23) := by decide +kernel
theorem r9_20 {E : aEnv} {c : Nat} {ah ah1 : aHp} {r : Option Value} {st : List Value} {Q : Option Value → aHp → Prop} {a0 a1 a2 : Option Value} {p0 : Nat} {p1 : Int32} (h : EV E c 25 [.ref p0, .int p1] ah r ah1) (h2 : oCI (hg E ah p0) = 1) (h3 : wds st ≤ 8) : WP E (c + 1) 9 20 [a0, a1, a2] (.int p1 :: .ref p0 :: st) ah Q = WP E (c + 1) 9 23 [a0, a1, a2] (r.toList ++ st) ah1 Q := wp_call (As := [.ref p0, .int p1]) i9_20 (fun _ => rfl) rfl mr25.1 (rcv_1 h2 mr25.2.2 (by decide)) h3 (by rw [mr25.2.1]; exact Nat.le_of_ble_eq_true rfl) h
theorem i9_23 : insAt 9 23 = some (.ifCond .lt 38, 26) := by decide +kernel
theorem r9_23 {E : aEnv} {c : Nat} {ah : aHp} {st : List Value} {Q : Option Value → aHp → Prop} {a0 a1 a2 : Option Value} {x : Int32} : WP E c 9 23 [a0, a1, a2] (.int x :: st) ah Q = if x < 0 then WP E c 9 38 [a0, a1, a2] st ah Q else WP E c 9 26 [a0, a1, a2] st ah Q := wp_j i9_23 rfl rfl rfl rfl
theorem i9_26 : insAt 9 26 = some (.aload 1, 27) := by decide +kernel
theorem r9_26 {E : aEnv} {c : Nat} {ah : aHp} {st : List Value} {Q : Option Value → aHp → Prop} {a0 a2 : Option Value} {x : Nat} : WP E c 9 26 [a0, some (.ref x), a2] (st) ah Q = WP E c 9 27 [a0, some (.ref x), a2] (.ref x :: st) ah Q := wp_s i9_26 rfl rfl rfl rfl
theorem r9_26n {E : aEnv} {c : Nat} {ah : aHp} {st : List Value} {Q : Option Value → aHp → Prop} {a0 a2 : Option Value} : WP E c 9 26 [a0, some .null, a2] (st) ah Q = WP E c 9 27 [a0, some .null, a2] (.null :: st) ah Q := wp_s i9_26 rfl rfl rfl rfl
theorem i9_27 : insAt 9 27 = some (.iload 2, 28) := by decide +kernel
theorem r9_27 {E : aEnv} {c : Nat} {ah : aHp} {st : List Value} {Q : Option Value → aHp → Prop} {a0 a1 : Option Value} {x : Int32} : WP E c 9 27 [a0, a1, some (.int x)] (st) ah Q = WP E c 9 28 [a0, a1, some (.int x)] (.int x :: st) ah Q := wp_s i9_27 rfl rfl rfl rfl
theorem i9_28 : insAt 9 28 = some (.invokevirtual 25, 31) := by decide +kernel
theorem r9_28 {E : aEnv} {c : Nat} {ah ah1 : aHp} {r : Option Value} {st : List Value} {Q : Option Value → aHp → Prop} {a0 a1 a2 : Option Value} {p0 : Nat} {p1 : Int32} (h : EV E c 25 [.ref p0, .int p1] ah r ah1) (h2 : oCI (hg E ah p0) = 1) (h3 : wds st ≤ 8) : WP E (c + 1) 9 28 [a0, a1, a2] (.int p1 :: .ref p0 :: st) ah Q = WP E (c + 1) 9 31 [a0, a1, a2] (r.toList ++ st) ah1 Q := wp_call (As := [.ref p0, .int p1]) i9_28 (fun _ => rfl) rfl mr25.1 (rcv_1 h2 mr25.2.2 (by decide)) h3 (by rw [mr25.2.1]; exact Nat.le_of_ble_eq_true rfl) h
theorem i9_31 : insAt 9 31 = some (.aload 1, 32) := by decide +kernel
theorem r9_31 {E : aEnv} {c : Nat} {ah : aHp} {st : List Value} {Q : Option Value → aHp → Prop} {a0 a2 : Option Value} {x : Nat} : WP E c 9 31 [a0, some (.ref x), a2] (st) ah Q = WP E c 9 32 [a0, some (.ref x), a2] (.ref x :: st) ah Q := wp_s i9_31 rfl rfl rfl rfl
theorem r9_31n {E : aEnv} {c : Nat} {ah : aHp} {st : List Value} {Q : Option Value → aHp → Prop} {a0 a2 : Option Value} : WP E c 9 31 [a0, some .null, a2] (st) ah Q = WP E c 9 32 [a0, some .null, a2] (.null :: st) ah Q := wp_s i9_31 rfl rfl rfl rfl
theorem i9_32 : insAt 9 32 = some (.getfield 1050, 35) := by decide +kernel
theorem r9_32 {E : aEnv} {c : Nat} {ah : aHp} {st : List Value} {Q : Option Value → aHp → Prop} {a0 a1 a2 : Option Value} {a : Nat} : WP E c 9 32 [a0, a1, a2] (.ref a :: st) ah Q = WPo (oGF (hg E ah a) 1 5) (fun v => WP E c 9 35 [a0, a1, a2] (v :: st) ah Q) := wp_getf i9_32
theorem i9_35 : insAt 9 35 = some (.if_icmp .le 54, 38) := by decide +kernel
theorem r9_35 {E : aEnv} {c : Nat} {ah : aHp} {st : List Value} {Q : Option Value → aHp → Prop} {a0 a1 a2 : Option Value} {x y : Int32} : WP E c 9 35 [a0, a1, a2] (.int y :: .int x :: st) ah Q = if x ≤ y then WP E c 9 54 [a0, a1, a2] st ah Q else WP E c 9 38 [a0, a1, a2] st ah Q := wp_j i9_35 rfl rfl rfl rfl
theorem i9_38 : insAt 9 38 = some (.aload 0, 39) := by decide +kernel
theorem r9_38 {E : aEnv} {c : Nat} {ah : aHp} {st : List Value} {Q : Option Value → aHp → Prop} {a1 a2 : Option Value} {x : Nat} : WP E c 9 38 [some (.ref x), a1, a2] (st) ah Q = WP E c 9 39 [some (.ref x), a1, a2] (.ref x :: st) ah Q := wp_s i9_38 rfl rfl rfl rfl
theorem i9_39 : insAt 9 39 = some (.iconst 5, 40) := by decide +kernel
theorem r9_39 {E : aEnv} {c : Nat} {ah : aHp} {st : List Value} {Q : Option Value → aHp → Prop} {a0 a1 a2 : Option Value} : WP E c 9 39 [a0, a1, a2] (st) ah Q = WP E c 9 40 [a0, a1, a2] (.int (5) :: st) ah Q := wp_s i9_39 rfl rfl rfl rfl
theorem i9_40 : insAt 9 40 = some (.putfield 60, 43) := by decide +kernel
theorem r9_40 {E : aEnv} {c : Nat} {ah : aHp} {st : List Value} {Q : Option Value → aHp → Prop} {a0 a1 a2 : Option Value} {a : Nat} {v : Value} : WP E c 9 40 [a0, a1, a2] (v :: .ref a :: st) ah Q = WPo (oPF (hg E ah a) 60 v) (fun e => WP E c 9 43 [a0, a1, a2] st (hs E ah a e) Q) := wp_putf i9_40
theorem i9_43 : insAt 9 43 = some (.aload 0, 44) := by decide +kernel
theorem r9_43 {E : aEnv} {c : Nat} {ah : aHp} {st : List Value} {Q : Option Value → aHp → Prop} {a1 a2 : Option Value} {x : Nat} : WP E c 9 43 [some (.ref x), a1, a2] (st) ah Q = WP E c 9 44 [some (.ref x), a1, a2] (.ref x :: st) ah Q := wp_s i9_43 rfl rfl rfl rfl
theorem i9_44 : insAt 9 44 = some (.aload 1, 45) := by decide +kernel
theorem r9_44 {E : aEnv} {c : Nat} {ah : aHp} {st : List Value} {Q : Option Value → aHp → Prop} {a0 a2 : Option Value} {x : Nat} : WP E c 9 44 [a0, some (.ref x), a2] (st) ah Q = WP E c 9 45 [a0, some (.ref x), a2] (.ref x :: st) ah Q := wp_s i9_44 rfl rfl rfl rfl
theorem r9_44n {E : aEnv} {c : Nat} {ah : aHp} {st : List Value} {Q : Option Value → aHp → Prop} {a0 a2 : Option Value} : WP E c 9 44 [a0, some .null, a2] (st) ah Q = WP E c 9 45 [a0, some .null, a2] (.null :: st) ah Q := wp_s i9_44 rfl rfl rfl rfl
theorem i9_45 : insAt 9 45 = some (.getfield 1032, 48) := by decide +kernel
theorem r9_45 {E : aEnv} {c : Nat} {ah : aHp} {st : List Value} {Q : Option Value → aHp → Prop} {a0 a1 a2 : Option Value} {a : Nat} : WP E c 9 45 [a0, a1, a2] (.ref a :: st) ah Q = WPo (oGF (hg E ah a) 1 3) (fun v => WP E c 9 48 [a0, a1, a2] (v :: st) ah Q) := wp_getf i9_45
theorem i9_48 : insAt 9 48 = some (.iload 2, 49) := by decide +kernel
theorem r9_48 {E : aEnv} {c : Nat} {ah : aHp} {st : List Value} {Q : Option Value → aHp → Prop} {a0 a1 : Option Value} {x : Int32} : WP E c 9 48 [a0, a1, some (.int x)] (st) ah Q = WP E c 9 49 [a0, a1, some (.int x)] (.int x :: st) ah Q := wp_s i9_48 rfl rfl rfl rfl
theorem i9_49 : insAt 9 49 = some (.iaload, 50) := by decide +kernel
theorem r9_49 {E : aEnv} {c : Nat} {ah : aHp} {st : List Value} {Q : Option Value → aHp → Prop} {a0 a1 a2 : Option Value} {i : Int32} {a : Nat} : WP E c 9 49 [a0, a1, a2] (.int i :: .ref a :: st) ah Q = WPo (gI E ah (.int i :: .ref a :: st)) (fun s9 => WP E c 9 50 [a0, a1, a2] s9 ah Q) := wp_hr i9_49 rfl rfl rfl rfl rfl rfl rfl rfl
theorem i9_50 : insAt 9 50 = some (.putfield 70, 53) := by decide +kernel
theorem r9_50 {E : aEnv} {c : Nat} {ah : aHp} {st : List Value} {Q : Option Value → aHp → Prop} {a0 a1 a2 : Option Value} {a : Nat} {v : Value} : WP E c 9 50 [a0, a1, a2] (v :: .ref a :: st) ah Q = WPo (oPF (hg E ah a) 70 v) (fun e => WP E c 9 53 [a0, a1, a2] st (hs E ah a e) Q) := wp_putf i9_50
theorem i9_53 : insAt 9 53 = some (.return_, 54) := by decide +kernel
theorem r9_53 {E : aEnv} {c : Nat} {ah : aHp} {Q : Option Value → aHp → Prop} {a0 a1 a2 : Option Value} : WP E c 9 53 [a0, a1, a2] ([]) ah Q = Q none ah := wp_rt i9_53 rfl
theorem i9_54 : insAt 9 54 = some (.iinc 2 1, 57) := by decide +kernel
theorem r9_54 {E : aEnv} {c : Nat} {ah : aHp} {st : List Value} {Q : Option Value → aHp → Prop} {a0 a1 : Option Value} {x : Int32} : WP E c 9 54 [a0, a1, some (.int x)] (st) ah Q = WP E c 9 57 [a0, kil a1, some (.int (x + 1))] (st) ah Q := wp_s i9_54 rfl rfl rfl rfl
theorem i9_57 : insAt 9 57 = some (.goto 2, 60) := by decide +kernel
theorem r9_57 {E : aEnv} {c : Nat} {ah : aHp} {st : List Value} {Q : Option Value → aHp → Prop} {a0 a1 a2 : Option Value} : WP E c 9 57 [a0, a1, a2] (st) ah Q = WP E c 9 2 [a0, a1, a2] st ah Q := wp_s i9_57 rfl rfl rfl rfl
theorem i9_60 : insAt 9 60 = some (.return_, 61) := by decide +kernel
theorem r9_60 {E : aEnv} {c : Nat} {ah : aHp} {Q : Option Value → aHp → Prop} {a0 a1 a2 : Option Value} : WP E c 9 60 [a0, a1, a2] ([]) ah Q = Q none ah := wp_rt i9_60 rfl
theorem e10 {E : aEnv} {c : Nat} {ah ahF : aHp} {r : Option Value} {p0 : Nat} (h : WP E c 10 0 [some (.ref p0)] [] ah (fun r1 x1 => r1 = r ∧ x1 = ahF)) : EV E c 10 [.ref p0] ah r ahF := EV.of (by rw [mr10.2.1]; exact h)
theorem i10_0 : insAt 10 0 = some (.aload 0, 1) := by decide +kernel
theorem r10_0 {E : aEnv} {c : Nat} {ah : aHp} {st : List Value} {Q : Option Value → aHp → Prop} {x : Nat} : WP E c 10 0 [some (.ref x)] (st) ah Q = WP E c 10 1 [some (.ref x)] (.ref x :: st) ah Q := wp_s i10_0 rfl rfl rfl rfl
theorem i10_1 : insAt 10 1 = some (.ldc 103, 3) := by decide +kernel
theorem r10_1 {E : aEnv} {c : Nat} {ah : aHp} {st : List Value} {Q : Option Value → aHp → Prop} {a0 : Option Value} : WP E c 10 1 [a0] (st) ah Q = WPo (gC E 103 st) (fun s9 => WP E c 10 3 [a0] s9 ah Q) := wp_hr i10_1 rfl rfl rfl rfl rfl rfl rfl rfl
theorem i10_3 : insAt 10 3 = some (.invokevirtual 11, 6) := by decide +kernel
theorem r10_3 {E : aEnv} {c : Nat} {ah ah1 : aHp} {r : Option Value} {st : List Value} {Q : Option Value → aHp → Prop} {a0 : Option Value} {p0 : Nat} {p1 : Nat} (h : EV E c 11 [.ref p0, .ref p1] ah r ah1) (h2 : oCI (hg E ah p0) = 0) (h3 : wds st ≤ 8) : WP E (c + 1) 10 3 [a0] (.ref p1 :: .ref p0 :: st) ah Q = WP E (c + 1) 10 6 [a0] (r.toList ++ st) ah1 Q := wp_call (As := [.ref p0, .ref p1]) i10_3 (fun _ => rfl) rfl mr11.1 (rcv_1 h2 mr11.2.2 (by decide)) h3 (by rw [mr11.2.1]; exact Nat.le_of_ble_eq_true rfl) h
theorem i10_6 : insAt 10 6 = some (.ifCond .eq 11, 9) := by decide +kernel
theorem r10_6 {E : aEnv} {c : Nat} {ah : aHp} {st : List Value} {Q : Option Value → aHp → Prop} {a0 : Option Value} {x : Int32} : WP E c 10 6 [a0] (.int x :: st) ah Q = if x = 0 then WP E c 10 11 [a0] st ah Q else WP E c 10 9 [a0] st ah Q := wp_j i10_6 rfl rfl rfl rfl
theorem i10_9 : insAt 10 9 = some (.iconst 0, 10) := by decide +kernel
theorem r10_9 {E : aEnv} {c : Nat} {ah : aHp} {st : List Value} {Q : Option Value → aHp → Prop} {a0 : Option Value} : WP E c 10 9 [a0] (st) ah Q = WP E c 10 10 [a0] (.int (0) :: st) ah Q := wp_s i10_9 rfl rfl rfl rfl
theorem i10_10 : insAt 10 10 = some (.ireturn, 11) := by decide +kernel
theorem r10_10 {E : aEnv} {c : Nat} {ah : aHp} {Q : Option Value → aHp → Prop} {a0 : Option Value} {x : Int32} : WP E c 10 10 [a0] ([.int x]) ah Q = Q (some (.int x)) ah := wp_rt i10_10 rfl
theorem i10_11 : insAt 10 11 = some (.aload 0, 12) := by decide +kernel
theorem r10_11 {E : aEnv} {c : Nat} {ah : aHp} {st : List Value} {Q : Option Value → aHp → Prop} {x : Nat} : WP E c 10 11 [some (.ref x)] (st) ah Q = WP E c 10 12 [some (.ref x)] (.ref x :: st) ah Q := wp_s i10_11 rfl rfl rfl rfl
theorem i10_12 : insAt 10 12 = some (.ldc 104, 14) := by decide +kernel
theorem r10_12 {E : aEnv} {c : Nat} {ah : aHp} {st : List Value} {Q : Option Value → aHp → Prop} {a0 : Option Value} : WP E c 10 12 [a0] (st) ah Q = WPo (gC E 104 st) (fun s9 => WP E c 10 14 [a0] s9 ah Q) := wp_hr i10_12 rfl rfl rfl rfl rfl rfl rfl rfl
theorem i10_14 : insAt 10 14 = some (.invokevirtual 11, 17) := by decide +kernel
theorem r10_14 {E : aEnv} {c : Nat} {ah ah1 : aHp} {r : Option Value} {st : List Value} {Q : Option Value → aHp → Prop} {a0 : Option Value} {p0 : Nat} {p1 : Nat} (h : EV E c 11 [.ref p0, .ref p1] ah r ah1) (h2 : oCI (hg E ah p0) = 0) (h3 : wds st ≤ 8) : WP E (c + 1) 10 14 [a0] (.ref p1 :: .ref p0 :: st) ah Q = WP E (c + 1) 10 17 [a0] (r.toList ++ st) ah1 Q := wp_call (As := [.ref p0, .ref p1]) i10_14 (fun _ => rfl) rfl mr11.1 (rcv_1 h2 mr11.2.2 (by decide)) h3 (by rw [mr11.2.1]; exact Nat.le_of_ble_eq_true rfl) h
theorem i10_17 : insAt 10 17 = some (.ifCond .eq 22, 20) := by decide +kernel
theorem r10_17 {E : aEnv} {c : Nat} {ah : aHp} {st : List Value} {Q : Option Value → aHp → Prop} {a0 : Option Value} {x : Int32} : WP E c 10 17 [a0] (.int x :: st) ah Q = if x = 0 then WP E c 10 22 [a0] st ah Q else WP E c 10 20 [a0] st ah Q := wp_j i10_17 rfl rfl rfl rfl
theorem i10_20 : insAt 10 20 = some (.iconst 1, 21) := by decide +kernel
theorem r10_20 {E : aEnv} {c : Nat} {ah : aHp} {st : List Value} {Q : Option Value → aHp → Prop} {a0 : Option Value} : WP E c 10 20 [a0] (st) ah Q = WP E c 10 21 [a0] (.int (1) :: st) ah Q := wp_s i10_20 rfl rfl rfl rfl
theorem i10_21 : insAt 10 21 = some (.ireturn, 22) := by decide +kernel
theorem r10_21 {E : aEnv} {c : Nat} {ah : aHp} {Q : Option Value → aHp → Prop} {a0 : Option Value} {x : Int32} : WP E c 10 21 [a0] ([.int x]) ah Q = Q (some (.int x)) ah := wp_rt i10_21 rfl
theorem i10_22 : insAt 10 22 = some (.aload 0, 23) := by decide +kernel
theorem r10_22 {E : aEnv} {c : Nat} {ah : aHp} {st : List Value} {Q : Option Value → aHp → Prop} {x : Nat} : WP E c 10 22 [some (.ref x)] (st) ah Q = WP E c 10 23 [some (.ref x)] (.ref x :: st) ah Q := wp_s i10_22 rfl rfl rfl rfl
theorem i10_23 : insAt 10 23 = some (.ldc 105, 25) := by decide +kernel
theorem r10_23 {E : aEnv} {c : Nat} {ah : aHp} {st : List Value} {Q : Option Value → aHp → Prop} {a0 : Option Value} : WP E c 10 23 [a0] (st) ah Q = WPo (gC E 105 st) (fun s9 => WP E c 10 25 [a0] s9 ah Q) := wp_hr i10_23 rfl rfl rfl rfl rfl rfl rfl rfl
theorem i10_25 : insAt 10 25 = some (.invokevirtual 11, 28) := by decide +kernel
theorem r10_25 {E : aEnv} {c : Nat} {ah ah1 : aHp} {r : Option Value} {st : List Value} {Q : Option Value → aHp → Prop} {a0 : Option Value} {p0 : Nat} {p1 : Nat} (h : EV E c 11 [.ref p0, .ref p1] ah r ah1) (h2 : oCI (hg E ah p0) = 0) (h3 : wds st ≤ 8) : WP E (c + 1) 10 25 [a0] (.ref p1 :: .ref p0 :: st) ah Q = WP E (c + 1) 10 28 [a0] (r.toList ++ st) ah1 Q := wp_call (As := [.ref p0, .ref p1]) i10_25 (fun _ => rfl) rfl mr11.1 (rcv_1 h2 mr11.2.2 (by decide)) h3 (by rw [mr11.2.1]; exact Nat.le_of_ble_eq_true rfl) h
theorem i10_28 : insAt 10 28 = some (.ifCond .eq 33, 31) := by decide +kernel
theorem r10_28 {E : aEnv} {c : Nat} {ah : aHp} {st : List Value} {Q : Option Value → aHp → Prop} {a0 : Option Value} {x : Int32} : WP E c 10 28 [a0] (.int x :: st) ah Q = if x = 0 then WP E c 10 33 [a0] st ah Q else WP E c 10 31 [a0] st ah Q := wp_j i10_28 rfl rfl rfl rfl
theorem i10_31 : insAt 10 31 = some (.iconst 2, 32) := by decide +kernel
theorem r10_31 {E : aEnv} {c : Nat} {ah : aHp} {st : List Value} {Q : Option Value → aHp → Prop} {a0 : Option Value} : WP E c 10 31 [a0] (st) ah Q = WP E c 10 32 [a0] (.int (2) :: st) ah Q := wp_s i10_31 rfl rfl rfl rfl
theorem i10_32 : insAt 10 32 = some (.ireturn, 33) := by decide +kernel
theorem r10_32 {E : aEnv} {c : Nat} {ah : aHp} {Q : Option Value → aHp → Prop} {a0 : Option Value} {x : Int32} : WP E c 10 32 [a0] ([.int x]) ah Q = Q (some (.int x)) ah := wp_rt i10_32 rfl
theorem i10_33 : insAt 10 33 = some (.aload 0, 34) := by decide +kernel
theorem r10_33 {E : aEnv} {c : Nat} {ah : aHp} {st : List Value} {Q : Option Value → aHp → Prop} {x : Nat} : WP E c 10 33 [some (.ref x)] (st) ah Q = WP E c 10 34 [some (.ref x)] (.ref x :: st) ah Q := wp_s i10_33 rfl rfl rfl rfl
theorem i10_34 : insAt 10 34 = some (.ldc 106, 36) := by decide +kernel
theorem r10_34 {E : aEnv} {c : Nat} {ah : aHp} {st : List Value} {Q : Option Value → aHp → Prop} {a0 : Option Value} : WP E c 10 34 [a0] (st) ah Q = WPo (gC E 106 st) (fun s9 => WP E c 10 36 [a0] s9 ah Q) := wp_hr i10_34 rfl rfl rfl rfl rfl rfl rfl rfl
theorem i10_36 : insAt 10 36 = some (.invokevirtual 11, 39) := by decide +kernel
theorem r10_36 {E : aEnv} {c : Nat} {ah ah1 : aHp} {r : Option Value} {st : List Value} {Q : Option Value → aHp → Prop} {a0 : Option Value} {p0 : Nat} {p1 : Nat} (h : EV E c 11 [.ref p0, .ref p1] ah r ah1) (h2 : oCI (hg E ah p0) = 0) (h3 : wds st ≤ 8) : WP E (c + 1) 10 36 [a0] (.ref p1 :: .ref p0 :: st) ah Q = WP E (c + 1) 10 39 [a0] (r.toList ++ st) ah1 Q := wp_call (As := [.ref p0, .ref p1]) i10_36 (fun _ => rfl) rfl mr11.1 (rcv_1 h2 mr11.2.2 (by decide)) h3 (by rw [mr11.2.1]; exact Nat.le_of_ble_eq_true rfl) h
theorem i10_39 : insAt 10 39 = some (.ifCond .eq 44, 42) := by decide +kernel
theorem r10_39 {E : aEnv} {c : Nat} {ah : aHp} {st : List Value} {Q : Option Value → aHp → Prop} {a0 : Option Value} {x : Int32} : WP E c 10 39 [a0] (.int x :: st) ah Q = if x = 0 then WP E c 10 44 [a0] st ah Q else WP E c 10 42 [a0] st ah Q := wp_j i10_39 rfl rfl rfl rfl
theorem i10_42 : insAt 10 42 = some (.iconst 3, 43) := by decide +kernel
theorem r10_42 {E : aEnv} {c : Nat} {ah : aHp} {st : List Value} {Q : Option Value → aHp → Prop} {a0 : Option Value} : WP E c 10 42 [a0] (st) ah Q = WP E c 10 43 [a0] (.int (3) :: st) ah Q := wp_s i10_42 rfl rfl rfl rfl
theorem i10_43 : insAt 10 43 = some (.ireturn, 44) := by decide +kernel
theorem r10_43 {E : aEnv} {c : Nat} {ah : aHp} {Q : Option Value → aHp → Prop} {a0 : Option Value} {x : Int32} : WP E c 10 43 [a0] ([.int x]) ah Q = Q (some (.int x)) ah := wp_rt i10_43 rfl
theorem i10_44 : insAt 10 44 = some (.aload 0, 45) := by decide +kernel
theorem r10_44 {E : aEnv} {c : Nat} {ah : aHp} {st : List Value} {Q : Option Value → aHp → Prop} {x : Nat} : WP E c 10 44 [some (.ref x)] (st) ah Q = WP E c 10 45 [some (.ref x)] (.ref x :: st) ah Q := wp_s i10_44 rfl rfl rfl rfl
theorem i10_45 : insAt 10 45 = some (.ldc 107, 47) := by decide +kernel
theorem r10_45 {E : aEnv} {c : Nat} {ah : aHp} {st : List Value} {Q : Option Value → aHp → Prop} {a0 : Option Value} : WP E c 10 45 [a0] (st) ah Q = WPo (gC E 107 st) (fun s9 => WP E c 10 47 [a0] s9 ah Q) := wp_hr i10_45 rfl rfl rfl rfl rfl rfl rfl rfl
theorem i10_47 : insAt 10 47 = some (.invokevirtual 11, 50) := by decide +kernel
theorem r10_47 {E : aEnv} {c : Nat} {ah ah1 : aHp} {r : Option Value} {st : List Value} {Q : Option Value → aHp → Prop} {a0 : Option Value} {p0 : Nat} {p1 : Nat} (h : EV E c 11 [.ref p0, .ref p1] ah r ah1) (h2 : oCI (hg E ah p0) = 0) (h3 : wds st ≤ 8) : WP E (c + 1) 10 47 [a0] (.ref p1 :: .ref p0 :: st) ah Q = WP E (c + 1) 10 50 [a0] (r.toList ++ st) ah1 Q := wp_call (As := [.ref p0, .ref p1]) i10_47 (fun _ => rfl) rfl mr11.1 (rcv_1 h2 mr11.2.2 (by decide)) h3 (by rw [mr11.2.1]; exact Nat.le_of_ble_eq_true rfl) h
theorem i10_50 : insAt 10 50 = some (.ifCond .eq 55, 53) := by decide +kernel
theorem r10_50 {E : aEnv} {c : Nat} {ah : aHp} {st : List Value} {Q : Option Value → aHp → Prop} {a0 : Option Value} {x : Int32} : WP E c 10 50 [a0] (.int x :: st) ah Q = if x = 0 then WP E c 10 55 [a0] st ah Q else WP E c 10 53 [a0] st ah Q := wp_j i10_50 rfl rfl rfl rfl
theorem i10_53 : insAt 10 53 = some (.iconst 4, 54) := by decide +kernel
theorem r10_53 {E : aEnv} {c : Nat} {ah : aHp} {st : List Value} {Q : Option Value → aHp → Prop} {a0 : Option Value} : WP E c 10 53 [a0] (st) ah Q = WP E c 10 54 [a0] (.int (4) :: st) ah Q := wp_s i10_53 rfl rfl rfl rfl
theorem i10_54 : insAt 10 54 = some (.ireturn, 55) := by decide +kernel
theorem r10_54 {E : aEnv} {c : Nat} {ah : aHp} {Q : Option Value → aHp → Prop} {a0 : Option Value} {x : Int32} : WP E c 10 54 [a0] ([.int x]) ah Q = Q (some (.int x)) ah := wp_rt i10_54 rfl
theorem i10_55 : insAt 10 55 = some (.aload 0, 56) := by decide +kernel
theorem r10_55 {E : aEnv} {c : Nat} {ah : aHp} {st : List Value} {Q : Option Value → aHp → Prop} {x : Nat} : WP E c 10 55 [some (.ref x)] (st) ah Q = WP E c 10 56 [some (.ref x)] (.ref x :: st) ah Q := wp_s i10_55 rfl rfl rfl rfl
theorem i10_56 : insAt 10 56 = some (.ldc 108, 58) := by decide +kernel
theorem r10_56 {E : aEnv} {c : Nat} {ah : aHp} {st : List Value} {Q : Option Value → aHp → Prop} {a0 : Option Value} : WP E c 10 56 [a0] (st) ah Q = WPo (gC E 108 st) (fun s9 => WP E c 10 58 [a0] s9 ah Q) := wp_hr i10_56 rfl rfl rfl rfl rfl rfl rfl rfl
theorem i10_58 : insAt 10 58 = some (.invokevirtual 11, 61) := by decide +kernel
theorem r10_58 {E : aEnv} {c : Nat} {ah ah1 : aHp} {r : Option Value} {st : List Value} {Q : Option Value → aHp → Prop} {a0 : Option Value} {p0 : Nat} {p1 : Nat} (h : EV E c 11 [.ref p0, .ref p1] ah r ah1) (h2 : oCI (hg E ah p0) = 0) (h3 : wds st ≤ 8) : WP E (c + 1) 10 58 [a0] (.ref p1 :: .ref p0 :: st) ah Q = WP E (c + 1) 10 61 [a0] (r.toList ++ st) ah1 Q := wp_call (As := [.ref p0, .ref p1]) i10_58 (fun _ => rfl) rfl mr11.1 (rcv_1 h2 mr11.2.2 (by decide)) h3 (by rw [mr11.2.1]; exact Nat.le_of_ble_eq_true rfl) h
theorem i10_61 : insAt 10 61 = some (.ifCond .eq 66, 64) := by decide +kernel
theorem r10_61 {E : aEnv} {c : Nat} {ah : aHp} {st : List Value} {Q : Option Value → aHp → Prop} {a0 : Option Value} {x : Int32} : WP E c 10 61 [a0] (.int x :: st) ah Q = if x = 0 then WP E c 10 66 [a0] st ah Q else WP E c 10 64 [a0] st ah Q := wp_j i10_61 rfl rfl rfl rfl
theorem i10_64 : insAt 10 64 = some (.iconst 5, 65) := by decide +kernel
theorem r10_64 {E : aEnv} {c : Nat} {ah : aHp} {st : List Value} {Q : Option Value → aHp → Prop} {a0 : Option Value} : WP E c 10 64 [a0] (st) ah Q = WP E c 10 65 [a0] (.int (5) :: st) ah Q := wp_s i10_64 rfl rfl rfl rfl
theorem i10_65 : insAt 10 65 = some (.ireturn, 66) := by decide +kernel
theorem r10_65 {E : aEnv} {c : Nat} {ah : aHp} {Q : Option Value → aHp → Prop} {a0 : Option Value} {x : Int32} : WP E c 10 65 [a0] ([.int x]) ah Q = Q (some (.int x)) ah := wp_rt i10_65 rfl
theorem i10_66 : insAt 10 66 = some (.aload 0, 67) := by decide +kernel
theorem r10_66 {E : aEnv} {c : Nat} {ah : aHp} {st : List Value} {Q : Option Value → aHp → Prop} {x : Nat} : WP E c 10 66 [some (.ref x)] (st) ah Q = WP E c 10 67 [some (.ref x)] (.ref x :: st) ah Q := wp_s i10_66 rfl rfl rfl rfl
theorem i10_67 : insAt 10 67 = some (.ldc 109, 69) := by decide +kernel
theorem r10_67 {E : aEnv} {c : Nat} {ah : aHp} {st : List Value} {Q : Option Value → aHp → Prop} {a0 : Option Value} : WP E c 10 67 [a0] (st) ah Q = WPo (gC E 109 st) (fun s9 => WP E c 10 69 [a0] s9 ah Q) := wp_hr i10_67 rfl rfl rfl rfl rfl rfl rfl rfl
theorem i10_69 : insAt 10 69 = some (.invokevirtual 11, 72) := by decide +kernel
theorem r10_69 {E : aEnv} {c : Nat} {ah ah1 : aHp} {r : Option Value} {st : List Value} {Q : Option Value → aHp → Prop} {a0 : Option Value} {p0 : Nat} {p1 : Nat} (h : EV E c 11 [.ref p0, .ref p1] ah r ah1) (h2 : oCI (hg E ah p0) = 0) (h3 : wds st ≤ 8) : WP E (c + 1) 10 69 [a0] (.ref p1 :: .ref p0 :: st) ah Q = WP E (c + 1) 10 72 [a0] (r.toList ++ st) ah1 Q := wp_call (As := [.ref p0, .ref p1]) i10_69 (fun _ => rfl) rfl mr11.1 (rcv_1 h2 mr11.2.2 (by decide)) h3 (by rw [mr11.2.1]; exact Nat.le_of_ble_eq_true rfl) h
theorem i10_72 : insAt 10 72 = some (.ifCond .eq 78, 75) := by decide +kernel
theorem r10_72 {E : aEnv} {c : Nat} {ah : aHp} {st : List Value} {Q : Option Value → aHp → Prop} {a0 : Option Value} {x : Int32} : WP E c 10 72 [a0] (.int x :: st) ah Q = if x = 0 then WP E c 10 78 [a0] st ah Q else WP E c 10 75 [a0] st ah Q := wp_j i10_72 rfl rfl rfl rfl
theorem i10_75 : insAt 10 75 = some (.iconst 6, 77) := by decide +kernel
theorem r10_75 {E : aEnv} {c : Nat} {ah : aHp} {st : List Value} {Q : Option Value → aHp → Prop} {a0 : Option Value} : WP E c 10 75 [a0] (st) ah Q = WP E c 10 77 [a0] (.int (6) :: st) ah Q := wp_s i10_75 rfl rfl rfl rfl
theorem i10_77 : insAt 10 77 = some (.ireturn, 78) := by decide +kernel
theorem r10_77 {E : aEnv} {c : Nat} {ah : aHp} {Q : Option Value → aHp → Prop} {a0 : Option Value} {x : Int32} : WP E c 10 77 [a0] ([.int x]) ah Q = Q (some (.int x)) ah := wp_rt i10_77 rfl
theorem i10_78 : insAt 10 78 = some (.aload 0, 79) := by decide +kernel
theorem r10_78 {E : aEnv} {c : Nat} {ah : aHp} {st : List Value} {Q : Option Value → aHp → Prop} {x : Nat} : WP E c 10 78 [some (.ref x)] (st) ah Q = WP E c 10 79 [some (.ref x)] (.ref x :: st) ah Q := wp_s i10_78 rfl rfl rfl rfl
theorem i10_79 : insAt 10 79 = some (.ldc 110, 81) := by decide +kernel
theorem r10_79 {E : aEnv} {c : Nat} {ah : aHp} {st : List Value} {Q : Option Value → aHp → Prop} {a0 : Option Value} : WP E c 10 79 [a0] (st) ah Q = WPo (gC E 110 st) (fun s9 => WP E c 10 81 [a0] s9 ah Q) := wp_hr i10_79 rfl rfl rfl rfl rfl rfl rfl rfl
theorem i10_81 : insAt 10 81 = some (.invokevirtual 11, 84) := by decide +kernel
theorem r10_81 {E : aEnv} {c : Nat} {ah ah1 : aHp} {r : Option Value} {st : List Value} {Q : Option Value → aHp → Prop} {a0 : Option Value} {p0 : Nat} {p1 : Nat} (h : EV E c 11 [.ref p0, .ref p1] ah r ah1) (h2 : oCI (hg E ah p0) = 0) (h3 : wds st ≤ 8) : WP E (c + 1) 10 81 [a0] (.ref p1 :: .ref p0 :: st) ah Q = WP E (c + 1) 10 84 [a0] (r.toList ++ st) ah1 Q := wp_call (As := [.ref p0, .ref p1]) i10_81 (fun _ => rfl) rfl mr11.1 (rcv_1 h2 mr11.2.2 (by decide)) h3 (by rw [mr11.2.1]; exact Nat.le_of_ble_eq_true rfl) h
theorem i10_84 : insAt 10 84 = some (.ifCond .eq 92, 87) := by decide +kernel
theorem r10_84 {E : aEnv} {c : Nat} {ah : aHp} {st : List Value} {Q : Option Value → aHp → Prop} {a0 : Option Value} {x : Int32} : WP E c 10 84 [a0] (.int x :: st) ah Q = if x = 0 then WP E c 10 92 [a0] st ah Q else WP E c 10 87 [a0] st ah Q := wp_j i10_84 rfl rfl rfl rfl
theorem i10_87 : insAt 10 87 = some (.iconst 7, 89) := by decide +kernel
theorem r10_87 {E : aEnv} {c : Nat} {ah : aHp} {st : List Value} {Q : Option Value → aHp → Prop} {a0 : Option Value} : WP E c 10 87 [a0] (st) ah Q = WP E c 10 89 [a0] (.int (7) :: st) ah Q := wp_s i10_87 rfl rfl rfl rfl
theorem i10_89 : insAt 10 89 = some (.goto 93, 92) := by decide +kernel
theorem r10_89 {E : aEnv} {c : Nat} {ah : aHp} {st : List Value} {Q : Option Value → aHp → Prop} {a0 : Option Value} : WP E c 10 89 [a0] (st) ah Q = WP E c 10 93 [a0] st ah Q := wp_s i10_89 rfl rfl rfl rfl
theorem i10_92 : insAt 10 92 = some (.iconst (-1), 93) := by decide +kernel
theorem r10_92 {E : aEnv} {c : Nat} {ah : aHp} {st : List Value} {Q : Option Value → aHp → Prop} {a0 : Option Value} : WP E c 10 92 [a0] (st) ah Q = WP E c 10 93 [a0] (.int ((-1)) :: st) ah Q := wp_s i10_92 rfl rfl rfl rfl
theorem i10_93 : insAt 10 93 = some (.ireturn, 94) := by decide +kernel
theorem r10_93 {E : aEnv} {c : Nat} {ah : aHp} {Q : Option Value → aHp → Prop} {a0 : Option Value} {x : Int32} : WP E c 10 93 [a0] ([.int x]) ah Q = Q (some (.int x)) ah := wp_rt i10_93 rfl
theorem e11 {E : aEnv} {c : Nat} {ah ahF : aHp} {r : Option Value} {p0 : Nat} {p1 : Nat} (h : WP E c 11 0 [some (.ref p0), some (.ref p1), none] [] ah (fun r1 x1 => r1 = r ∧ x1 = ahF)) : EV E c 11 [.ref p0, .ref p1] ah r ahF := EV.of (by rw [mr11.2.1]; exact h)
theorem i11_0 : insAt 11 0 = some (.aload 0, 1) := by decide +kernel
theorem r11_0 {E : aEnv} {c : Nat} {ah : aHp} {st : List Value} {Q : Option Value → aHp → Prop} {a1 a2 : Option Value} {x : Nat} : WP E c 11 0 [some (.ref x), a1, a2] (st) ah Q = WP E c 11 1 [some (.ref x), a1, a2] (.ref x :: st) ah Q := wp_s i11_0 rfl rfl rfl rfl
theorem i11_1 : insAt 11 1 = some (.getfield 30, 4) := by decide +kernel
theorem r11_1 {E : aEnv} {c : Nat} {ah : aHp} {st : List Value} {Q : Option Value → aHp → Prop} {a0 a1 a2 : Option Value} {a : Nat} : WP E c 11 1 [a0, a1, a2] (.ref a :: st) ah Q = WPo (oGF (hg E ah a) 0 3) (fun v => WP E c 11 4 [a0, a1, a2] (v :: st) ah Q) := wp_getf i11_1
theorem i11_4 : insAt 11 4 = some (.iconst 1, 5) := by decide +kernel
theorem r11_4 {E : aEnv} {c : Nat} {ah : aHp} {st : List Value} {Q : Option Value → aHp → Prop} {a0 a1 a2 : Option Value} : WP E c 11 4 [a0, a1, a2] (st) ah Q = WP E c 11 5 [a0, a1, a2] (.int (1) :: st) ah Q := wp_s i11_4 rfl rfl rfl rfl
theorem i11_5 : insAt 11 5 = some (.if_icmp .ne 24, 8) := by decide +kernel
theorem r11_5 {E : aEnv} {c : Nat} {ah : aHp} {st : List Value} {Q : Option Value → aHp → Prop} {a0 a1 a2 : Option Value} {x y : Int32} : WP E c 11 5 [a0, a1, a2] (.int y :: .int x :: st) ah Q = if ¬ x = y then WP E c 11 24 [a0, a1, a2] st ah Q else WP E c 11 8 [a0, a1, a2] st ah Q := wp_j i11_5 rfl rfl rfl rfl
theorem i11_8 : insAt 11 8 = some (.aload 0, 9) := by decide +kernel
theorem r11_8 {E : aEnv} {c : Nat} {ah : aHp} {st : List Value} {Q : Option Value → aHp → Prop} {a1 a2 : Option Value} {x : Nat} : WP E c 11 8 [some (.ref x), a1, a2] (st) ah Q = WP E c 11 9 [some (.ref x), a1, a2] (.ref x :: st) ah Q := wp_s i11_8 rfl rfl rfl rfl
theorem i11_9 : insAt 11 9 = some (.getfield 20, 12) := by decide +kernel
theorem r11_9 {E : aEnv} {c : Nat} {ah : aHp} {st : List Value} {Q : Option Value → aHp → Prop} {a0 a1 a2 : Option Value} {a : Nat} : WP E c 11 9 [a0, a1, a2] (.ref a :: st) ah Q = WPo (oGF (hg E ah a) 0 2) (fun v => WP E c 11 12 [a0, a1, a2] (v :: st) ah Q) := wp_getf i11_9
theorem i11_12 : insAt 11 12 = some (.aload 0, 13) := by decide +kernel
theorem r11_12 {E : aEnv} {c : Nat} {ah : aHp} {st : List Value} {Q : Option Value → aHp → Prop} {a1 a2 : Option Value} {x : Nat} : WP E c 11 12 [some (.ref x), a1, a2] (st) ah Q = WP E c 11 13 [some (.ref x), a1, a2] (.ref x :: st) ah Q := wp_s i11_12 rfl rfl rfl rfl
theorem i11_13 : insAt 11 13 = some (.getfield 40, 16) := by decide +kernel
theorem r11_13 {E : aEnv} {c : Nat} {ah : aHp} {st : List Value} {Q : Option Value → aHp → Prop} {a0 a1 a2 : Option Value} {a : Nat} : WP E c 11 13 [a0, a1, a2] (.ref a :: st) ah Q = WPo (oGF (hg E ah a) 0 4) (fun v => WP E c 11 16 [a0, a1, a2] (v :: st) ah Q) := wp_getf i11_13
theorem i11_16 : insAt 11 16 = some (.isub, 17) := by decide +kernel
theorem r11_16 {E : aEnv} {c : Nat} {ah : aHp} {st : List Value} {Q : Option Value → aHp → Prop} {a0 a1 a2 : Option Value} {x y : Int32} : WP E c 11 16 [a0, a1, a2] (.int y :: .int x :: st) ah Q = WP E c 11 17 [a0, a1, a2] (.int (x - y) :: st) ah Q := wp_s i11_16 rfl rfl rfl rfl
theorem i11_17 : insAt 11 17 = some (.aload 1, 18) := by decide +kernel
theorem r11_17 {E : aEnv} {c : Nat} {ah : aHp} {st : List Value} {Q : Option Value → aHp → Prop} {a0 a2 : Option Value} {x : Nat} : WP E c 11 17 [a0, some (.ref x), a2] (st) ah Q = WP E c 11 18 [a0, some (.ref x), a2] (.ref x :: st) ah Q := wp_s i11_17 rfl rfl rfl rfl
theorem r11_17n {E : aEnv} {c : Nat} {ah : aHp} {st : List Value} {Q : Option Value → aHp → Prop} {a0 a2 : Option Value} : WP E c 11 17 [a0, some .null, a2] (st) ah Q = WP E c 11 18 [a0, some .null, a2] (.null :: st) ah Q := wp_s i11_17 rfl rfl rfl rfl
theorem i11_18 : insAt 11 18 = some (.ldc_w 0, 21) := by decide +kernel
-- 11 18 .ldc_w 0
theorem i11_21 : insAt 11 21 = some (.if_icmp .eq 26, 24) := by decide +kernel
theorem r11_21 {E : aEnv} {c : Nat} {ah : aHp} {st : List Value} {Q : Option Value → aHp → Prop} {a0 a1 a2 : Option Value} {x y : Int32} : WP E c 11 21 [a0, a1, a2] (.int y :: .int x :: st) ah Q = if x = y then WP E c 11 26 [a0, a1, a2] st ah Q else WP E c 11 24 [a0, a1, a2] st ah Q := wp_j i11_21 rfl rfl rfl rfl
theorem i11_24 : insAt 11 24 = some (.iconst 0, 25) := by decide +kernel
theorem r11_24 {E : aEnv} {c : Nat} {ah : aHp} {st : List Value} {Q : Option Value → aHp → Prop} {a0 a1 a2 : Option Value} : WP E c 11 24 [a0, a1, a2] (st) ah Q = WP E c 11 25 [a0, a1, a2] (.int (0) :: st) ah Q := wp_s i11_24 rfl rfl rfl rfl
theorem i11_25 : insAt 11 25 = some (.freturn, 26) := by decide +kernel
theorem r11_25 {E : aEnv} {c : Nat} {ah : aHp} {Q : Option Value → aHp → Prop} {a0 a1 a2 : Option Value} {x : Int32} (hx : x = 0 ∨ x = 1) : WP E c 11 25 [a0, a1, a2] ([.int x]) ah Q = Q (some (.int x)) ah := wp_rt i11_25 (by simp only [rtA, if_pos hx])
theorem i11_26 : insAt 11 26 = some (.iconst 0, 27) := by decide +kernel
theorem r11_26 {E : aEnv} {c : Nat} {ah : aHp} {st : List Value} {Q : Option Value → aHp → Prop} {a0 a1 a2 : Option Value} : WP E c 11 26 [a0, a1, a2] (st) ah Q = WP E c 11 27 [a0, a1, a2] (.int (0) :: st) ah Q := wp_s i11_26 rfl rfl rfl rfl
theorem i11_27 : insAt 11 27 = some (.istore 2, 28) := by decide +kernel
theorem r11_27 {E : aEnv} {c : Nat} {ah : aHp} {st : List Value} {Q : Option Value → aHp → Prop} {a0 a1 a2 : Option Value} {x : Int32} : WP E c 11 27 [a0, a1, a2] (.int x :: st) ah Q = WP E c 11 28 [a0, kil a1, some (.int x)] (st) ah Q := wp_s i11_27 rfl rfl rfl rfl
theorem i11_28 : insAt 11 28 = some (.iload 2, 29) := by decide +kernel
theorem r11_28 {E : aEnv} {c : Nat} {ah : aHp} {st : List Value} {Q : Option Value → aHp → Prop} {a0 a1 : Option Value} {x : Int32} : WP E c 11 28 [a0, a1, some (.int x)] (st) ah Q = WP E c 11 29 [a0, a1, some (.int x)] (.int x :: st) ah Q := wp_s i11_28 rfl rfl rfl rfl
theorem i11_29 : insAt 11 29 = some (.aload 1, 30) := by decide +kernel
theorem r11_29 {E : aEnv} {c : Nat} {ah : aHp} {st : List Value} {Q : Option Value → aHp → Prop} {a0 a2 : Option Value} {x : Nat} : WP E c 11 29 [a0, some (.ref x), a2] (st) ah Q = WP E c 11 30 [a0, some (.ref x), a2] (.ref x :: st) ah Q := wp_s i11_29 rfl rfl rfl rfl
theorem r11_29n {E : aEnv} {c : Nat} {ah : aHp} {st : List Value} {Q : Option Value → aHp → Prop} {a0 a2 : Option Value} : WP E c 11 29 [a0, some .null, a2] (st) ah Q = WP E c 11 30 [a0, some .null, a2] (.null :: st) ah Q := wp_s i11_29 rfl rfl rfl rfl
theorem i11_30 : insAt 11 30 = some (.ldc_w 0, 33) := by decide +kernel
-- 11 30 .ldc_w 0
theorem i11_33 : insAt 11 33 = some (.if_icmp .ge 62, 36) := by decide +kernel
theorem r11_33 {E : aEnv} {c : Nat} {ah : aHp} {st : List Value} {Q : Option Value → aHp → Prop} {a0 a1 a2 : Option Value} {x y : Int32} : WP E c 11 33 [a0, a1, a2] (.int y :: .int x :: st) ah Q = if y ≤ x then WP E c 11 62 [a0, a1, a2] st ah Q else WP E c 11 36 [a0, a1, a2] st ah Q := wp_j i11_33 rfl rfl rfl rfl
theorem i11_36 : insAt 11 36 = some (.aload 0, 37) := by decide +kernel
theorem r11_36 {E : aEnv} {c : Nat} {ah : aHp} {st : List Value} {Q : Option Value → aHp → Prop} {a1 a2 : Option Value} {x : Nat} : WP E c 11 36 [some (.ref x), a1, a2] (st) ah Q = WP E c 11 37 [some (.ref x), a1, a2] (.ref x :: st) ah Q := wp_s i11_36 rfl rfl rfl rfl
theorem i11_37 : insAt 11 37 = some (.aload 0, 38) := by decide +kernel
theorem r11_37 {E : aEnv} {c : Nat} {ah : aHp} {st : List Value} {Q : Option Value → aHp → Prop} {a1 a2 : Option Value} {x : Nat} : WP E c 11 37 [some (.ref x), a1, a2] (st) ah Q = WP E c 11 38 [some (.ref x), a1, a2] (.ref x :: st) ah Q := wp_s i11_37 rfl rfl rfl rfl
theorem i11_38 : insAt 11 38 = some (.getfield 40, 41) := by decide +kernel
theorem r11_38 {E : aEnv} {c : Nat} {ah : aHp} {st : List Value} {Q : Option Value → aHp → Prop} {a0 a1 a2 : Option Value} {a : Nat} : WP E c 11 38 [a0, a1, a2] (.ref a :: st) ah Q = WPo (oGF (hg E ah a) 0 4) (fun v => WP E c 11 41 [a0, a1, a2] (v :: st) ah Q) := wp_getf i11_38
theorem i11_41 : insAt 11 41 = some (.iload 2, 42) := by decide +kernel
theorem r11_41 {E : aEnv} {c : Nat} {ah : aHp} {st : List Value} {Q : Option Value → aHp → Prop} {a0 a1 : Option Value} {x : Int32} : WP E c 11 41 [a0, a1, some (.int x)] (st) ah Q = WP E c 11 42 [a0, a1, some (.int x)] (.int x :: st) ah Q := wp_s i11_41 rfl rfl rfl rfl
theorem i11_42 : insAt 11 42 = some (.iadd, 43) := by decide +kernel
theorem r11_42 {E : aEnv} {c : Nat} {ah : aHp} {st : List Value} {Q : Option Value → aHp → Prop} {a0 a1 a2 : Option Value} {x y : Int32} : WP E c 11 42 [a0, a1, a2] (.int y :: .int x :: st) ah Q = WP E c 11 43 [a0, a1, a2] (.int (x + y) :: st) ah Q := wp_s i11_42 rfl rfl rfl rfl
theorem i11_43 : insAt 11 43 = some (.invokevirtual 15, 46) := by decide +kernel
theorem r11_43 {E : aEnv} {c : Nat} {ah ah1 : aHp} {r : Option Value} {st : List Value} {Q : Option Value → aHp → Prop} {a0 a1 a2 : Option Value} {p0 : Nat} {p1 : Int32} (h : EV E c 15 [.ref p0, .int p1] ah r ah1) (h2 : oCI (hg E ah p0) = 0) (h3 : wds st ≤ 8) : WP E (c + 1) 11 43 [a0, a1, a2] (.int p1 :: .ref p0 :: st) ah Q = WP E (c + 1) 11 46 [a0, a1, a2] (r.toList ++ st) ah1 Q := wp_call (As := [.ref p0, .int p1]) i11_43 (fun _ => rfl) rfl mr15.1 (rcv_1 h2 mr15.2.2 (by decide)) h3 (by rw [mr15.2.1]; exact Nat.le_of_ble_eq_true rfl) h
theorem i11_46 : insAt 11 46 = some (.aload 1, 47) := by decide +kernel
theorem r11_46 {E : aEnv} {c : Nat} {ah : aHp} {st : List Value} {Q : Option Value → aHp → Prop} {a0 a2 : Option Value} {x : Nat} : WP E c 11 46 [a0, some (.ref x), a2] (st) ah Q = WP E c 11 47 [a0, some (.ref x), a2] (.ref x :: st) ah Q := wp_s i11_46 rfl rfl rfl rfl
theorem r11_46n {E : aEnv} {c : Nat} {ah : aHp} {st : List Value} {Q : Option Value → aHp → Prop} {a0 a2 : Option Value} : WP E c 11 46 [a0, some .null, a2] (st) ah Q = WP E c 11 47 [a0, some .null, a2] (.null :: st) ah Q := wp_s i11_46 rfl rfl rfl rfl
theorem i11_47 : insAt 11 47 = some (.iload 2, 48) := by decide +kernel
theorem r11_47 {E : aEnv} {c : Nat} {ah : aHp} {st : List Value} {Q : Option Value → aHp → Prop} {a0 a1 : Option Value} {x : Int32} : WP E c 11 47 [a0, a1, some (.int x)] (st) ah Q = WP E c 11 48 [a0, a1, some (.int x)] (.int x :: st) ah Q := wp_s i11_47 rfl rfl rfl rfl
theorem i11_48 : insAt 11 48 = some (.ldc_w 1, 51) := by decide +kernel
-- 11 48 .ldc_w 1
theorem i11_51 : insAt 11 51 = some (.if_icmp .eq 56, 54) := by decide +kernel
theorem r11_51 {E : aEnv} {c : Nat} {ah : aHp} {st : List Value} {Q : Option Value → aHp → Prop} {a0 a1 a2 : Option Value} {x y : Int32} : WP E c 11 51 [a0, a1, a2] (.int y :: .int x :: st) ah Q = if x = y then WP E c 11 56 [a0, a1, a2] st ah Q else WP E c 11 54 [a0, a1, a2] st ah Q := wp_j i11_51 rfl rfl rfl rfl
theorem i11_54 : insAt 11 54 = some (.iconst 0, 55) := by decide +kernel
theorem r11_54 {E : aEnv} {c : Nat} {ah : aHp} {st : List Value} {Q : Option Value → aHp → Prop} {a0 a1 a2 : Option Value} : WP E c 11 54 [a0, a1, a2] (st) ah Q = WP E c 11 55 [a0, a1, a2] (.int (0) :: st) ah Q := wp_s i11_54 rfl rfl rfl rfl
theorem i11_55 : insAt 11 55 = some (.freturn, 56) := by decide +kernel
theorem r11_55 {E : aEnv} {c : Nat} {ah : aHp} {Q : Option Value → aHp → Prop} {a0 a1 a2 : Option Value} {x : Int32} (hx : x = 0 ∨ x = 1) : WP E c 11 55 [a0, a1, a2] ([.int x]) ah Q = Q (some (.int x)) ah := wp_rt i11_55 (by simp only [rtA, if_pos hx])
theorem i11_56 : insAt 11 56 = some (.iinc 2 1, 59) := by decide +kernel
theorem r11_56 {E : aEnv} {c : Nat} {ah : aHp} {st : List Value} {Q : Option Value → aHp → Prop} {a0 a1 : Option Value} {x : Int32} : WP E c 11 56 [a0, a1, some (.int x)] (st) ah Q = WP E c 11 59 [a0, kil a1, some (.int (x + 1))] (st) ah Q := wp_s i11_56 rfl rfl rfl rfl
theorem i11_59 : insAt 11 59 = some (.goto 28, 62) := by decide +kernel
theorem r11_59 {E : aEnv} {c : Nat} {ah : aHp} {st : List Value} {Q : Option Value → aHp → Prop} {a0 a1 a2 : Option Value} : WP E c 11 59 [a0, a1, a2] (st) ah Q = WP E c 11 28 [a0, a1, a2] st ah Q := wp_s i11_59 rfl rfl rfl rfl
theorem i11_62 : insAt 11 62 = some (.iconst 1, 63) := by decide +kernel
theorem r11_62 {E : aEnv} {c : Nat} {ah : aHp} {st : List Value} {Q : Option Value → aHp → Prop} {a0 a1 a2 : Option Value} : WP E c 11 62 [a0, a1, a2] (st) ah Q = WP E c 11 63 [a0, a1, a2] (.int (1) :: st) ah Q := wp_s i11_62 rfl rfl rfl rfl
theorem i11_63 : insAt 11 63 = some (.freturn, 64) := by decide +kernel
theorem r11_63 {E : aEnv} {c : Nat} {ah : aHp} {Q : Option Value → aHp → Prop} {a0 a1 a2 : Option Value} {x : Int32} (hx : x = 0 ∨ x = 1) : WP E c 11 63 [a0, a1, a2] ([.int x]) ah Q = Q (some (.int x)) ah := wp_rt i11_63 (by simp only [rtA, if_pos hx])
theorem e12 {E : aEnv} {c : Nat} {ah ahF : aHp} {r : Option Value} {p0 : Nat} (h : WP E c 12 0 [some (.ref p0), none] [] ah (fun r1 x1 => r1 = r ∧ x1 = ahF)) : EV E c 12 [.ref p0] ah r ahF := EV.of (by rw [mr12.2.1]; exact h)
theorem i12_0 : insAt 12 0 = some (.aload 0, 1) := by decide +kernel
theorem r12_0 {E : aEnv} {c : Nat} {ah : aHp} {st : List Value} {Q : Option Value → aHp → Prop} {a1 : Option Value} {x : Nat} : WP E c 12 0 [some (.ref x), a1] (st) ah Q = WP E c 12 1 [some (.ref x), a1] (.ref x :: st) ah Q := wp_s i12_0 rfl rfl rfl rfl
theorem i12_1 : insAt 12 1 = some (.getfield 20, 4) := by decide +kernel
theorem r12_1 {E : aEnv} {c : Nat} {ah : aHp} {st : List Value} {Q : Option Value → aHp → Prop} {a0 a1 : Option Value} {a : Nat} : WP E c 12 1 [a0, a1] (.ref a :: st) ah Q = WPo (oGF (hg E ah a) 0 2) (fun v => WP E c 12 4 [a0, a1] (v :: st) ah Q) := wp_getf i12_1
theorem i12_4 : insAt 12 4 = some (.aload 0, 5) := by decide +kernel
theorem r12_4 {E : aEnv} {c : Nat} {ah : aHp} {st : List Value} {Q : Option Value → aHp → Prop} {a1 : Option Value} {x : Nat} : WP E c 12 4 [some (.ref x), a1] (st) ah Q = WP E c 12 5 [some (.ref x), a1] (.ref x :: st) ah Q := wp_s i12_4 rfl rfl rfl rfl
theorem i12_5 : insAt 12 5 = some (.getfield 10, 8) := by decide +kernel
theorem r12_5 {E : aEnv} {c : Nat} {ah : aHp} {st : List Value} {Q : Option Value → aHp → Prop} {a0 a1 : Option Value} {a : Nat} : WP E c 12 5 [a0, a1] (.ref a :: st) ah Q = WPo (oGF (hg E ah a) 0 1) (fun v => WP E c 12 8 [a0, a1] (v :: st) ah Q) := wp_getf i12_5
theorem i12_8 : insAt 12 8 = some (.if_icmp .ge 50, 11) := by decide +kernel
theorem r12_8 {E : aEnv} {c : Nat} {ah : aHp} {st : List Value} {Q : Option Value → aHp → Prop} {a0 a1 : Option Value} {x y : Int32} : WP E c 12 8 [a0, a1] (.int y :: .int x :: st) ah Q = if y ≤ x then WP E c 12 50 [a0, a1] st ah Q else WP E c 12 11 [a0, a1] st ah Q := wp_j i12_8 rfl rfl rfl rfl
theorem i12_11 : insAt 12 11 = some (.aload 0, 12) := by decide +kernel
theorem r12_11 {E : aEnv} {c : Nat} {ah : aHp} {st : List Value} {Q : Option Value → aHp → Prop} {a1 : Option Value} {x : Nat} : WP E c 12 11 [some (.ref x), a1] (st) ah Q = WP E c 12 12 [some (.ref x), a1] (.ref x :: st) ah Q := wp_s i12_11 rfl rfl rfl rfl
theorem i12_12 : insAt 12 12 = some (.aload 0, 13) := by decide +kernel
theorem r12_12 {E : aEnv} {c : Nat} {ah : aHp} {st : List Value} {Q : Option Value → aHp → Prop} {a1 : Option Value} {x : Nat} : WP E c 12 12 [some (.ref x), a1] (st) ah Q = WP E c 12 13 [some (.ref x), a1] (.ref x :: st) ah Q := wp_s i12_12 rfl rfl rfl rfl
theorem i12_13 : insAt 12 13 = some (.getfield 20, 16) := by decide +kernel
theorem r12_13 {E : aEnv} {c : Nat} {ah : aHp} {st : List Value} {Q : Option Value → aHp → Prop} {a0 a1 : Option Value} {a : Nat} : WP E c 12 13 [a0, a1] (.ref a :: st) ah Q = WPo (oGF (hg E ah a) 0 2) (fun v => WP E c 12 16 [a0, a1] (v :: st) ah Q) := wp_getf i12_13
theorem i12_16 : insAt 12 16 = some (.invokevirtual 15, 19) := by decide +kernel
theorem r12_16 {E : aEnv} {c : Nat} {ah ah1 : aHp} {r : Option Value} {st : List Value} {Q : Option Value → aHp → Prop} {a0 a1 : Option Value} {p0 : Nat} {p1 : Int32} (h : EV E c 15 [.ref p0, .int p1] ah r ah1) (h2 : oCI (hg E ah p0) = 0) (h3 : wds st ≤ 8) : WP E (c + 1) 12 16 [a0, a1] (.int p1 :: .ref p0 :: st) ah Q = WP E (c + 1) 12 19 [a0, a1] (r.toList ++ st) ah1 Q := wp_call (As := [.ref p0, .int p1]) i12_16 (fun _ => rfl) rfl mr15.1 (rcv_1 h2 mr15.2.2 (by decide)) h3 (by rw [mr15.2.1]; exact Nat.le_of_ble_eq_true rfl) h
theorem i12_19 : insAt 12 19 = some (.iconst 32, 21) := by decide +kernel
theorem r12_19 {E : aEnv} {c : Nat} {ah : aHp} {st : List Value} {Q : Option Value → aHp → Prop} {a0 a1 : Option Value} : WP E c 12 19 [a0, a1] (st) ah Q = WP E c 12 21 [a0, a1] (.int (32) :: st) ah Q := wp_s i12_19 rfl rfl rfl rfl
theorem i12_21 : insAt 12 21 = some (.if_icmp .eq 37, 24) := by decide +kernel
theorem r12_21 {E : aEnv} {c : Nat} {ah : aHp} {st : List Value} {Q : Option Value → aHp → Prop} {a0 a1 : Option Value} {x y : Int32} : WP E c 12 21 [a0, a1] (.int y :: .int x :: st) ah Q = if x = y then WP E c 12 37 [a0, a1] st ah Q else WP E c 12 24 [a0, a1] st ah Q := wp_j i12_21 rfl rfl rfl rfl
theorem i12_24 : insAt 12 24 = some (.aload 0, 25) := by decide +kernel
theorem r12_24 {E : aEnv} {c : Nat} {ah : aHp} {st : List Value} {Q : Option Value → aHp → Prop} {a1 : Option Value} {x : Nat} : WP E c 12 24 [some (.ref x), a1] (st) ah Q = WP E c 12 25 [some (.ref x), a1] (.ref x :: st) ah Q := wp_s i12_24 rfl rfl rfl rfl
theorem i12_25 : insAt 12 25 = some (.aload 0, 26) := by decide +kernel
theorem r12_25 {E : aEnv} {c : Nat} {ah : aHp} {st : List Value} {Q : Option Value → aHp → Prop} {a1 : Option Value} {x : Nat} : WP E c 12 25 [some (.ref x), a1] (st) ah Q = WP E c 12 26 [some (.ref x), a1] (.ref x :: st) ah Q := wp_s i12_25 rfl rfl rfl rfl
theorem i12_26 : insAt 12 26 = some (.getfield 20, 29) := by decide +kernel
theorem r12_26 {E : aEnv} {c : Nat} {ah : aHp} {st : List Value} {Q : Option Value → aHp → Prop} {a0 a1 : Option Value} {a : Nat} : WP E c 12 26 [a0, a1] (.ref a :: st) ah Q = WPo (oGF (hg E ah a) 0 2) (fun v => WP E c 12 29 [a0, a1] (v :: st) ah Q) := wp_getf i12_26
theorem i12_29 : insAt 12 29 = some (.invokevirtual 15, 32) := by decide +kernel
theorem r12_29 {E : aEnv} {c : Nat} {ah ah1 : aHp} {r : Option Value} {st : List Value} {Q : Option Value → aHp → Prop} {a0 a1 : Option Value} {p0 : Nat} {p1 : Int32} (h : EV E c 15 [.ref p0, .int p1] ah r ah1) (h2 : oCI (hg E ah p0) = 0) (h3 : wds st ≤ 8) : WP E (c + 1) 12 29 [a0, a1] (.int p1 :: .ref p0 :: st) ah Q = WP E (c + 1) 12 32 [a0, a1] (r.toList ++ st) ah1 Q := wp_call (As := [.ref p0, .int p1]) i12_29 (fun _ => rfl) rfl mr15.1 (rcv_1 h2 mr15.2.2 (by decide)) h3 (by rw [mr15.2.1]; exact Nat.le_of_ble_eq_true rfl) h
theorem i12_32 : insAt 12 32 = some (.iconst 10, 34) := by decide +kernel
theorem r12_32 {E : aEnv} {c : Nat} {ah : aHp} {st : List Value} {Q : Option Value → aHp → Prop} {a0 a1 : Option Value} : WP E c 12 32 [a0, a1] (st) ah Q = WP E c 12 34 [a0, a1] (.int (10) :: st) ah Q := wp_s i12_32 rfl rfl rfl rfl
theorem i12_34 : insAt 12 34 = some (.if_icmp .ne 50, 37) := by decide +kernel
theorem r12_34 {E : aEnv} {c : Nat} {ah : aHp} {st : List Value} {Q : Option Value → aHp → Prop} {a0 a1 : Option Value} {x y : Int32} : WP E c 12 34 [a0, a1] (.int y :: .int x :: st) ah Q = if ¬ x = y then WP E c 12 50 [a0, a1] st ah Q else WP E c 12 37 [a0, a1] st ah Q := wp_j i12_34 rfl rfl rfl rfl
theorem i12_37 : insAt 12 37 = some (.aload 0, 38) := by decide +kernel
theorem r12_37 {E : aEnv} {c : Nat} {ah : aHp} {st : List Value} {Q : Option Value → aHp → Prop} {a1 : Option Value} {x : Nat} : WP E c 12 37 [some (.ref x), a1] (st) ah Q = WP E c 12 38 [some (.ref x), a1] (.ref x :: st) ah Q := wp_s i12_37 rfl rfl rfl rfl
theorem i12_38 : insAt 12 38 = some (.dup, 39) := by decide +kernel
theorem r12_38 {E : aEnv} {c : Nat} {ah : aHp} {st : List Value} {Q : Option Value → aHp → Prop} {a0 a1 : Option Value} {x : Nat} : WP E c 12 38 [a0, a1] (.ref x :: st) ah Q = WP E c 12 39 [a0, a1] (.ref x :: .ref x :: st) ah Q := wp_s i12_38 rfl rfl rfl rfl
theorem r12_38i {E : aEnv} {c : Nat} {ah : aHp} {st : List Value} {Q : Option Value → aHp → Prop} {a0 a1 : Option Value} {x : Int32} : WP E c 12 38 [a0, a1] (.int x :: st) ah Q = WP E c 12 39 [a0, a1] (.int x :: .int x :: st) ah Q := wp_s i12_38 rfl rfl rfl rfl
theorem i12_39 : insAt 12 39 = some (.getfield 20, 42) := by decide +kernel
theorem r12_39 {E : aEnv} {c : Nat} {ah : aHp} {st : List Value} {Q : Option Value → aHp → Prop} {a0 a1 : Option Value} {a : Nat} : WP E c 12 39 [a0, a1] (.ref a :: st) ah Q = WPo (oGF (hg E ah a) 0 2) (fun v => WP E c 12 42 [a0, a1] (v :: st) ah Q) := wp_getf i12_39
theorem i12_42 : insAt 12 42 = some (.iconst 1, 43) := by decide +kernel
theorem r12_42 {E : aEnv} {c : Nat} {ah : aHp} {st : List Value} {Q : Option Value → aHp → Prop} {a0 a1 : Option Value} : WP E c 12 42 [a0, a1] (st) ah Q = WP E c 12 43 [a0, a1] (.int (1) :: st) ah Q := wp_s i12_42 rfl rfl rfl rfl
theorem i12_43 : insAt 12 43 = some (.iadd, 44) := by decide +kernel
theorem r12_43 {E : aEnv} {c : Nat} {ah : aHp} {st : List Value} {Q : Option Value → aHp → Prop} {a0 a1 : Option Value} {x y : Int32} : WP E c 12 43 [a0, a1] (.int y :: .int x :: st) ah Q = WP E c 12 44 [a0, a1] (.int (x + y) :: st) ah Q := wp_s i12_43 rfl rfl rfl rfl
theorem i12_44 : insAt 12 44 = some (.putfield 20, 47) := by decide +kernel
theorem r12_44 {E : aEnv} {c : Nat} {ah : aHp} {st : List Value} {Q : Option Value → aHp → Prop} {a0 a1 : Option Value} {a : Nat} {v : Value} : WP E c 12 44 [a0, a1] (v :: .ref a :: st) ah Q = WPo (oPF (hg E ah a) 20 v) (fun e => WP E c 12 47 [a0, a1] st (hs E ah a e) Q) := wp_putf i12_44
theorem i12_47 : insAt 12 47 = some (.goto 0, 50) := by decide +kernel
theorem r12_47 {E : aEnv} {c : Nat} {ah : aHp} {st : List Value} {Q : Option Value → aHp → Prop} {a0 a1 : Option Value} : WP E c 12 47 [a0, a1] (st) ah Q = WP E c 12 0 [a0, a1] st ah Q := wp_s i12_47 rfl rfl rfl rfl
theorem i12_50 : insAt 12 50 = some (.aload 0, 51) := by decide +kernel
theorem r12_50 {E : aEnv} {c : Nat} {ah : aHp} {st : List Value} {Q : Option Value → aHp → Prop} {a1 : Option Value} {x : Nat} : WP E c 12 50 [some (.ref x), a1] (st) ah Q = WP E c 12 51 [some (.ref x), a1] (.ref x :: st) ah Q := wp_s i12_50 rfl rfl rfl rfl
theorem i12_51 : insAt 12 51 = some (.aload 0, 52) := by decide +kernel
theorem r12_51 {E : aEnv} {c : Nat} {ah : aHp} {st : List Value} {Q : Option Value → aHp → Prop} {a1 : Option Value} {x : Nat} : WP E c 12 51 [some (.ref x), a1] (st) ah Q = WP E c 12 52 [some (.ref x), a1] (.ref x :: st) ah Q := wp_s i12_51 rfl rfl rfl rfl
theorem i12_52 : insAt 12 52 = some (.getfield 20, 55) := by decide +kernel
theorem r12_52 {E : aEnv} {c : Nat} {ah : aHp} {st : List Value} {Q : Option Value → aHp → Prop} {a0 a1 : Option Value} {a : Nat} : WP E c 12 52 [a0, a1] (.ref a :: st) ah Q = WPo (oGF (hg E ah a) 0 2) (fun v => WP E c 12 55 [a0, a1] (v :: st) ah Q) := wp_getf i12_52
theorem i12_55 : insAt 12 55 = some (.putfield 40, 58) := by decide +kernel
theorem r12_55 {E : aEnv} {c : Nat} {ah : aHp} {st : List Value} {Q : Option Value → aHp → Prop} {a0 a1 : Option Value} {a : Nat} {v : Value} : WP E c 12 55 [a0, a1] (v :: .ref a :: st) ah Q = WPo (oPF (hg E ah a) 40 v) (fun e => WP E c 12 58 [a0, a1] st (hs E ah a e) Q) := wp_putf i12_55
theorem i12_58 : insAt 12 58 = some (.aload 0, 59) := by decide +kernel
theorem r12_58 {E : aEnv} {c : Nat} {ah : aHp} {st : List Value} {Q : Option Value → aHp → Prop} {a1 : Option Value} {x : Nat} : WP E c 12 58 [some (.ref x), a1] (st) ah Q = WP E c 12 59 [some (.ref x), a1] (.ref x :: st) ah Q := wp_s i12_58 rfl rfl rfl rfl
theorem i12_59 : insAt 12 59 = some (.aload 0, 60) := by decide +kernel
theorem r12_59 {E : aEnv} {c : Nat} {ah : aHp} {st : List Value} {Q : Option Value → aHp → Prop} {a1 : Option Value} {x : Nat} : WP E c 12 59 [some (.ref x), a1] (st) ah Q = WP E c 12 60 [some (.ref x), a1] (.ref x :: st) ah Q := wp_s i12_59 rfl rfl rfl rfl
theorem i12_60 : insAt 12 60 = some (.aload 0, 61) := by decide +kernel
theorem r12_60 {E : aEnv} {c : Nat} {ah : aHp} {st : List Value} {Q : Option Value → aHp → Prop} {a1 : Option Value} {x : Nat} : WP E c 12 60 [some (.ref x), a1] (st) ah Q = WP E c 12 61 [some (.ref x), a1] (.ref x :: st) ah Q := wp_s i12_60 rfl rfl rfl rfl
theorem i12_61 : insAt 12 61 = some (.getfield 20, 64) := by decide +kernel
theorem r12_61 {E : aEnv} {c : Nat} {ah : aHp} {st : List Value} {Q : Option Value → aHp → Prop} {a0 a1 : Option Value} {a : Nat} : WP E c 12 61 [a0, a1] (.ref a :: st) ah Q = WPo (oGF (hg E ah a) 0 2) (fun v => WP E c 12 64 [a0, a1] (v :: st) ah Q) := wp_getf i12_61
theorem i12_64 : insAt 12 64 = some (.invokevirtual 14, 67) := by decide +kernel
theorem r12_64 {E : aEnv} {c : Nat} {ah ah1 : aHp} {r : Option Value} {st : List Value} {Q : Option Value → aHp → Prop} {a0 a1 : Option Value} {p0 : Nat} {p1 : Int32} (h : EV E c 14 [.ref p0, .int p1] ah r ah1) (h2 : oCI (hg E ah p0) = 0) (h3 : wds st ≤ 8) : WP E (c + 1) 12 64 [a0, a1] (.int p1 :: .ref p0 :: st) ah Q = WP E (c + 1) 12 67 [a0, a1] (r.toList ++ st) ah1 Q := wp_call (As := [.ref p0, .int p1]) i12_64 (fun _ => rfl) rfl mr14.1 (rcv_1 h2 mr14.2.2 (by decide)) h3 (by rw [mr14.2.1]; exact Nat.le_of_ble_eq_true rfl) h
theorem i12_67 : insAt 12 67 = some (.putfield 30, 70) := by decide +kernel
theorem r12_67 {E : aEnv} {c : Nat} {ah : aHp} {st : List Value} {Q : Option Value → aHp → Prop} {a0 a1 : Option Value} {a : Nat} {v : Value} : WP E c 12 67 [a0, a1] (v :: .ref a :: st) ah Q = WPo (oPF (hg E ah a) 30 v) (fun e => WP E c 12 70 [a0, a1] st (hs E ah a e) Q) := wp_putf i12_67
theorem i12_70 : insAt 12 70 = some (.aload 0, 71) := by decide +kernel
theorem r12_70 {E : aEnv} {c : Nat} {ah : aHp} {st : List Value} {Q : Option Value → aHp → Prop} {a1 : Option Value} {x : Nat} : WP E c 12 70 [some (.ref x), a1] (st) ah Q = WP E c 12 71 [some (.ref x), a1] (.ref x :: st) ah Q := wp_s i12_70 rfl rfl rfl rfl
theorem i12_71 : insAt 12 71 = some (.getfield 30, 74) := by decide +kernel
theorem r12_71 {E : aEnv} {c : Nat} {ah : aHp} {st : List Value} {Q : Option Value → aHp → Prop} {a0 a1 : Option Value} {a : Nat} : WP E c 12 71 [a0, a1] (.ref a :: st) ah Q = WPo (oGF (hg E ah a) 0 3) (fun v => WP E c 12 74 [a0, a1] (v :: st) ah Q) := wp_getf i12_71
theorem i12_74 : insAt 12 74 = some (.ifCond .eq 87, 77) := by decide +kernel
theorem r12_74 {E : aEnv} {c : Nat} {ah : aHp} {st : List Value} {Q : Option Value → aHp → Prop} {a0 a1 : Option Value} {x : Int32} : WP E c 12 74 [a0, a1] (.int x :: st) ah Q = if x = 0 then WP E c 12 87 [a0, a1] st ah Q else WP E c 12 77 [a0, a1] st ah Q := wp_j i12_74 rfl rfl rfl rfl
theorem i12_77 : insAt 12 77 = some (.aload 0, 78) := by decide +kernel
theorem r12_77 {E : aEnv} {c : Nat} {ah : aHp} {st : List Value} {Q : Option Value → aHp → Prop} {a1 : Option Value} {x : Nat} : WP E c 12 77 [some (.ref x), a1] (st) ah Q = WP E c 12 78 [some (.ref x), a1] (.ref x :: st) ah Q := wp_s i12_77 rfl rfl rfl rfl
theorem i12_78 : insAt 12 78 = some (.dup, 79) := by decide +kernel
theorem r12_78 {E : aEnv} {c : Nat} {ah : aHp} {st : List Value} {Q : Option Value → aHp → Prop} {a0 a1 : Option Value} {x : Nat} : WP E c 12 78 [a0, a1] (.ref x :: st) ah Q = WP E c 12 79 [a0, a1] (.ref x :: .ref x :: st) ah Q := wp_s i12_78 rfl rfl rfl rfl
theorem r12_78i {E : aEnv} {c : Nat} {ah : aHp} {st : List Value} {Q : Option Value → aHp → Prop} {a0 a1 : Option Value} {x : Int32} : WP E c 12 78 [a0, a1] (.int x :: st) ah Q = WP E c 12 79 [a0, a1] (.int x :: .int x :: st) ah Q := wp_s i12_78 rfl rfl rfl rfl
theorem i12_79 : insAt 12 79 = some (.getfield 20, 82) := by decide +kernel
theorem r12_79 {E : aEnv} {c : Nat} {ah : aHp} {st : List Value} {Q : Option Value → aHp → Prop} {a0 a1 : Option Value} {a : Nat} : WP E c 12 79 [a0, a1] (.ref a :: st) ah Q = WPo (oGF (hg E ah a) 0 2) (fun v => WP E c 12 82 [a0, a1] (v :: st) ah Q) := wp_getf i12_79
theorem i12_82 : insAt 12 82 = some (.iconst 1, 83) := by decide +kernel
theorem r12_82 {E : aEnv} {c : Nat} {ah : aHp} {st : List Value} {Q : Option Value → aHp → Prop} {a0 a1 : Option Value} : WP E c 12 82 [a0, a1] (st) ah Q = WP E c 12 83 [a0, a1] (.int (1) :: st) ah Q := wp_s i12_82 rfl rfl rfl rfl
theorem i12_83 : insAt 12 83 = some (.iadd, 84) := by decide +kernel
theorem r12_83 {E : aEnv} {c : Nat} {ah : aHp} {st : List Value} {Q : Option Value → aHp → Prop} {a0 a1 : Option Value} {x y : Int32} : WP E c 12 83 [a0, a1] (.int y :: .int x :: st) ah Q = WP E c 12 84 [a0, a1] (.int (x + y) :: st) ah Q := wp_s i12_83 rfl rfl rfl rfl
theorem i12_84 : insAt 12 84 = some (.putfield 20, 87) := by decide +kernel
theorem r12_84 {E : aEnv} {c : Nat} {ah : aHp} {st : List Value} {Q : Option Value → aHp → Prop} {a0 a1 : Option Value} {a : Nat} {v : Value} : WP E c 12 84 [a0, a1] (v :: .ref a :: st) ah Q = WPo (oPF (hg E ah a) 20 v) (fun e => WP E c 12 87 [a0, a1] st (hs E ah a e) Q) := wp_putf i12_84
theorem i12_87 : insAt 12 87 = some (.aload 0, 88) := by decide +kernel
theorem r12_87 {E : aEnv} {c : Nat} {ah : aHp} {st : List Value} {Q : Option Value → aHp → Prop} {a1 : Option Value} {x : Nat} : WP E c 12 87 [some (.ref x), a1] (st) ah Q = WP E c 12 88 [some (.ref x), a1] (.ref x :: st) ah Q := wp_s i12_87 rfl rfl rfl rfl
theorem i12_88 : insAt 12 88 = some (.getfield 30, 91) := by decide +kernel
theorem r12_88 {E : aEnv} {c : Nat} {ah : aHp} {st : List Value} {Q : Option Value → aHp → Prop} {a0 a1 : Option Value} {a : Nat} : WP E c 12 88 [a0, a1] (.ref a :: st) ah Q = WPo (oGF (hg E ah a) 0 3) (fun v => WP E c 12 91 [a0, a1] (v :: st) ah Q) := wp_getf i12_88
theorem i12_91 : insAt 12 91 = some (.iconst 1, 92) := by decide +kernel
theorem r12_91 {E : aEnv} {c : Nat} {ah : aHp} {st : List Value} {Q : Option Value → aHp → Prop} {a0 a1 : Option Value} : WP E c 12 91 [a0, a1] (st) ah Q = WP E c 12 92 [a0, a1] (.int (1) :: st) ah Q := wp_s i12_91 rfl rfl rfl rfl
theorem i12_92 : insAt 12 92 = some (.if_icmp .eq 103, 95) := by decide +kernel
theorem r12_92 {E : aEnv} {c : Nat} {ah : aHp} {st : List Value} {Q : Option Value → aHp → Prop} {a0 a1 : Option Value} {x y : Int32} : WP E c 12 92 [a0, a1] (.int y :: .int x :: st) ah Q = if x = y then WP E c 12 103 [a0, a1] st ah Q else WP E c 12 95 [a0, a1] st ah Q := wp_j i12_92 rfl rfl rfl rfl
theorem i12_95 : insAt 12 95 = some (.aload 0, 96) := by decide +kernel
theorem r12_95 {E : aEnv} {c : Nat} {ah : aHp} {st : List Value} {Q : Option Value → aHp → Prop} {a1 : Option Value} {x : Nat} : WP E c 12 95 [some (.ref x), a1] (st) ah Q = WP E c 12 96 [some (.ref x), a1] (.ref x :: st) ah Q := wp_s i12_95 rfl rfl rfl rfl
theorem i12_96 : insAt 12 96 = some (.getfield 30, 99) := by decide +kernel
theorem r12_96 {E : aEnv} {c : Nat} {ah : aHp} {st : List Value} {Q : Option Value → aHp → Prop} {a0 a1 : Option Value} {a : Nat} : WP E c 12 96 [a0, a1] (.ref a :: st) ah Q = WPo (oGF (hg E ah a) 0 3) (fun v => WP E c 12 99 [a0, a1] (v :: st) ah Q) := wp_getf i12_96
theorem i12_99 : insAt 12 99 = some (.iconst 2, 100) := by decide +kernel
theorem r12_99 {E : aEnv} {c : Nat} {ah : aHp} {st : List Value} {Q : Option Value → aHp → Prop} {a0 a1 : Option Value} : WP E c 12 99 [a0, a1] (st) ah Q = WP E c 12 100 [a0, a1] (.int (2) :: st) ah Q := wp_s i12_99 rfl rfl rfl rfl
theorem i12_100 : insAt 12 100 = some (.if_icmp .ne 107, 103) := by decide +kernel
theorem r12_100 {E : aEnv} {c : Nat} {ah : aHp} {st : List Value} {Q : Option Value → aHp → Prop} {a0 a1 : Option Value} {x y : Int32} : WP E c 12 100 [a0, a1] (.int y :: .int x :: st) ah Q = if ¬ x = y then WP E c 12 107 [a0, a1] st ah Q else WP E c 12 103 [a0, a1] st ah Q := wp_j i12_100 rfl rfl rfl rfl
theorem i12_103 : insAt 12 103 = some (.iconst 1, 104) := by decide +kernel
theorem r12_103 {E : aEnv} {c : Nat} {ah : aHp} {st : List Value} {Q : Option Value → aHp → Prop} {a0 a1 : Option Value} : WP E c 12 103 [a0, a1] (st) ah Q = WP E c 12 104 [a0, a1] (.int (1) :: st) ah Q := wp_s i12_103 rfl rfl rfl rfl
theorem i12_104 : insAt 12 104 = some (.goto 108, 107) := by decide +kernel
theorem r12_104 {E : aEnv} {c : Nat} {ah : aHp} {st : List Value} {Q : Option Value → aHp → Prop} {a0 a1 : Option Value} : WP E c 12 104 [a0, a1] (st) ah Q = WP E c 12 108 [a0, a1] st ah Q := wp_s i12_104 rfl rfl rfl rfl
theorem i12_107 : insAt 12 107 = some (.iconst 0, 108) := by decide +kernel
theorem r12_107 {E : aEnv} {c : Nat} {ah : aHp} {st : List Value} {Q : Option Value → aHp → Prop} {a0 a1 : Option Value} : WP E c 12 107 [a0, a1] (st) ah Q = WP E c 12 108 [a0, a1] (.int (0) :: st) ah Q := wp_s i12_107 rfl rfl rfl rfl
theorem i12_108 : insAt 12 108 = some (.istore 1, 109) := by decide +kernel
theorem r12_108 {E : aEnv} {c : Nat} {ah : aHp} {st : List Value} {Q : Option Value → aHp → Prop} {a0 a1 : Option Value} {x : Int32} : WP E c 12 108 [a0, a1] (.int x :: st) ah Q = WP E c 12 109 [kil a0, some (.int x)] (st) ah Q := wp_s i12_108 rfl rfl rfl rfl
theorem i12_109 : insAt 12 109 = some (.iload 1, 110) := by decide +kernel
theorem r12_109 {E : aEnv} {c : Nat} {ah : aHp} {st : List Value} {Q : Option Value → aHp → Prop} {a0 : Option Value} {x : Int32} : WP E c 12 109 [a0, some (.int x)] (st) ah Q = WP E c 12 110 [a0, some (.int x)] (.int x :: st) ah Q := wp_s i12_109 rfl rfl rfl rfl
theorem i12_110 : insAt 12 110 = some (.ifCond .eq 152, 113) := by decide +kernel
theorem r12_110 {E : aEnv} {c : Nat} {ah : aHp} {st : List Value} {Q : Option Value → aHp → Prop} {a0 a1 : Option Value} {x : Int32} : WP E c 12 110 [a0, a1] (.int x :: st) ah Q = if x = 0 then WP E c 12 152 [a0, a1] st ah Q else WP E c 12 113 [a0, a1] st ah Q := wp_j i12_110 rfl rfl rfl rfl
theorem i12_113 : insAt 12 113 = some (.aload 0, 114) := by decide +kernel
theorem r12_113 {E : aEnv} {c : Nat} {ah : aHp} {st : List Value} {Q : Option Value → aHp → Prop} {a1 : Option Value} {x : Nat} : WP E c 12 113 [some (.ref x), a1] (st) ah Q = WP E c 12 114 [some (.ref x), a1] (.ref x :: st) ah Q := wp_s i12_113 rfl rfl rfl rfl
theorem i12_114 : insAt 12 114 = some (.getfield 20, 117) := by decide +kernel
theorem r12_114 {E : aEnv} {c : Nat} {ah : aHp} {st : List Value} {Q : Option Value → aHp → Prop} {a0 a1 : Option Value} {a : Nat} : WP E c 12 114 [a0, a1] (.ref a :: st) ah Q = WPo (oGF (hg E ah a) 0 2) (fun v => WP E c 12 117 [a0, a1] (v :: st) ah Q) := wp_getf i12_114
theorem i12_117 : insAt 12 117 = some (.aload 0, 118) := by decide +kernel
theorem r12_117 {E : aEnv} {c : Nat} {ah : aHp} {st : List Value} {Q : Option Value → aHp → Prop} {a1 : Option Value} {x : Nat} : WP E c 12 117 [some (.ref x), a1] (st) ah Q = WP E c 12 118 [some (.ref x), a1] (.ref x :: st) ah Q := wp_s i12_117 rfl rfl rfl rfl
theorem i12_118 : insAt 12 118 = some (.getfield 10, 121) := by decide +kernel
theorem r12_118 {E : aEnv} {c : Nat} {ah : aHp} {st : List Value} {Q : Option Value → aHp → Prop} {a0 a1 : Option Value} {a : Nat} : WP E c 12 118 [a0, a1] (.ref a :: st) ah Q = WPo (oGF (hg E ah a) 0 1) (fun v => WP E c 12 121 [a0, a1] (v :: st) ah Q) := wp_getf i12_118
theorem i12_121 : insAt 12 121 = some (.if_icmp .ge 152, 124) := by decide +kernel
theorem r12_121 {E : aEnv} {c : Nat} {ah : aHp} {st : List Value} {Q : Option Value → aHp → Prop} {a0 a1 : Option Value} {x y : Int32} : WP E c 12 121 [a0, a1] (.int y :: .int x :: st) ah Q = if y ≤ x then WP E c 12 152 [a0, a1] st ah Q else WP E c 12 124 [a0, a1] st ah Q := wp_j i12_121 rfl rfl rfl rfl
theorem i12_124 : insAt 12 124 = some (.aload 0, 125) := by decide +kernel
theorem r12_124 {E : aEnv} {c : Nat} {ah : aHp} {st : List Value} {Q : Option Value → aHp → Prop} {a1 : Option Value} {x : Nat} : WP E c 12 124 [some (.ref x), a1] (st) ah Q = WP E c 12 125 [some (.ref x), a1] (.ref x :: st) ah Q := wp_s i12_124 rfl rfl rfl rfl
theorem i12_125 : insAt 12 125 = some (.aload 0, 126) := by decide +kernel
theorem r12_125 {E : aEnv} {c : Nat} {ah : aHp} {st : List Value} {Q : Option Value → aHp → Prop} {a1 : Option Value} {x : Nat} : WP E c 12 125 [some (.ref x), a1] (st) ah Q = WP E c 12 126 [some (.ref x), a1] (.ref x :: st) ah Q := wp_s i12_125 rfl rfl rfl rfl
theorem i12_126 : insAt 12 126 = some (.getfield 20, 129) := by decide +kernel
theorem r12_126 {E : aEnv} {c : Nat} {ah : aHp} {st : List Value} {Q : Option Value → aHp → Prop} {a0 a1 : Option Value} {a : Nat} : WP E c 12 126 [a0, a1] (.ref a :: st) ah Q = WPo (oGF (hg E ah a) 0 2) (fun v => WP E c 12 129 [a0, a1] (v :: st) ah Q) := wp_getf i12_126
theorem i12_129 : insAt 12 129 = some (.invokevirtual 14, 132) := by decide +kernel
theorem r12_129 {E : aEnv} {c : Nat} {ah ah1 : aHp} {r : Option Value} {st : List Value} {Q : Option Value → aHp → Prop} {a0 a1 : Option Value} {p0 : Nat} {p1 : Int32} (h : EV E c 14 [.ref p0, .int p1] ah r ah1) (h2 : oCI (hg E ah p0) = 0) (h3 : wds st ≤ 8) : WP E (c + 1) 12 129 [a0, a1] (.int p1 :: .ref p0 :: st) ah Q = WP E (c + 1) 12 132 [a0, a1] (r.toList ++ st) ah1 Q := wp_call (As := [.ref p0, .int p1]) i12_129 (fun _ => rfl) rfl mr14.1 (rcv_1 h2 mr14.2.2 (by decide)) h3 (by rw [mr14.2.1]; exact Nat.le_of_ble_eq_true rfl) h
theorem i12_132 : insAt 12 132 = some (.aload 0, 133) := by decide +kernel
theorem r12_132 {E : aEnv} {c : Nat} {ah : aHp} {st : List Value} {Q : Option Value → aHp → Prop} {a1 : Option Value} {x : Nat} : WP E c 12 132 [some (.ref x), a1] (st) ah Q = WP E c 12 133 [some (.ref x), a1] (.ref x :: st) ah Q := wp_s i12_132 rfl rfl rfl rfl
theorem i12_133 : insAt 12 133 = some (.getfield 30, 136) := by decide +kernel
theorem r12_133 {E : aEnv} {c : Nat} {ah : aHp} {st : List Value} {Q : Option Value → aHp → Prop} {a0 a1 : Option Value} {a : Nat} : WP E c 12 133 [a0, a1] (.ref a :: st) ah Q = WPo (oGF (hg E ah a) 0 3) (fun v => WP E c 12 136 [a0, a1] (v :: st) ah Q) := wp_getf i12_133
theorem i12_136 : insAt 12 136 = some (.if_icmp .ne 152, 139) := by decide +kernel
theorem r12_136 {E : aEnv} {c : Nat} {ah : aHp} {st : List Value} {Q : Option Value → aHp → Prop} {a0 a1 : Option Value} {x y : Int32} : WP E c 12 136 [a0, a1] (.int y :: .int x :: st) ah Q = if ¬ x = y then WP E c 12 152 [a0, a1] st ah Q else WP E c 12 139 [a0, a1] st ah Q := wp_j i12_136 rfl rfl rfl rfl
theorem i12_139 : insAt 12 139 = some (.aload 0, 140) := by decide +kernel
theorem r12_139 {E : aEnv} {c : Nat} {ah : aHp} {st : List Value} {Q : Option Value → aHp → Prop} {a1 : Option Value} {x : Nat} : WP E c 12 139 [some (.ref x), a1] (st) ah Q = WP E c 12 140 [some (.ref x), a1] (.ref x :: st) ah Q := wp_s i12_139 rfl rfl rfl rfl
theorem i12_140 : insAt 12 140 = some (.dup, 141) := by decide +kernel
theorem r12_140 {E : aEnv} {c : Nat} {ah : aHp} {st : List Value} {Q : Option Value → aHp → Prop} {a0 a1 : Option Value} {x : Nat} : WP E c 12 140 [a0, a1] (.ref x :: st) ah Q = WP E c 12 141 [a0, a1] (.ref x :: .ref x :: st) ah Q := wp_s i12_140 rfl rfl rfl rfl
theorem r12_140i {E : aEnv} {c : Nat} {ah : aHp} {st : List Value} {Q : Option Value → aHp → Prop} {a0 a1 : Option Value} {x : Int32} : WP E c 12 140 [a0, a1] (.int x :: st) ah Q = WP E c 12 141 [a0, a1] (.int x :: .int x :: st) ah Q := wp_s i12_140 rfl rfl rfl rfl
theorem i12_141 : insAt 12 141 = some (.getfield 20, 144) := by decide +kernel
theorem r12_141 {E : aEnv} {c : Nat} {ah : aHp} {st : List Value} {Q : Option Value → aHp → Prop} {a0 a1 : Option Value} {a : Nat} : WP E c 12 141 [a0, a1] (.ref a :: st) ah Q = WPo (oGF (hg E ah a) 0 2) (fun v => WP E c 12 144 [a0, a1] (v :: st) ah Q) := wp_getf i12_141
theorem i12_144 : insAt 12 144 = some (.iconst 1, 145) := by decide +kernel
theorem r12_144 {E : aEnv} {c : Nat} {ah : aHp} {st : List Value} {Q : Option Value → aHp → Prop} {a0 a1 : Option Value} : WP E c 12 144 [a0, a1] (st) ah Q = WP E c 12 145 [a0, a1] (.int (1) :: st) ah Q := wp_s i12_144 rfl rfl rfl rfl
theorem i12_145 : insAt 12 145 = some (.iadd, 146) := by decide +kernel
theorem r12_145 {E : aEnv} {c : Nat} {ah : aHp} {st : List Value} {Q : Option Value → aHp → Prop} {a0 a1 : Option Value} {x y : Int32} : WP E c 12 145 [a0, a1] (.int y :: .int x :: st) ah Q = WP E c 12 146 [a0, a1] (.int (x + y) :: st) ah Q := wp_s i12_145 rfl rfl rfl rfl
theorem i12_146 : insAt 12 146 = some (.putfield 20, 149) := by decide +kernel
theorem r12_146 {E : aEnv} {c : Nat} {ah : aHp} {st : List Value} {Q : Option Value → aHp → Prop} {a0 a1 : Option Value} {a : Nat} {v : Value} : WP E c 12 146 [a0, a1] (v :: .ref a :: st) ah Q = WPo (oPF (hg E ah a) 20 v) (fun e => WP E c 12 149 [a0, a1] st (hs E ah a e) Q) := wp_putf i12_146
theorem i12_149 : insAt 12 149 = some (.goto 109, 152) := by decide +kernel
theorem r12_149 {E : aEnv} {c : Nat} {ah : aHp} {st : List Value} {Q : Option Value → aHp → Prop} {a0 a1 : Option Value} : WP E c 12 149 [a0, a1] (st) ah Q = WP E c 12 109 [a0, a1] st ah Q := wp_s i12_149 rfl rfl rfl rfl
theorem i12_152 : insAt 12 152 = some (.aload 0, 153) := by decide +kernel
theorem r12_152 {E : aEnv} {c : Nat} {ah : aHp} {st : List Value} {Q : Option Value → aHp → Prop} {a1 : Option Value} {x : Nat} : WP E c 12 152 [some (.ref x), a1] (st) ah Q = WP E c 12 153 [some (.ref x), a1] (.ref x :: st) ah Q := wp_s i12_152 rfl rfl rfl rfl
theorem i12_153 : insAt 12 153 = some (.getfield 30, 156) := by decide +kernel
theorem r12_153 {E : aEnv} {c : Nat} {ah : aHp} {st : List Value} {Q : Option Value → aHp → Prop} {a0 a1 : Option Value} {a : Nat} : WP E c 12 153 [a0, a1] (.ref a :: st) ah Q = WPo (oGF (hg E ah a) 0 3) (fun v => WP E c 12 156 [a0, a1] (v :: st) ah Q) := wp_getf i12_153
theorem i12_156 : insAt 12 156 = some (.iconst 2, 157) := by decide +kernel
theorem r12_156 {E : aEnv} {c : Nat} {ah : aHp} {st : List Value} {Q : Option Value → aHp → Prop} {a0 a1 : Option Value} : WP E c 12 156 [a0, a1] (st) ah Q = WP E c 12 157 [a0, a1] (.int (2) :: st) ah Q := wp_s i12_156 rfl rfl rfl rfl
theorem i12_157 : insAt 12 157 = some (.if_icmp .ne 179, 160) := by decide +kernel
theorem r12_157 {E : aEnv} {c : Nat} {ah : aHp} {st : List Value} {Q : Option Value → aHp → Prop} {a0 a1 : Option Value} {x y : Int32} : WP E c 12 157 [a0, a1] (.int y :: .int x :: st) ah Q = if ¬ x = y then WP E c 12 179 [a0, a1] st ah Q else WP E c 12 160 [a0, a1] st ah Q := wp_j i12_157 rfl rfl rfl rfl
theorem i12_160 : insAt 12 160 = some (.aload 0, 161) := by decide +kernel
theorem r12_160 {E : aEnv} {c : Nat} {ah : aHp} {st : List Value} {Q : Option Value → aHp → Prop} {a1 : Option Value} {x : Nat} : WP E c 12 160 [some (.ref x), a1] (st) ah Q = WP E c 12 161 [some (.ref x), a1] (.ref x :: st) ah Q := wp_s i12_160 rfl rfl rfl rfl
theorem i12_161 : insAt 12 161 = some (.getfield 20, 164) := by decide +kernel
theorem r12_161 {E : aEnv} {c : Nat} {ah : aHp} {st : List Value} {Q : Option Value → aHp → Prop} {a0 a1 : Option Value} {a : Nat} : WP E c 12 161 [a0, a1] (.ref a :: st) ah Q = WPo (oGF (hg E ah a) 0 2) (fun v => WP E c 12 164 [a0, a1] (v :: st) ah Q) := wp_getf i12_161
theorem i12_164 : insAt 12 164 = some (.aload 0, 165) := by decide +kernel
theorem r12_164 {E : aEnv} {c : Nat} {ah : aHp} {st : List Value} {Q : Option Value → aHp → Prop} {a1 : Option Value} {x : Nat} : WP E c 12 164 [some (.ref x), a1] (st) ah Q = WP E c 12 165 [some (.ref x), a1] (.ref x :: st) ah Q := wp_s i12_164 rfl rfl rfl rfl
theorem i12_165 : insAt 12 165 = some (.getfield 40, 168) := by decide +kernel
theorem r12_165 {E : aEnv} {c : Nat} {ah : aHp} {st : List Value} {Q : Option Value → aHp → Prop} {a0 a1 : Option Value} {a : Nat} : WP E c 12 165 [a0, a1] (.ref a :: st) ah Q = WPo (oGF (hg E ah a) 0 4) (fun v => WP E c 12 168 [a0, a1] (v :: st) ah Q) := wp_getf i12_165
theorem i12_168 : insAt 12 168 = some (.isub, 169) := by decide +kernel
theorem r12_168 {E : aEnv} {c : Nat} {ah : aHp} {st : List Value} {Q : Option Value → aHp → Prop} {a0 a1 : Option Value} {x y : Int32} : WP E c 12 168 [a0, a1] (.int y :: .int x :: st) ah Q = WP E c 12 169 [a0, a1] (.int (x - y) :: st) ah Q := wp_s i12_168 rfl rfl rfl rfl
theorem i12_169 : insAt 12 169 = some (.iconst 12, 171) := by decide +kernel
theorem r12_169 {E : aEnv} {c : Nat} {ah : aHp} {st : List Value} {Q : Option Value → aHp → Prop} {a0 a1 : Option Value} : WP E c 12 169 [a0, a1] (st) ah Q = WP E c 12 171 [a0, a1] (.int (12) :: st) ah Q := wp_s i12_169 rfl rfl rfl rfl
theorem i12_171 : insAt 12 171 = some (.if_icmp .le 179, 174) := by decide +kernel
theorem r12_171 {E : aEnv} {c : Nat} {ah : aHp} {st : List Value} {Q : Option Value → aHp → Prop} {a0 a1 : Option Value} {x y : Int32} : WP E c 12 171 [a0, a1] (.int y :: .int x :: st) ah Q = if x ≤ y then WP E c 12 179 [a0, a1] st ah Q else WP E c 12 174 [a0, a1] st ah Q := wp_j i12_171 rfl rfl rfl rfl
theorem i12_174 : insAt 12 174 = some (.aload 0, 175) := by decide +kernel
theorem r12_174 {E : aEnv} {c : Nat} {ah : aHp} {st : List Value} {Q : Option Value → aHp → Prop} {a1 : Option Value} {x : Nat} : WP E c 12 174 [some (.ref x), a1] (st) ah Q = WP E c 12 175 [some (.ref x), a1] (.ref x :: st) ah Q := wp_s i12_174 rfl rfl rfl rfl
theorem i12_175 : insAt 12 175 = some (.iconst 5, 176) := by decide +kernel
theorem r12_175 {E : aEnv} {c : Nat} {ah : aHp} {st : List Value} {Q : Option Value → aHp → Prop} {a0 a1 : Option Value} : WP E c 12 175 [a0, a1] (st) ah Q = WP E c 12 176 [a0, a1] (.int (5) :: st) ah Q := wp_s i12_175 rfl rfl rfl rfl
theorem i12_176 : insAt 12 176 = some (.putfield 30, 179) := by decide +kernel
theorem r12_176 {E : aEnv} {c : Nat} {ah : aHp} {st : List Value} {Q : Option Value → aHp → Prop} {a0 a1 : Option Value} {a : Nat} {v : Value} : WP E c 12 176 [a0, a1] (v :: .ref a :: st) ah Q = WPo (oPF (hg E ah a) 30 v) (fun e => WP E c 12 179 [a0, a1] st (hs E ah a e) Q) := wp_putf i12_176
theorem i12_179 : insAt 12 179 = some (.aload 0, 180) := by decide +kernel
theorem r12_179 {E : aEnv} {c : Nat} {ah : aHp} {st : List Value} {Q : Option Value → aHp → Prop} {a1 : Option Value} {x : Nat} : WP E c 12 179 [some (.ref x), a1] (st) ah Q = WP E c 12 180 [some (.ref x), a1] (.ref x :: st) ah Q := wp_s i12_179 rfl rfl rfl rfl
theorem i12_180 : insAt 12 180 = some (.aload 0, 181) := by decide +kernel
theorem r12_180 {E : aEnv} {c : Nat} {ah : aHp} {st : List Value} {Q : Option Value → aHp → Prop} {a1 : Option Value} {x : Nat} : WP E c 12 180 [some (.ref x), a1] (st) ah Q = WP E c 12 181 [some (.ref x), a1] (.ref x :: st) ah Q := wp_s i12_180 rfl rfl rfl rfl
theorem i12_181 : insAt 12 181 = some (.getfield 30, 184) := by decide +kernel
theorem r12_181 {E : aEnv} {c : Nat} {ah : aHp} {st : List Value} {Q : Option Value → aHp → Prop} {a0 a1 : Option Value} {a : Nat} : WP E c 12 181 [a0, a1] (.ref a :: st) ah Q = WPo (oGF (hg E ah a) 0 3) (fun v => WP E c 12 184 [a0, a1] (v :: st) ah Q) := wp_getf i12_181
theorem i12_184 : insAt 12 184 = some (.iconst 2, 185) := by decide +kernel
theorem r12_184 {E : aEnv} {c : Nat} {ah : aHp} {st : List Value} {Q : Option Value → aHp → Prop} {a0 a1 : Option Value} : WP E c 12 184 [a0, a1] (st) ah Q = WP E c 12 185 [a0, a1] (.int (2) :: st) ah Q := wp_s i12_184 rfl rfl rfl rfl
theorem i12_185 : insAt 12 185 = some (.if_icmp .ne 203, 188) := by decide +kernel
theorem r12_185 {E : aEnv} {c : Nat} {ah : aHp} {st : List Value} {Q : Option Value → aHp → Prop} {a0 a1 : Option Value} {x y : Int32} : WP E c 12 185 [a0, a1] (.int y :: .int x :: st) ah Q = if ¬ x = y then WP E c 12 203 [a0, a1] st ah Q else WP E c 12 188 [a0, a1] st ah Q := wp_j i12_185 rfl rfl rfl rfl
theorem i12_188 : insAt 12 188 = some (.aload 0, 189) := by decide +kernel
theorem r12_188 {E : aEnv} {c : Nat} {ah : aHp} {st : List Value} {Q : Option Value → aHp → Prop} {a1 : Option Value} {x : Nat} : WP E c 12 188 [some (.ref x), a1] (st) ah Q = WP E c 12 189 [some (.ref x), a1] (.ref x :: st) ah Q := wp_s i12_188 rfl rfl rfl rfl
theorem i12_189 : insAt 12 189 = some (.aload 0, 190) := by decide +kernel
theorem r12_189 {E : aEnv} {c : Nat} {ah : aHp} {st : List Value} {Q : Option Value → aHp → Prop} {a1 : Option Value} {x : Nat} : WP E c 12 189 [some (.ref x), a1] (st) ah Q = WP E c 12 190 [some (.ref x), a1] (.ref x :: st) ah Q := wp_s i12_189 rfl rfl rfl rfl
theorem i12_190 : insAt 12 190 = some (.getfield 40, 193) := by decide +kernel
theorem r12_190 {E : aEnv} {c : Nat} {ah : aHp} {st : List Value} {Q : Option Value → aHp → Prop} {a0 a1 : Option Value} {a : Nat} : WP E c 12 190 [a0, a1] (.ref a :: st) ah Q = WPo (oGF (hg E ah a) 0 4) (fun v => WP E c 12 193 [a0, a1] (v :: st) ah Q) := wp_getf i12_190
theorem i12_193 : insAt 12 193 = some (.aload 0, 194) := by decide +kernel
theorem r12_193 {E : aEnv} {c : Nat} {ah : aHp} {st : List Value} {Q : Option Value → aHp → Prop} {a1 : Option Value} {x : Nat} : WP E c 12 193 [some (.ref x), a1] (st) ah Q = WP E c 12 194 [some (.ref x), a1] (.ref x :: st) ah Q := wp_s i12_193 rfl rfl rfl rfl
theorem i12_194 : insAt 12 194 = some (.getfield 20, 197) := by decide +kernel
theorem r12_194 {E : aEnv} {c : Nat} {ah : aHp} {st : List Value} {Q : Option Value → aHp → Prop} {a0 a1 : Option Value} {a : Nat} : WP E c 12 194 [a0, a1] (.ref a :: st) ah Q = WPo (oGF (hg E ah a) 0 2) (fun v => WP E c 12 197 [a0, a1] (v :: st) ah Q) := wp_getf i12_194
theorem i12_197 : insAt 12 197 = some (.invokevirtual 13, 200) := by decide +kernel
theorem r12_197 {E : aEnv} {c : Nat} {ah ah1 : aHp} {r : Option Value} {st : List Value} {Q : Option Value → aHp → Prop} {a0 a1 : Option Value} {p0 : Nat} {p1 : Int32} {p2 : Int32} (h : EV E c 13 [.ref p0, .int p1, .int p2] ah r ah1) (h2 : oCI (hg E ah p0) = 0) (h3 : wds st ≤ 8) : WP E (c + 1) 12 197 [a0, a1] (.int p2 :: .int p1 :: .ref p0 :: st) ah Q = WP E (c + 1) 12 200 [a0, a1] (r.toList ++ st) ah1 Q := wp_call (As := [.ref p0, .int p1, .int p2]) i12_197 (fun _ => rfl) rfl mr13.1 (rcv_1 h2 mr13.2.2 (by decide)) h3 (by rw [mr13.2.1]; exact Nat.le_of_ble_eq_true rfl) h
theorem i12_200 : insAt 12 200 = some (.goto 204, 203) := by decide +kernel
theorem r12_200 {E : aEnv} {c : Nat} {ah : aHp} {st : List Value} {Q : Option Value → aHp → Prop} {a0 a1 : Option Value} : WP E c 12 200 [a0, a1] (st) ah Q = WP E c 12 204 [a0, a1] st ah Q := wp_s i12_200 rfl rfl rfl rfl
theorem i12_203 : insAt 12 203 = some (.jsr_w 0, 204) := by decide +kernel
theorem r12_203 {E : aEnv} {c : Nat} {ah : aHp} {st : List Value} {Q : Option Value → aHp → Prop} {a0 a1 : Option Value} : WP E c 12 203 [a0, a1] (st) ah Q = WP E c 12 204 [a0, a1] (.long (0) :: st) ah Q := wp_s i12_203 rfl rfl rfl rfl
theorem i12_204 : insAt 12 204 = some (.putfield 51, 207) := by decide +kernel
theorem r12_204 {E : aEnv} {c : Nat} {ah : aHp} {st : List Value} {Q : Option Value → aHp → Prop} {a0 a1 : Option Value} {a : Nat} {v : Value} : WP E c 12 204 [a0, a1] (v :: .ref a :: st) ah Q = WPo (oPF (hg E ah a) 51 v) (fun e => WP E c 12 207 [a0, a1] st (hs E ah a e) Q) := wp_putf i12_204
theorem i12_207 : insAt 12 207 = some (.return_, 208) := by decide +kernel
theorem r12_207 {E : aEnv} {c : Nat} {ah : aHp} {Q : Option Value → aHp → Prop} {a0 a1 : Option Value} : WP E c 12 207 [a0, a1] ([]) ah Q = Q none ah := wp_rt i12_207 rfl
theorem e13 {E : aEnv} {c : Nat} {ah ahF : aHp} {r : Option Value} {p0 : Nat} {p1 : Int32} {p2 : Int32} (h : WP E c 13 0 [some (.ref p0), some (.int p1), some (.int p2), none, none, none] [] ah (fun r1 x1 => r1 = r ∧ x1 = ahF)) : EV E c 13 [.ref p0, .int p1, .int p2] ah r ahF := EV.of (by rw [mr13.2.1]; exact h)
theorem i13_0 : insAt 13 0 = some (.jsr_w 0, 1) := by decide +kernel
theorem r13_0 {E : aEnv} {c : Nat} {ah : aHp} {st : List Value} {Q : Option Value → aHp → Prop} {a0 a1 a2 a3 a4 a5 : Option Value} : WP E c 13 0 [a0, a1, a2, a3, a4, a5] (st) ah Q = WP E c 13 1 [a0, a1, a2, a3, a4, a5] (.long (0) :: st) ah Q := wp_s i13_0 rfl rfl rfl rfl
theorem i13_1 : insAt 13 1 = some (.lstore 3, 2) := by decide +kernel
theorem r13_1 {E : aEnv} {c : Nat} {ah : aHp} {st : List Value} {Q : Option Value → aHp → Prop} {a0 a1 a2 a3 a4 a5 : Option Value} {x : Int64} : WP E c 13 1 [a0, a1, a2, a3, a4, a5] (.long x :: st) ah Q = WP E c 13 2 [a0, a1, kil a2, some (.long x), none, a5] (st) ah Q := wp_s i13_1 rfl rfl rfl rfl
theorem i13_2 : insAt 13 2 = some (.iload 1, 3) := by decide +kernel
theorem r13_2 {E : aEnv} {c : Nat} {ah : aHp} {st : List Value} {Q : Option Value → aHp → Prop} {a0 a2 a3 a4 a5 : Option Value} {x : Int32} : WP E c 13 2 [a0, some (.int x), a2, a3, a4, a5] (st) ah Q = WP E c 13 3 [a0, some (.int x), a2, a3, a4, a5] (.int x :: st) ah Q := wp_s i13_2 rfl rfl rfl rfl
theorem i13_3 : insAt 13 3 = some (.istore 5, 5) := by decide +kernel
theorem r13_3 {E : aEnv} {c : Nat} {ah : aHp} {st : List Value} {Q : Option Value → aHp → Prop} {a0 a1 a2 a3 a4 a5 : Option Value} {x : Int32} : WP E c 13 3 [a0, a1, a2, a3, a4, a5] (.int x :: st) ah Q = WP E c 13 5 [a0, a1, a2, a3, kil a4, some (.int x)] (st) ah Q := wp_s i13_3 rfl rfl rfl rfl
theorem i13_5 : insAt 13 5 = some (.iload 5, 7) := by decide +kernel
theorem r13_5 {E : aEnv} {c : Nat} {ah : aHp} {st : List Value} {Q : Option Value → aHp → Prop} {a0 a1 a2 a3 a4 : Option Value} {x : Int32} : WP E c 13 5 [a0, a1, a2, a3, a4, some (.int x)] (st) ah Q = WP E c 13 7 [a0, a1, a2, a3, a4, some (.int x)] (.int x :: st) ah Q := wp_s i13_5 rfl rfl rfl rfl
theorem i13_7 : insAt 13 7 = some (.iload 2, 8) := by decide +kernel
theorem r13_7 {E : aEnv} {c : Nat} {ah : aHp} {st : List Value} {Q : Option Value → aHp → Prop} {a0 a1 a3 a4 a5 : Option Value} {x : Int32} : WP E c 13 7 [a0, a1, some (.int x), a3, a4, a5] (st) ah Q = WP E c 13 8 [a0, a1, some (.int x), a3, a4, a5] (.int x :: st) ah Q := wp_s i13_7 rfl rfl rfl rfl
theorem i13_8 : insAt 13 8 = some (.if_icmp .ge 35, 11) := by decide +kernel
theorem r13_8 {E : aEnv} {c : Nat} {ah : aHp} {st : List Value} {Q : Option Value → aHp → Prop} {a0 a1 a2 a3 a4 a5 : Option Value} {x y : Int32} : WP E c 13 8 [a0, a1, a2, a3, a4, a5] (.int y :: .int x :: st) ah Q = if y ≤ x then WP E c 13 35 [a0, a1, a2, a3, a4, a5] st ah Q else WP E c 13 11 [a0, a1, a2, a3, a4, a5] st ah Q := wp_j i13_8 rfl rfl rfl rfl
theorem i13_11 : insAt 13 11 = some (.lload 3, 12) := by decide +kernel
theorem r13_11 {E : aEnv} {c : Nat} {ah : aHp} {st : List Value} {Q : Option Value → aHp → Prop} {a0 a1 a2 a4 a5 : Option Value} {x : Int64} : WP E c 13 11 [a0, a1, a2, some (.long x), a4, a5] (st) ah Q = WP E c 13 12 [a0, a1, a2, some (.long x), a4, a5] (.long x :: st) ah Q := wp_s i13_11 rfl rfl rfl rfl
theorem i13_12 : insAt 13 12 = some (.jsr_w 10, 15) := by decide +kernel
theorem r13_12 {E : aEnv} {c : Nat} {ah : aHp} {st : List Value} {Q : Option Value → aHp → Prop} {a0 a1 a2 a3 a4 a5 : Option Value} : WP E c 13 12 [a0, a1, a2, a3, a4, a5] (st) ah Q = WP E c 13 15 [a0, a1, a2, a3, a4, a5] (.long (10) :: st) ah Q := wp_s i13_12 rfl rfl rfl rfl
theorem i13_15 : insAt 13 15 = some (.lmul, 16) := by decide +kernel
theorem r13_15 {E : aEnv} {c : Nat} {ah : aHp} {st : List Value} {Q : Option Value → aHp → Prop} {a0 a1 a2 a3 a4 a5 : Option Value} {x y : Int64} : WP E c 13 15 [a0, a1, a2, a3, a4, a5] (.long y :: .long x :: st) ah Q = WP E c 13 16 [a0, a1, a2, a3, a4, a5] (.long (x * y) :: st) ah Q := wp_s i13_15 rfl rfl rfl rfl
theorem i13_16 : insAt 13 16 = some (.aload 0, 17) := by decide +kernel
theorem r13_16 {E : aEnv} {c : Nat} {ah : aHp} {st : List Value} {Q : Option Value → aHp → Prop} {a1 a2 a3 a4 a5 : Option Value} {x : Nat} : WP E c 13 16 [some (.ref x), a1, a2, a3, a4, a5] (st) ah Q = WP E c 13 17 [some (.ref x), a1, a2, a3, a4, a5] (.ref x :: st) ah Q := wp_s i13_16 rfl rfl rfl rfl
theorem i13_17 : insAt 13 17 = some (.iload 5, 19) := by decide +kernel
theorem r13_17 {E : aEnv} {c : Nat} {ah : aHp} {st : List Value} {Q : Option Value → aHp → Prop} {a0 a1 a2 a3 a4 : Option Value} {x : Int32} : WP E c 13 17 [a0, a1, a2, a3, a4, some (.int x)] (st) ah Q = WP E c 13 19 [a0, a1, a2, a3, a4, some (.int x)] (.int x :: st) ah Q := wp_s i13_17 rfl rfl rfl rfl
theorem i13_19 : insAt 13 19 = some (.invokevirtual 15, 22) := by decide +kernel
theorem r13_19 {E : aEnv} {c : Nat} {ah ah1 : aHp} {r : Option Value} {st : List Value} {Q : Option Value → aHp → Prop} {a0 a1 a2 a3 a4 a5 : Option Value} {p0 : Nat} {p1 : Int32} (h : EV E c 15 [.ref p0, .int p1] ah r ah1) (h2 : oCI (hg E ah p0) = 0) (h3 : wds st ≤ 8) : WP E (c + 1) 13 19 [a0, a1, a2, a3, a4, a5] (.int p1 :: .ref p0 :: st) ah Q = WP E (c + 1) 13 22 [a0, a1, a2, a3, a4, a5] (r.toList ++ st) ah1 Q := wp_call (As := [.ref p0, .int p1]) i13_19 (fun _ => rfl) rfl mr15.1 (rcv_1 h2 mr15.2.2 (by decide)) h3 (by rw [mr15.2.1]; exact Nat.le_of_ble_eq_true rfl) h
theorem i13_22 : insAt 13 22 = some (.i2l, 23) := by decide +kernel
theorem r13_22 {E : aEnv} {c : Nat} {ah : aHp} {st : List Value} {Q : Option Value → aHp → Prop} {a0 a1 a2 a3 a4 a5 : Option Value} {x : Int32} : WP E c 13 22 [a0, a1, a2, a3, a4, a5] (.int x :: st) ah Q = WP E c 13 23 [a0, a1, a2, a3, a4, a5] (.long x.toInt64 :: st) ah Q := wp_s i13_22 rfl rfl rfl rfl
theorem i13_23 : insAt 13 23 = some (.ladd, 24) := by decide +kernel
theorem r13_23 {E : aEnv} {c : Nat} {ah : aHp} {st : List Value} {Q : Option Value → aHp → Prop} {a0 a1 a2 a3 a4 a5 : Option Value} {x y : Int64} : WP E c 13 23 [a0, a1, a2, a3, a4, a5] (.long y :: .long x :: st) ah Q = WP E c 13 24 [a0, a1, a2, a3, a4, a5] (.long (x + y) :: st) ah Q := wp_s i13_23 rfl rfl rfl rfl
theorem i13_24 : insAt 13 24 = some (.jsr_w 48, 27) := by decide +kernel
theorem r13_24 {E : aEnv} {c : Nat} {ah : aHp} {st : List Value} {Q : Option Value → aHp → Prop} {a0 a1 a2 a3 a4 a5 : Option Value} : WP E c 13 24 [a0, a1, a2, a3, a4, a5] (st) ah Q = WP E c 13 27 [a0, a1, a2, a3, a4, a5] (.long (48) :: st) ah Q := wp_s i13_24 rfl rfl rfl rfl
theorem i13_27 : insAt 13 27 = some (.lsub, 28) := by decide +kernel
theorem r13_27 {E : aEnv} {c : Nat} {ah : aHp} {st : List Value} {Q : Option Value → aHp → Prop} {a0 a1 a2 a3 a4 a5 : Option Value} {x y : Int64} : WP E c 13 27 [a0, a1, a2, a3, a4, a5] (.long y :: .long x :: st) ah Q = WP E c 13 28 [a0, a1, a2, a3, a4, a5] (.long (x - y) :: st) ah Q := wp_s i13_27 rfl rfl rfl rfl
theorem i13_28 : insAt 13 28 = some (.lstore 3, 29) := by decide +kernel
theorem r13_28 {E : aEnv} {c : Nat} {ah : aHp} {st : List Value} {Q : Option Value → aHp → Prop} {a0 a1 a2 a3 a4 a5 : Option Value} {x : Int64} : WP E c 13 28 [a0, a1, a2, a3, a4, a5] (.long x :: st) ah Q = WP E c 13 29 [a0, a1, kil a2, some (.long x), none, a5] (st) ah Q := wp_s i13_28 rfl rfl rfl rfl
theorem i13_29 : insAt 13 29 = some (.iinc 5 1, 32) := by decide +kernel
theorem r13_29 {E : aEnv} {c : Nat} {ah : aHp} {st : List Value} {Q : Option Value → aHp → Prop} {a0 a1 a2 a3 a4 : Option Value} {x : Int32} : WP E c 13 29 [a0, a1, a2, a3, a4, some (.int x)] (st) ah Q = WP E c 13 32 [a0, a1, a2, a3, kil a4, some (.int (x + 1))] (st) ah Q := wp_s i13_29 rfl rfl rfl rfl
theorem i13_32 : insAt 13 32 = some (.goto 5, 35) := by decide +kernel
theorem r13_32 {E : aEnv} {c : Nat} {ah : aHp} {st : List Value} {Q : Option Value → aHp → Prop} {a0 a1 a2 a3 a4 a5 : Option Value} : WP E c 13 32 [a0, a1, a2, a3, a4, a5] (st) ah Q = WP E c 13 5 [a0, a1, a2, a3, a4, a5] st ah Q := wp_s i13_32 rfl rfl rfl rfl
theorem i13_35 : insAt 13 35 = some (.lload 3, 36) := by decide +kernel
theorem r13_35 {E : aEnv} {c : Nat} {ah : aHp} {st : List Value} {Q : Option Value → aHp → Prop} {a0 a1 a2 a4 a5 : Option Value} {x : Int64} : WP E c 13 35 [a0, a1, a2, some (.long x), a4, a5] (st) ah Q = WP E c 13 36 [a0, a1, a2, some (.long x), a4, a5] (.long x :: st) ah Q := wp_s i13_35 rfl rfl rfl rfl
theorem i13_36 : insAt 13 36 = some (.lreturn, 37) := by decide +kernel
theorem r13_36 {E : aEnv} {c : Nat} {ah : aHp} {Q : Option Value → aHp → Prop} {a0 a1 a2 a3 a4 a5 : Option Value} {x : Int64} : WP E c 13 36 [a0, a1, a2, a3, a4, a5] ([.long x]) ah Q = Q (some (.long x)) ah := wp_rt i13_36 rfl
theorem e14 {E : aEnv} {c : Nat} {ah ahF : aHp} {r : Option Value} {p0 : Nat} {p1 : Int32} (h : WP E c 14 0 [some (.ref p0), some (.int p1), none] [] ah (fun r1 x1 => r1 = r ∧ x1 = ahF)) : EV E c 14 [.ref p0, .int p1] ah r ahF := EV.of (by rw [mr14.2.1]; exact h)
theorem i14_0 : insAt 14 0 = some (.aload 0, 1) := by decide +kernel
theorem r14_0 {E : aEnv} {c : Nat} {ah : aHp} {st : List Value} {Q : Option Value → aHp → Prop} {a1 a2 : Option Value} {x : Nat} : WP E c 14 0 [some (.ref x), a1, a2] (st) ah Q = WP E c 14 1 [some (.ref x), a1, a2] (.ref x :: st) ah Q := wp_s i14_0 rfl rfl rfl rfl
theorem i14_1 : insAt 14 1 = some (.iload 1, 2) := by decide +kernel
theorem r14_1 {E : aEnv} {c : Nat} {ah : aHp} {st : List Value} {Q : Option Value → aHp → Prop} {a0 a2 : Option Value} {x : Int32} : WP E c 14 1 [a0, some (.int x), a2] (st) ah Q = WP E c 14 2 [a0, some (.int x), a2] (.int x :: st) ah Q := wp_s i14_1 rfl rfl rfl rfl
theorem i14_2 : insAt 14 2 = some (.invokevirtual 15, 5) := by decide +kernel
theorem r14_2 {E : aEnv} {c : Nat} {ah ah1 : aHp} {r : Option Value} {st : List Value} {Q : Option Value → aHp → Prop} {a0 a1 a2 : Option Value} {p0 : Nat} {p1 : Int32} (h : EV E c 15 [.ref p0, .int p1] ah r ah1) (h2 : oCI (hg E ah p0) = 0) (h3 : wds st ≤ 8) : WP E (c + 1) 14 2 [a0, a1, a2] (.int p1 :: .ref p0 :: st) ah Q = WP E (c + 1) 14 5 [a0, a1, a2] (r.toList ++ st) ah1 Q := wp_call (As := [.ref p0, .int p1]) i14_2 (fun _ => rfl) rfl mr15.1 (rcv_1 h2 mr15.2.2 (by decide)) h3 (by rw [mr15.2.1]; exact Nat.le_of_ble_eq_true rfl) h
theorem i14_5 : insAt 14 5 = some (.istore 2, 6) := by decide +kernel
theorem r14_5 {E : aEnv} {c : Nat} {ah : aHp} {st : List Value} {Q : Option Value → aHp → Prop} {a0 a1 a2 : Option Value} {x : Int32} : WP E c 14 5 [a0, a1, a2] (.int x :: st) ah Q = WP E c 14 6 [a0, kil a1, some (.int x)] (st) ah Q := wp_s i14_5 rfl rfl rfl rfl
theorem i14_6 : insAt 14 6 = some (.iload 2, 7) := by decide +kernel
theorem r14_6 {E : aEnv} {c : Nat} {ah : aHp} {st : List Value} {Q : Option Value → aHp → Prop} {a0 a1 : Option Value} {x : Int32} : WP E c 14 6 [a0, a1, some (.int x)] (st) ah Q = WP E c 14 7 [a0, a1, some (.int x)] (.int x :: st) ah Q := wp_s i14_6 rfl rfl rfl rfl
theorem i14_7 : insAt 14 7 = some (.iconst (-1), 8) := by decide +kernel
theorem r14_7 {E : aEnv} {c : Nat} {ah : aHp} {st : List Value} {Q : Option Value → aHp → Prop} {a0 a1 a2 : Option Value} : WP E c 14 7 [a0, a1, a2] (st) ah Q = WP E c 14 8 [a0, a1, a2] (.int ((-1)) :: st) ah Q := wp_s i14_7 rfl rfl rfl rfl
theorem i14_8 : insAt 14 8 = some (.if_icmp .ne 13, 11) := by decide +kernel
theorem r14_8 {E : aEnv} {c : Nat} {ah : aHp} {st : List Value} {Q : Option Value → aHp → Prop} {a0 a1 a2 : Option Value} {x y : Int32} : WP E c 14 8 [a0, a1, a2] (.int y :: .int x :: st) ah Q = if ¬ x = y then WP E c 14 13 [a0, a1, a2] st ah Q else WP E c 14 11 [a0, a1, a2] st ah Q := wp_j i14_8 rfl rfl rfl rfl
theorem i14_11 : insAt 14 11 = some (.iconst 0, 12) := by decide +kernel
theorem r14_11 {E : aEnv} {c : Nat} {ah : aHp} {st : List Value} {Q : Option Value → aHp → Prop} {a0 a1 a2 : Option Value} : WP E c 14 11 [a0, a1, a2] (st) ah Q = WP E c 14 12 [a0, a1, a2] (.int (0) :: st) ah Q := wp_s i14_11 rfl rfl rfl rfl
theorem i14_12 : insAt 14 12 = some (.ireturn, 13) := by decide +kernel
theorem r14_12 {E : aEnv} {c : Nat} {ah : aHp} {Q : Option Value → aHp → Prop} {a0 a1 a2 : Option Value} {x : Int32} : WP E c 14 12 [a0, a1, a2] ([.int x]) ah Q = Q (some (.int x)) ah := wp_rt i14_12 rfl
theorem i14_13 : insAt 14 13 = some (.iload 2, 14) := by decide +kernel
theorem r14_13 {E : aEnv} {c : Nat} {ah : aHp} {st : List Value} {Q : Option Value → aHp → Prop} {a0 a1 : Option Value} {x : Int32} : WP E c 14 13 [a0, a1, some (.int x)] (st) ah Q = WP E c 14 14 [a0, a1, some (.int x)] (.int x :: st) ah Q := wp_s i14_13 rfl rfl rfl rfl
theorem i14_14 : insAt 14 14 = some (.iconst 97, 16) := by decide +kernel
theorem r14_14 {E : aEnv} {c : Nat} {ah : aHp} {st : List Value} {Q : Option Value → aHp → Prop} {a0 a1 a2 : Option Value} : WP E c 14 14 [a0, a1, a2] (st) ah Q = WP E c 14 16 [a0, a1, a2] (.int (97) :: st) ah Q := wp_s i14_14 rfl rfl rfl rfl
theorem i14_16 : insAt 14 16 = some (.if_icmp .lt 27, 19) := by decide +kernel
theorem r14_16 {E : aEnv} {c : Nat} {ah : aHp} {st : List Value} {Q : Option Value → aHp → Prop} {a0 a1 a2 : Option Value} {x y : Int32} : WP E c 14 16 [a0, a1, a2] (.int y :: .int x :: st) ah Q = if x < y then WP E c 14 27 [a0, a1, a2] st ah Q else WP E c 14 19 [a0, a1, a2] st ah Q := wp_j i14_16 rfl rfl rfl rfl
theorem i14_19 : insAt 14 19 = some (.iload 2, 20) := by decide +kernel
theorem r14_19 {E : aEnv} {c : Nat} {ah : aHp} {st : List Value} {Q : Option Value → aHp → Prop} {a0 a1 : Option Value} {x : Int32} : WP E c 14 19 [a0, a1, some (.int x)] (st) ah Q = WP E c 14 20 [a0, a1, some (.int x)] (.int x :: st) ah Q := wp_s i14_19 rfl rfl rfl rfl
theorem i14_20 : insAt 14 20 = some (.iconst 122, 22) := by decide +kernel
theorem r14_20 {E : aEnv} {c : Nat} {ah : aHp} {st : List Value} {Q : Option Value → aHp → Prop} {a0 a1 a2 : Option Value} : WP E c 14 20 [a0, a1, a2] (st) ah Q = WP E c 14 22 [a0, a1, a2] (.int (122) :: st) ah Q := wp_s i14_20 rfl rfl rfl rfl
theorem i14_22 : insAt 14 22 = some (.if_icmp .gt 27, 25) := by decide +kernel
theorem r14_22 {E : aEnv} {c : Nat} {ah : aHp} {st : List Value} {Q : Option Value → aHp → Prop} {a0 a1 a2 : Option Value} {x y : Int32} : WP E c 14 22 [a0, a1, a2] (.int y :: .int x :: st) ah Q = if y < x then WP E c 14 27 [a0, a1, a2] st ah Q else WP E c 14 25 [a0, a1, a2] st ah Q := wp_j i14_22 rfl rfl rfl rfl
theorem i14_25 : insAt 14 25 = some (.iconst 1, 26) := by decide +kernel
theorem r14_25 {E : aEnv} {c : Nat} {ah : aHp} {st : List Value} {Q : Option Value → aHp → Prop} {a0 a1 a2 : Option Value} : WP E c 14 25 [a0, a1, a2] (st) ah Q = WP E c 14 26 [a0, a1, a2] (.int (1) :: st) ah Q := wp_s i14_25 rfl rfl rfl rfl
theorem i14_26 : insAt 14 26 = some (.ireturn, 27) := by decide +kernel
theorem r14_26 {E : aEnv} {c : Nat} {ah : aHp} {Q : Option Value → aHp → Prop} {a0 a1 a2 : Option Value} {x : Int32} : WP E c 14 26 [a0, a1, a2] ([.int x]) ah Q = Q (some (.int x)) ah := wp_rt i14_26 rfl
theorem i14_27 : insAt 14 27 = some (.iload 2, 28) := by decide +kernel
theorem r14_27 {E : aEnv} {c : Nat} {ah : aHp} {st : List Value} {Q : Option Value → aHp → Prop} {a0 a1 : Option Value} {x : Int32} : WP E c 14 27 [a0, a1, some (.int x)] (st) ah Q = WP E c 14 28 [a0, a1, some (.int x)] (.int x :: st) ah Q := wp_s i14_27 rfl rfl rfl rfl
theorem i14_28 : insAt 14 28 = some (.iconst 48, 30) := by decide +kernel
theorem r14_28 {E : aEnv} {c : Nat} {ah : aHp} {st : List Value} {Q : Option Value → aHp → Prop} {a0 a1 a2 : Option Value} : WP E c 14 28 [a0, a1, a2] (st) ah Q = WP E c 14 30 [a0, a1, a2] (.int (48) :: st) ah Q := wp_s i14_28 rfl rfl rfl rfl
theorem i14_30 : insAt 14 30 = some (.if_icmp .lt 41, 33) := by decide +kernel
theorem r14_30 {E : aEnv} {c : Nat} {ah : aHp} {st : List Value} {Q : Option Value → aHp → Prop} {a0 a1 a2 : Option Value} {x y : Int32} : WP E c 14 30 [a0, a1, a2] (.int y :: .int x :: st) ah Q = if x < y then WP E c 14 41 [a0, a1, a2] st ah Q else WP E c 14 33 [a0, a1, a2] st ah Q := wp_j i14_30 rfl rfl rfl rfl
theorem i14_33 : insAt 14 33 = some (.iload 2, 34) := by decide +kernel
theorem r14_33 {E : aEnv} {c : Nat} {ah : aHp} {st : List Value} {Q : Option Value → aHp → Prop} {a0 a1 : Option Value} {x : Int32} : WP E c 14 33 [a0, a1, some (.int x)] (st) ah Q = WP E c 14 34 [a0, a1, some (.int x)] (.int x :: st) ah Q := wp_s i14_33 rfl rfl rfl rfl
theorem i14_34 : insAt 14 34 = some (.iconst 57, 36) := by decide +kernel
theorem r14_34 {E : aEnv} {c : Nat} {ah : aHp} {st : List Value} {Q : Option Value → aHp → Prop} {a0 a1 a2 : Option Value} : WP E c 14 34 [a0, a1, a2] (st) ah Q = WP E c 14 36 [a0, a1, a2] (.int (57) :: st) ah Q := wp_s i14_34 rfl rfl rfl rfl
theorem i14_36 : insAt 14 36 = some (.if_icmp .gt 41, 39) := by decide +kernel
theorem r14_36 {E : aEnv} {c : Nat} {ah : aHp} {st : List Value} {Q : Option Value → aHp → Prop} {a0 a1 a2 : Option Value} {x y : Int32} : WP E c 14 36 [a0, a1, a2] (.int y :: .int x :: st) ah Q = if y < x then WP E c 14 41 [a0, a1, a2] st ah Q else WP E c 14 39 [a0, a1, a2] st ah Q := wp_j i14_36 rfl rfl rfl rfl
theorem i14_39 : insAt 14 39 = some (.iconst 2, 40) := by decide +kernel
theorem r14_39 {E : aEnv} {c : Nat} {ah : aHp} {st : List Value} {Q : Option Value → aHp → Prop} {a0 a1 a2 : Option Value} : WP E c 14 39 [a0, a1, a2] (st) ah Q = WP E c 14 40 [a0, a1, a2] (.int (2) :: st) ah Q := wp_s i14_39 rfl rfl rfl rfl
theorem i14_40 : insAt 14 40 = some (.ireturn, 41) := by decide +kernel
theorem r14_40 {E : aEnv} {c : Nat} {ah : aHp} {Q : Option Value → aHp → Prop} {a0 a1 a2 : Option Value} {x : Int32} : WP E c 14 40 [a0, a1, a2] ([.int x]) ah Q = Q (some (.int x)) ah := wp_rt i14_40 rfl
theorem i14_41 : insAt 14 41 = some (.iload 2, 42) := by decide +kernel
theorem r14_41 {E : aEnv} {c : Nat} {ah : aHp} {st : List Value} {Q : Option Value → aHp → Prop} {a0 a1 : Option Value} {x : Int32} : WP E c 14 41 [a0, a1, some (.int x)] (st) ah Q = WP E c 14 42 [a0, a1, some (.int x)] (.int x :: st) ah Q := wp_s i14_41 rfl rfl rfl rfl
theorem i14_42 : insAt 14 42 = some (.iconst 59, 44) := by decide +kernel
theorem r14_42 {E : aEnv} {c : Nat} {ah : aHp} {st : List Value} {Q : Option Value → aHp → Prop} {a0 a1 a2 : Option Value} : WP E c 14 42 [a0, a1, a2] (st) ah Q = WP E c 14 44 [a0, a1, a2] (.int (59) :: st) ah Q := wp_s i14_42 rfl rfl rfl rfl
theorem i14_44 : insAt 14 44 = some (.if_icmp .ne 49, 47) := by decide +kernel
theorem r14_44 {E : aEnv} {c : Nat} {ah : aHp} {st : List Value} {Q : Option Value → aHp → Prop} {a0 a1 a2 : Option Value} {x y : Int32} : WP E c 14 44 [a0, a1, a2] (.int y :: .int x :: st) ah Q = if ¬ x = y then WP E c 14 49 [a0, a1, a2] st ah Q else WP E c 14 47 [a0, a1, a2] st ah Q := wp_j i14_44 rfl rfl rfl rfl
theorem i14_47 : insAt 14 47 = some (.iconst 3, 48) := by decide +kernel
theorem r14_47 {E : aEnv} {c : Nat} {ah : aHp} {st : List Value} {Q : Option Value → aHp → Prop} {a0 a1 a2 : Option Value} : WP E c 14 47 [a0, a1, a2] (st) ah Q = WP E c 14 48 [a0, a1, a2] (.int (3) :: st) ah Q := wp_s i14_47 rfl rfl rfl rfl
theorem i14_48 : insAt 14 48 = some (.ireturn, 49) := by decide +kernel
theorem r14_48 {E : aEnv} {c : Nat} {ah : aHp} {Q : Option Value → aHp → Prop} {a0 a1 a2 : Option Value} {x : Int32} : WP E c 14 48 [a0, a1, a2] ([.int x]) ah Q = Q (some (.int x)) ah := wp_rt i14_48 rfl
theorem i14_49 : insAt 14 49 = some (.iload 2, 50) := by decide +kernel
theorem r14_49 {E : aEnv} {c : Nat} {ah : aHp} {st : List Value} {Q : Option Value → aHp → Prop} {a0 a1 : Option Value} {x : Int32} : WP E c 14 49 [a0, a1, some (.int x)] (st) ah Q = WP E c 14 50 [a0, a1, some (.int x)] (.int x :: st) ah Q := wp_s i14_49 rfl rfl rfl rfl
theorem i14_50 : insAt 14 50 = some (.iconst 45, 52) := by decide +kernel
theorem r14_50 {E : aEnv} {c : Nat} {ah : aHp} {st : List Value} {Q : Option Value → aHp → Prop} {a0 a1 a2 : Option Value} : WP E c 14 50 [a0, a1, a2] (st) ah Q = WP E c 14 52 [a0, a1, a2] (.int (45) :: st) ah Q := wp_s i14_50 rfl rfl rfl rfl
theorem i14_52 : insAt 14 52 = some (.if_icmp .ne 59, 55) := by decide +kernel
theorem r14_52 {E : aEnv} {c : Nat} {ah : aHp} {st : List Value} {Q : Option Value → aHp → Prop} {a0 a1 a2 : Option Value} {x y : Int32} : WP E c 14 52 [a0, a1, a2] (.int y :: .int x :: st) ah Q = if ¬ x = y then WP E c 14 59 [a0, a1, a2] st ah Q else WP E c 14 55 [a0, a1, a2] st ah Q := wp_j i14_52 rfl rfl rfl rfl
theorem i14_55 : insAt 14 55 = some (.iconst 4, 56) := by decide +kernel
theorem r14_55 {E : aEnv} {c : Nat} {ah : aHp} {st : List Value} {Q : Option Value → aHp → Prop} {a0 a1 a2 : Option Value} : WP E c 14 55 [a0, a1, a2] (st) ah Q = WP E c 14 56 [a0, a1, a2] (.int (4) :: st) ah Q := wp_s i14_55 rfl rfl rfl rfl
theorem i14_56 : insAt 14 56 = some (.goto 60, 59) := by decide +kernel
theorem r14_56 {E : aEnv} {c : Nat} {ah : aHp} {st : List Value} {Q : Option Value → aHp → Prop} {a0 a1 a2 : Option Value} : WP E c 14 56 [a0, a1, a2] (st) ah Q = WP E c 14 60 [a0, a1, a2] st ah Q := wp_s i14_56 rfl rfl rfl rfl
theorem i14_59 : insAt 14 59 = some (.iconst 5, 60) := by decide +kernel
theorem r14_59 {E : aEnv} {c : Nat} {ah : aHp} {st : List Value} {Q : Option Value → aHp → Prop} {a0 a1 a2 : Option Value} : WP E c 14 59 [a0, a1, a2] (st) ah Q = WP E c 14 60 [a0, a1, a2] (.int (5) :: st) ah Q := wp_s i14_59 rfl rfl rfl rfl
theorem i14_60 : insAt 14 60 = some (.ireturn, 61) := by decide +kernel
theorem r14_60 {E : aEnv} {c : Nat} {ah : aHp} {Q : Option Value → aHp → Prop} {a0 a1 a2 : Option Value} {x : Int32} : WP E c 14 60 [a0, a1, a2] ([.int x]) ah Q = Q (some (.int x)) ah := wp_rt i14_60 rfl
theorem e15 {E : aEnv} {c : Nat} {ah ahF : aHp} {r : Option Value} {p0 : Nat} {p1 : Int32} (h : WP E c 15 0 [some (.ref p0), some (.int p1)] [] ah (fun r1 x1 => r1 = r ∧ x1 = ahF)) : EV E c 15 [.ref p0, .int p1] ah r ahF := EV.of (by rw [mr15.2.1]; exact h)
theorem i15_0 : insAt 15 0 = some (.iload 1, 1) := by decide +kernel
theorem r15_0 {E : aEnv} {c : Nat} {ah : aHp} {st : List Value} {Q : Option Value → aHp → Prop} {a0 : Option Value} {x : Int32} : WP E c 15 0 [a0, some (.int x)] (st) ah Q = WP E c 15 1 [a0, some (.int x)] (.int x :: st) ah Q := wp_s i15_0 rfl rfl rfl rfl
theorem i15_1 : insAt 15 1 = some (.ifCond .lt 34, 4) := by decide +kernel
theorem r15_1 {E : aEnv} {c : Nat} {ah : aHp} {st : List Value} {Q : Option Value → aHp → Prop} {a0 a1 : Option Value} {x : Int32} : WP E c 15 1 [a0, a1] (.int x :: st) ah Q = if x < 0 then WP E c 15 34 [a0, a1] st ah Q else WP E c 15 4 [a0, a1] st ah Q := wp_j i15_1 rfl rfl rfl rfl
theorem i15_4 : insAt 15 4 = some (.iload 1, 5) := by decide +kernel
theorem r15_4 {E : aEnv} {c : Nat} {ah : aHp} {st : List Value} {Q : Option Value → aHp → Prop} {a0 : Option Value} {x : Int32} : WP E c 15 4 [a0, some (.int x)] (st) ah Q = WP E c 15 5 [a0, some (.int x)] (.int x :: st) ah Q := wp_s i15_4 rfl rfl rfl rfl
theorem i15_5 : insAt 15 5 = some (.aload 0, 6) := by decide +kernel
theorem r15_5 {E : aEnv} {c : Nat} {ah : aHp} {st : List Value} {Q : Option Value → aHp → Prop} {a1 : Option Value} {x : Nat} : WP E c 15 5 [some (.ref x), a1] (st) ah Q = WP E c 15 6 [some (.ref x), a1] (.ref x :: st) ah Q := wp_s i15_5 rfl rfl rfl rfl
theorem i15_6 : insAt 15 6 = some (.getfield 10, 9) := by decide +kernel
theorem r15_6 {E : aEnv} {c : Nat} {ah : aHp} {st : List Value} {Q : Option Value → aHp → Prop} {a0 a1 : Option Value} {a : Nat} : WP E c 15 6 [a0, a1] (.ref a :: st) ah Q = WPo (oGF (hg E ah a) 0 1) (fun v => WP E c 15 9 [a0, a1] (v :: st) ah Q) := wp_getf i15_6
theorem i15_9 : insAt 15 9 = some (.if_icmp .ge 34, 12) := by decide +kernel
theorem r15_9 {E : aEnv} {c : Nat} {ah : aHp} {st : List Value} {Q : Option Value → aHp → Prop} {a0 a1 : Option Value} {x y : Int32} : WP E c 15 9 [a0, a1] (.int y :: .int x :: st) ah Q = if y ≤ x then WP E c 15 34 [a0, a1] st ah Q else WP E c 15 12 [a0, a1] st ah Q := wp_j i15_9 rfl rfl rfl rfl
theorem i15_12 : insAt 15 12 = some (.iload 1, 13) := by decide +kernel
theorem r15_12 {E : aEnv} {c : Nat} {ah : aHp} {st : List Value} {Q : Option Value → aHp → Prop} {a0 : Option Value} {x : Int32} : WP E c 15 12 [a0, some (.int x)] (st) ah Q = WP E c 15 13 [a0, some (.int x)] (.int x :: st) ah Q := wp_s i15_12 rfl rfl rfl rfl
theorem i15_13 : insAt 15 13 = some (.aload 0, 14) := by decide +kernel
theorem r15_13 {E : aEnv} {c : Nat} {ah : aHp} {st : List Value} {Q : Option Value → aHp → Prop} {a1 : Option Value} {x : Nat} : WP E c 15 13 [some (.ref x), a1] (st) ah Q = WP E c 15 14 [some (.ref x), a1] (.ref x :: st) ah Q := wp_s i15_13 rfl rfl rfl rfl
theorem i15_14 : insAt 15 14 = some (.getfield 2, 17) := by decide +kernel
theorem r15_14 {E : aEnv} {c : Nat} {ah : aHp} {st : List Value} {Q : Option Value → aHp → Prop} {a0 a1 : Option Value} {a : Nat} : WP E c 15 14 [a0, a1] (.ref a :: st) ah Q = WPo (oGF (hg E ah a) 0 0) (fun v => WP E c 15 17 [a0, a1] (v :: st) ah Q) := wp_getf i15_14
theorem i15_17 : insAt 15 17 = some (.arraylength, 18) := by decide +kernel
theorem r15_17 {E : aEnv} {c : Nat} {ah : aHp} {st : List Value} {Q : Option Value → aHp → Prop} {a0 a1 : Option Value} {a : Nat} : WP E c 15 17 [a0, a1] (.ref a :: st) ah Q = WPo (gN E ah (.ref a :: st)) (fun s9 => WP E c 15 18 [a0, a1] s9 ah Q) := wp_hr i15_17 rfl rfl rfl rfl rfl rfl rfl rfl
theorem i15_18 : insAt 15 18 = some (.if_icmp .ge 34, 21) := by decide +kernel
theorem r15_18 {E : aEnv} {c : Nat} {ah : aHp} {st : List Value} {Q : Option Value → aHp → Prop} {a0 a1 : Option Value} {x y : Int32} : WP E c 15 18 [a0, a1] (.int y :: .int x :: st) ah Q = if y ≤ x then WP E c 15 34 [a0, a1] st ah Q else WP E c 15 21 [a0, a1] st ah Q := wp_j i15_18 rfl rfl rfl rfl
theorem i15_21 : insAt 15 21 = some (.aload 0, 22) := by decide +kernel
theorem r15_21 {E : aEnv} {c : Nat} {ah : aHp} {st : List Value} {Q : Option Value → aHp → Prop} {a1 : Option Value} {x : Nat} : WP E c 15 21 [some (.ref x), a1] (st) ah Q = WP E c 15 22 [some (.ref x), a1] (.ref x :: st) ah Q := wp_s i15_21 rfl rfl rfl rfl
theorem i15_22 : insAt 15 22 = some (.getfield 2, 25) := by decide +kernel
theorem r15_22 {E : aEnv} {c : Nat} {ah : aHp} {st : List Value} {Q : Option Value → aHp → Prop} {a0 a1 : Option Value} {a : Nat} : WP E c 15 22 [a0, a1] (.ref a :: st) ah Q = WPo (oGF (hg E ah a) 0 0) (fun v => WP E c 15 25 [a0, a1] (v :: st) ah Q) := wp_getf i15_22
theorem i15_25 : insAt 15 25 = some (.iload 1, 26) := by decide +kernel
theorem r15_25 {E : aEnv} {c : Nat} {ah : aHp} {st : List Value} {Q : Option Value → aHp → Prop} {a0 : Option Value} {x : Int32} : WP E c 15 25 [a0, some (.int x)] (st) ah Q = WP E c 15 26 [a0, some (.int x)] (.int x :: st) ah Q := wp_s i15_25 rfl rfl rfl rfl
theorem i15_26 : insAt 15 26 = some (.baload, 27) := by decide +kernel
theorem r15_26 {E : aEnv} {c : Nat} {ah : aHp} {st : List Value} {Q : Option Value → aHp → Prop} {a0 a1 : Option Value} {i : Int32} {a : Nat} : WP E c 15 26 [a0, a1] (.int i :: .ref a :: st) ah Q = WPo (gB E ah (.int i :: .ref a :: st)) (fun s9 => WP E c 15 27 [a0, a1] s9 ah Q) := wp_hr i15_26 rfl rfl rfl rfl rfl rfl rfl rfl
theorem i15_27 : insAt 15 27 = some (.iconst 255, 30) := by decide +kernel
theorem r15_27 {E : aEnv} {c : Nat} {ah : aHp} {st : List Value} {Q : Option Value → aHp → Prop} {a0 a1 : Option Value} : WP E c 15 27 [a0, a1] (st) ah Q = WP E c 15 30 [a0, a1] (.int (255) :: st) ah Q := wp_s i15_27 rfl rfl rfl rfl
theorem i15_30 : insAt 15 30 = some (.iand, 31) := by decide +kernel
theorem r15_30 {E : aEnv} {c : Nat} {ah : aHp} {st : List Value} {Q : Option Value → aHp → Prop} {a0 a1 : Option Value} {x y : Int32} : WP E c 15 30 [a0, a1] (.int y :: .int x :: st) ah Q = WP E c 15 31 [a0, a1] (.int (x &&& y) :: st) ah Q := wp_s i15_30 rfl rfl rfl rfl
theorem i15_31 : insAt 15 31 = some (.goto 35, 34) := by decide +kernel
theorem r15_31 {E : aEnv} {c : Nat} {ah : aHp} {st : List Value} {Q : Option Value → aHp → Prop} {a0 a1 : Option Value} : WP E c 15 31 [a0, a1] (st) ah Q = WP E c 15 35 [a0, a1] st ah Q := wp_s i15_31 rfl rfl rfl rfl
theorem i15_34 : insAt 15 34 = some (.iconst (-1), 35) := by decide +kernel
theorem r15_34 {E : aEnv} {c : Nat} {ah : aHp} {st : List Value} {Q : Option Value → aHp → Prop} {a0 a1 : Option Value} : WP E c 15 34 [a0, a1] (st) ah Q = WP E c 15 35 [a0, a1] (.int ((-1)) :: st) ah Q := wp_s i15_34 rfl rfl rfl rfl
theorem i15_35 : insAt 15 35 = some (.ireturn, 36) := by decide +kernel
theorem r15_35 {E : aEnv} {c : Nat} {ah : aHp} {Q : Option Value → aHp → Prop} {a0 a1 : Option Value} {x : Int32} : WP E c 15 35 [a0, a1] ([.int x]) ah Q = Q (some (.int x)) ah := wp_rt i15_35 rfl
theorem e16 {E : aEnv} {c : Nat} {ah ahF : aHp} {r : Option Value} {p0 : Nat} (h : WP E c 16 0 [some (.ref p0)] [] ah (fun r1 x1 => r1 = r ∧ x1 = ahF)) : EV E c 16 [.ref p0] ah r ahF := EV.of (by rw [mr16.2.1]; exact h)
theorem i16_0 : insAt 16 0 = some (.aload 0, 1) := by decide +kernel
theorem r16_0 {E : aEnv} {c : Nat} {ah : aHp} {st : List Value} {Q : Option Value → aHp → Prop} {x : Nat} : WP E c 16 0 [some (.ref x)] (st) ah Q = WP E c 16 1 [some (.ref x)] (.ref x :: st) ah Q := wp_s i16_0 rfl rfl rfl rfl
theorem i16_1 : insAt 16 1 = some (.ldc_w 4, 4) := by decide +kernel
-- 16 1 .ldc_w 4
theorem i16_4 : insAt 16 4 = some (.aload 0, 5) := by decide +kernel
theorem r16_4 {E : aEnv} {c : Nat} {ah : aHp} {st : List Value} {Q : Option Value → aHp → Prop} {x : Nat} : WP E c 16 4 [some (.ref x)] (st) ah Q = WP E c 16 5 [some (.ref x)] (.ref x :: st) ah Q := wp_s i16_4 rfl rfl rfl rfl
theorem i16_5 : insAt 16 5 = some (.iconst 40, 7) := by decide +kernel
theorem r16_5 {E : aEnv} {c : Nat} {ah : aHp} {st : List Value} {Q : Option Value → aHp → Prop} {a0 : Option Value} : WP E c 16 5 [a0] (st) ah Q = WP E c 16 7 [a0] (.int (40) :: st) ah Q := wp_s i16_5 rfl rfl rfl rfl
theorem i16_7 : insAt 16 7 = some (.newarray .int, 9) := by decide +kernel
theorem r16_7 {E : aEnv} {c : Nat} {ah : aHp} {st : List Value} {Q : Option Value → aHp → Prop} {a0 : Option Value} {x : Int32} : WP E c 16 7 [a0] (.int x :: st) ah Q = WPo (nR E ah 0 (.int x :: st)) (fun q9 => WP E c 16 9 [a0] q9.1 q9.2 Q) := wp_hw i16_7 rfl rfl rfl rfl rfl rfl rfl rfl
theorem i16_9 : insAt 16 9 = some (.putfield 1002, 12) := by decide +kernel
theorem r16_9 {E : aEnv} {c : Nat} {ah : aHp} {st : List Value} {Q : Option Value → aHp → Prop} {a0 : Option Value} {a : Nat} {v : Value} : WP E c 16 9 [a0] (v :: .ref a :: st) ah Q = WPo (oPF (hg E ah a) 1002 v) (fun e => WP E c 16 12 [a0] st (hs E ah a e) Q) := wp_putf i16_9
theorem i16_12 : insAt 16 12 = some (.aload 0, 13) := by decide +kernel
theorem r16_12 {E : aEnv} {c : Nat} {ah : aHp} {st : List Value} {Q : Option Value → aHp → Prop} {x : Nat} : WP E c 16 12 [some (.ref x)] (st) ah Q = WP E c 16 13 [some (.ref x)] (.ref x :: st) ah Q := wp_s i16_12 rfl rfl rfl rfl
theorem i16_13 : insAt 16 13 = some (.iconst 40, 15) := by decide +kernel
theorem r16_13 {E : aEnv} {c : Nat} {ah : aHp} {st : List Value} {Q : Option Value → aHp → Prop} {a0 : Option Value} : WP E c 16 13 [a0] (st) ah Q = WP E c 16 15 [a0] (.int (40) :: st) ah Q := wp_s i16_13 rfl rfl rfl rfl
theorem i16_15 : insAt 16 15 = some (.newarray .int, 17) := by decide +kernel
theorem r16_15 {E : aEnv} {c : Nat} {ah : aHp} {st : List Value} {Q : Option Value → aHp → Prop} {a0 : Option Value} {x : Int32} : WP E c 16 15 [a0] (.int x :: st) ah Q = WPo (nR E ah 0 (.int x :: st)) (fun q9 => WP E c 16 17 [a0] q9.1 q9.2 Q) := wp_hw i16_15 rfl rfl rfl rfl rfl rfl rfl rfl
theorem i16_17 : insAt 16 17 = some (.putfield 1012, 20) := by decide +kernel
theorem r16_17 {E : aEnv} {c : Nat} {ah : aHp} {st : List Value} {Q : Option Value → aHp → Prop} {a0 : Option Value} {a : Nat} {v : Value} : WP E c 16 17 [a0] (v :: .ref a :: st) ah Q = WPo (oPF (hg E ah a) 1012 v) (fun e => WP E c 16 20 [a0] st (hs E ah a e) Q) := wp_putf i16_17
theorem i16_20 : insAt 16 20 = some (.aload 0, 21) := by decide +kernel
theorem r16_20 {E : aEnv} {c : Nat} {ah : aHp} {st : List Value} {Q : Option Value → aHp → Prop} {x : Nat} : WP E c 16 20 [some (.ref x)] (st) ah Q = WP E c 16 21 [some (.ref x)] (.ref x :: st) ah Q := wp_s i16_20 rfl rfl rfl rfl
theorem i16_21 : insAt 16 21 = some (.iconst 160, 24) := by decide +kernel
theorem r16_21 {E : aEnv} {c : Nat} {ah : aHp} {st : List Value} {Q : Option Value → aHp → Prop} {a0 : Option Value} : WP E c 16 21 [a0] (st) ah Q = WP E c 16 24 [a0] (.int (160) :: st) ah Q := wp_s i16_21 rfl rfl rfl rfl
theorem i16_24 : insAt 16 24 = some (.newarray .int, 26) := by decide +kernel
theorem r16_24 {E : aEnv} {c : Nat} {ah : aHp} {st : List Value} {Q : Option Value → aHp → Prop} {a0 : Option Value} {x : Int32} : WP E c 16 24 [a0] (.int x :: st) ah Q = WPo (nR E ah 0 (.int x :: st)) (fun q9 => WP E c 16 26 [a0] q9.1 q9.2 Q) := wp_hw i16_24 rfl rfl rfl rfl rfl rfl rfl rfl
theorem i16_26 : insAt 16 26 = some (.putfield 1022, 29) := by decide +kernel
theorem r16_26 {E : aEnv} {c : Nat} {ah : aHp} {st : List Value} {Q : Option Value → aHp → Prop} {a0 : Option Value} {a : Nat} {v : Value} : WP E c 16 26 [a0] (v :: .ref a :: st) ah Q = WPo (oPF (hg E ah a) 1022 v) (fun e => WP E c 16 29 [a0] st (hs E ah a e) Q) := wp_putf i16_26
theorem i16_29 : insAt 16 29 = some (.aload 0, 30) := by decide +kernel
theorem r16_29 {E : aEnv} {c : Nat} {ah : aHp} {st : List Value} {Q : Option Value → aHp → Prop} {x : Nat} : WP E c 16 29 [some (.ref x)] (st) ah Q = WP E c 16 30 [some (.ref x)] (.ref x :: st) ah Q := wp_s i16_29 rfl rfl rfl rfl
theorem i16_30 : insAt 16 30 = some (.iconst 40, 32) := by decide +kernel
theorem r16_30 {E : aEnv} {c : Nat} {ah : aHp} {st : List Value} {Q : Option Value → aHp → Prop} {a0 : Option Value} : WP E c 16 30 [a0] (st) ah Q = WP E c 16 32 [a0] (.int (40) :: st) ah Q := wp_s i16_30 rfl rfl rfl rfl
theorem i16_32 : insAt 16 32 = some (.newarray .int, 34) := by decide +kernel
theorem r16_32 {E : aEnv} {c : Nat} {ah : aHp} {st : List Value} {Q : Option Value → aHp → Prop} {a0 : Option Value} {x : Int32} : WP E c 16 32 [a0] (.int x :: st) ah Q = WPo (nR E ah 0 (.int x :: st)) (fun q9 => WP E c 16 34 [a0] q9.1 q9.2 Q) := wp_hw i16_32 rfl rfl rfl rfl rfl rfl rfl rfl
theorem i16_34 : insAt 16 34 = some (.putfield 1032, 37) := by decide +kernel
theorem r16_34 {E : aEnv} {c : Nat} {ah : aHp} {st : List Value} {Q : Option Value → aHp → Prop} {a0 : Option Value} {a : Nat} {v : Value} : WP E c 16 34 [a0] (v :: .ref a :: st) ah Q = WPo (oPF (hg E ah a) 1032 v) (fun e => WP E c 16 37 [a0] st (hs E ah a e) Q) := wp_putf i16_34
theorem i16_37 : insAt 16 37 = some (.aload 0, 38) := by decide +kernel
theorem r16_37 {E : aEnv} {c : Nat} {ah : aHp} {st : List Value} {Q : Option Value → aHp → Prop} {x : Nat} : WP E c 16 37 [some (.ref x)] (st) ah Q = WP E c 16 38 [some (.ref x)] (.ref x :: st) ah Q := wp_s i16_37 rfl rfl rfl rfl
theorem i16_38 : insAt 16 38 = some (.iconst 40, 40) := by decide +kernel
theorem r16_38 {E : aEnv} {c : Nat} {ah : aHp} {st : List Value} {Q : Option Value → aHp → Prop} {a0 : Option Value} : WP E c 16 38 [a0] (st) ah Q = WP E c 16 40 [a0] (.int (40) :: st) ah Q := wp_s i16_38 rfl rfl rfl rfl
theorem i16_40 : insAt 16 40 = some (.newarray .long, 42) := by decide +kernel
theorem r16_40 {E : aEnv} {c : Nat} {ah : aHp} {st : List Value} {Q : Option Value → aHp → Prop} {a0 : Option Value} {x : Int32} : WP E c 16 40 [a0] (.int x :: st) ah Q = WPo (nR E ah 1 (.int x :: st)) (fun q9 => WP E c 16 42 [a0] q9.1 q9.2 Q) := wp_hw i16_40 rfl rfl rfl rfl rfl rfl rfl rfl
theorem i16_42 : insAt 16 42 = some (.putfield 1042, 45) := by decide +kernel
theorem r16_42 {E : aEnv} {c : Nat} {ah : aHp} {st : List Value} {Q : Option Value → aHp → Prop} {a0 : Option Value} {a : Nat} {v : Value} : WP E c 16 42 [a0] (v :: .ref a :: st) ah Q = WPo (oPF (hg E ah a) 1042 v) (fun e => WP E c 16 45 [a0] st (hs E ah a e) Q) := wp_putf i16_42
theorem i16_45 : insAt 16 45 = some (.return_, 46) := by decide +kernel
theorem r16_45 {E : aEnv} {c : Nat} {ah : aHp} {Q : Option Value → aHp → Prop} {a0 : Option Value} : WP E c 16 45 [a0] ([]) ah Q = Q none ah := wp_rt i16_45 rfl
theorem e17 {E : aEnv} {c : Nat} {ah ahF : aHp} {r : Option Value} {p0 : Nat} (h : WP E c 17 0 [some (.ref p0)] [] ah (fun r1 x1 => r1 = r ∧ x1 = ahF)) : EV E c 17 [.ref p0] ah r ahF := EV.of (by rw [mr17.2.1]; exact h)
theorem i17_0 : insAt 17 0 = some (.aload 0, 1) := by decide +kernel
theorem r17_0 {E : aEnv} {c : Nat} {ah : aHp} {st : List Value} {Q : Option Value → aHp → Prop} {x : Nat} : WP E c 17 0 [some (.ref x)] (st) ah Q = WP E c 17 1 [some (.ref x)] (.ref x :: st) ah Q := wp_s i17_0 rfl rfl rfl rfl
theorem i17_1 : insAt 17 1 = some (.getfield 1050, 4) := by decide +kernel
theorem r17_1 {E : aEnv} {c : Nat} {ah : aHp} {st : List Value} {Q : Option Value → aHp → Prop} {a0 : Option Value} {a : Nat} : WP E c 17 1 [a0] (.ref a :: st) ah Q = WPo (oGF (hg E ah a) 1 5) (fun v => WP E c 17 4 [a0] (v :: st) ah Q) := wp_getf i17_1
theorem i17_4 : insAt 17 4 = some (.iconst 40, 6) := by decide +kernel
theorem r17_4 {E : aEnv} {c : Nat} {ah : aHp} {st : List Value} {Q : Option Value → aHp → Prop} {a0 : Option Value} : WP E c 17 4 [a0] (st) ah Q = WP E c 17 6 [a0] (.int (40) :: st) ah Q := wp_s i17_4 rfl rfl rfl rfl
theorem i17_6 : insAt 17 6 = some (.if_icmp .lt 13, 9) := by decide +kernel
theorem r17_6 {E : aEnv} {c : Nat} {ah : aHp} {st : List Value} {Q : Option Value → aHp → Prop} {a0 : Option Value} {x y : Int32} : WP E c 17 6 [a0] (.int y :: .int x :: st) ah Q = if x < y then WP E c 17 13 [a0] st ah Q else WP E c 17 9 [a0] st ah Q := wp_j i17_6 rfl rfl rfl rfl
theorem i17_9 : insAt 17 9 = some (.iconst 1, 10) := by decide +kernel
theorem r17_9 {E : aEnv} {c : Nat} {ah : aHp} {st : List Value} {Q : Option Value → aHp → Prop} {a0 : Option Value} : WP E c 17 9 [a0] (st) ah Q = WP E c 17 10 [a0] (.int (1) :: st) ah Q := wp_s i17_9 rfl rfl rfl rfl
theorem i17_10 : insAt 17 10 = some (.goto 14, 13) := by decide +kernel
theorem r17_10 {E : aEnv} {c : Nat} {ah : aHp} {st : List Value} {Q : Option Value → aHp → Prop} {a0 : Option Value} : WP E c 17 10 [a0] (st) ah Q = WP E c 17 14 [a0] st ah Q := wp_s i17_10 rfl rfl rfl rfl
theorem i17_13 : insAt 17 13 = some (.iconst 0, 14) := by decide +kernel
theorem r17_13 {E : aEnv} {c : Nat} {ah : aHp} {st : List Value} {Q : Option Value → aHp → Prop} {a0 : Option Value} : WP E c 17 13 [a0] (st) ah Q = WP E c 17 14 [a0] (.int (0) :: st) ah Q := wp_s i17_13 rfl rfl rfl rfl
theorem i17_14 : insAt 17 14 = some (.freturn, 15) := by decide +kernel
theorem r17_14 {E : aEnv} {c : Nat} {ah : aHp} {Q : Option Value → aHp → Prop} {a0 : Option Value} {x : Int32} (hx : x = 0 ∨ x = 1) : WP E c 17 14 [a0] ([.int x]) ah Q = Q (some (.int x)) ah := wp_rt i17_14 (by simp only [rtA, if_pos hx])
theorem e18 {E : aEnv} {c : Nat} {ah ahF : aHp} {r : Option Value} {p0 : Nat} {p1 : Int32} (h : WP E c 18 0 [some (.ref p0), some (.int p1)] [] ah (fun r1 x1 => r1 = r ∧ x1 = ahF)) : EV E c 18 [.ref p0, .int p1] ah r ahF := EV.of (by rw [mr18.2.1]; exact h)
theorem i18_0 : insAt 18 0 = some (.iload 1, 1) := by decide +kernel
theorem r18_0 {E : aEnv} {c : Nat} {ah : aHp} {st : List Value} {Q : Option Value → aHp → Prop} {a0 : Option Value} {x : Int32} : WP E c 18 0 [a0, some (.int x)] (st) ah Q = WP E c 18 1 [a0, some (.int x)] (.int x :: st) ah Q := wp_s i18_0 rfl rfl rfl rfl
theorem i18_1 : insAt 18 1 = some (.ifCond .lt 16, 4) := by decide +kernel
theorem r18_1 {E : aEnv} {c : Nat} {ah : aHp} {st : List Value} {Q : Option Value → aHp → Prop} {a0 a1 : Option Value} {x : Int32} : WP E c 18 1 [a0, a1] (.int x :: st) ah Q = if x < 0 then WP E c 18 16 [a0, a1] st ah Q else WP E c 18 4 [a0, a1] st ah Q := wp_j i18_1 rfl rfl rfl rfl
theorem i18_4 : insAt 18 4 = some (.iload 1, 5) := by decide +kernel
theorem r18_4 {E : aEnv} {c : Nat} {ah : aHp} {st : List Value} {Q : Option Value → aHp → Prop} {a0 : Option Value} {x : Int32} : WP E c 18 4 [a0, some (.int x)] (st) ah Q = WP E c 18 5 [a0, some (.int x)] (.int x :: st) ah Q := wp_s i18_4 rfl rfl rfl rfl
theorem i18_5 : insAt 18 5 = some (.aload 0, 6) := by decide +kernel
theorem r18_5 {E : aEnv} {c : Nat} {ah : aHp} {st : List Value} {Q : Option Value → aHp → Prop} {a1 : Option Value} {x : Nat} : WP E c 18 5 [some (.ref x), a1] (st) ah Q = WP E c 18 6 [some (.ref x), a1] (.ref x :: st) ah Q := wp_s i18_5 rfl rfl rfl rfl
theorem i18_6 : insAt 18 6 = some (.getfield 1050, 9) := by decide +kernel
theorem r18_6 {E : aEnv} {c : Nat} {ah : aHp} {st : List Value} {Q : Option Value → aHp → Prop} {a0 a1 : Option Value} {a : Nat} : WP E c 18 6 [a0, a1] (.ref a :: st) ah Q = WPo (oGF (hg E ah a) 1 5) (fun v => WP E c 18 9 [a0, a1] (v :: st) ah Q) := wp_getf i18_6
theorem i18_9 : insAt 18 9 = some (.if_icmp .ge 16, 12) := by decide +kernel
theorem r18_9 {E : aEnv} {c : Nat} {ah : aHp} {st : List Value} {Q : Option Value → aHp → Prop} {a0 a1 : Option Value} {x y : Int32} : WP E c 18 9 [a0, a1] (.int y :: .int x :: st) ah Q = if y ≤ x then WP E c 18 16 [a0, a1] st ah Q else WP E c 18 12 [a0, a1] st ah Q := wp_j i18_9 rfl rfl rfl rfl
theorem i18_12 : insAt 18 12 = some (.iconst 1, 13) := by decide +kernel
theorem r18_12 {E : aEnv} {c : Nat} {ah : aHp} {st : List Value} {Q : Option Value → aHp → Prop} {a0 a1 : Option Value} : WP E c 18 12 [a0, a1] (st) ah Q = WP E c 18 13 [a0, a1] (.int (1) :: st) ah Q := wp_s i18_12 rfl rfl rfl rfl
theorem i18_13 : insAt 18 13 = some (.goto 17, 16) := by decide +kernel
theorem r18_13 {E : aEnv} {c : Nat} {ah : aHp} {st : List Value} {Q : Option Value → aHp → Prop} {a0 a1 : Option Value} : WP E c 18 13 [a0, a1] (st) ah Q = WP E c 18 17 [a0, a1] st ah Q := wp_s i18_13 rfl rfl rfl rfl
theorem i18_16 : insAt 18 16 = some (.iconst 0, 17) := by decide +kernel
theorem r18_16 {E : aEnv} {c : Nat} {ah : aHp} {st : List Value} {Q : Option Value → aHp → Prop} {a0 a1 : Option Value} : WP E c 18 16 [a0, a1] (st) ah Q = WP E c 18 17 [a0, a1] (.int (0) :: st) ah Q := wp_s i18_16 rfl rfl rfl rfl
theorem i18_17 : insAt 18 17 = some (.freturn, 18) := by decide +kernel
theorem r18_17 {E : aEnv} {c : Nat} {ah : aHp} {Q : Option Value → aHp → Prop} {a0 a1 : Option Value} {x : Int32} (hx : x = 0 ∨ x = 1) : WP E c 18 17 [a0, a1] ([.int x]) ah Q = Q (some (.int x)) ah := wp_rt i18_17 (by simp only [rtA, if_pos hx])
theorem e19 {E : aEnv} {c : Nat} {ah ahF : aHp} {r : Option Value} {p0 : Nat} {p1 : Int32} (h : WP E c 19 0 [some (.ref p0), some (.int p1)] [] ah (fun r1 x1 => r1 = r ∧ x1 = ahF)) : EV E c 19 [.ref p0, .int p1] ah r ahF := EV.of (by rw [mr19.2.1]; exact h)
theorem i19_0 : insAt 19 0 = some (.aload 0, 1) := by decide +kernel
theorem r19_0 {E : aEnv} {c : Nat} {ah : aHp} {st : List Value} {Q : Option Value → aHp → Prop} {a1 : Option Value} {x : Nat} : WP E c 19 0 [some (.ref x), a1] (st) ah Q = WP E c 19 1 [some (.ref x), a1] (.ref x :: st) ah Q := wp_s i19_0 rfl rfl rfl rfl
theorem i19_1 : insAt 19 1 = some (.iload 1, 2) := by decide +kernel
theorem r19_1 {E : aEnv} {c : Nat} {ah : aHp} {st : List Value} {Q : Option Value → aHp → Prop} {a0 : Option Value} {x : Int32} : WP E c 19 1 [a0, some (.int x)] (st) ah Q = WP E c 19 2 [a0, some (.int x)] (.int x :: st) ah Q := wp_s i19_1 rfl rfl rfl rfl
theorem i19_2 : insAt 19 2 = some (.invokevirtual 18, 5) := by decide +kernel
theorem r19_2 {E : aEnv} {c : Nat} {ah ah1 : aHp} {r : Option Value} {st : List Value} {Q : Option Value → aHp → Prop} {a0 a1 : Option Value} {p0 : Nat} {p1 : Int32} (h : EV E c 18 [.ref p0, .int p1] ah r ah1) (h2 : oCI (hg E ah p0) = 1) (h3 : wds st ≤ 8) : WP E (c + 1) 19 2 [a0, a1] (.int p1 :: .ref p0 :: st) ah Q = WP E (c + 1) 19 5 [a0, a1] (r.toList ++ st) ah1 Q := wp_call (As := [.ref p0, .int p1]) i19_2 (fun _ => rfl) rfl mr18.1 (rcv_1 h2 mr18.2.2 (by decide)) h3 (by rw [mr18.2.1]; exact Nat.le_of_ble_eq_true rfl) h
theorem i19_5 : insAt 19 5 = some (.ifCond .eq 17, 8) := by decide +kernel
theorem r19_5 {E : aEnv} {c : Nat} {ah : aHp} {st : List Value} {Q : Option Value → aHp → Prop} {a0 a1 : Option Value} {x : Int32} : WP E c 19 5 [a0, a1] (.int x :: st) ah Q = if x = 0 then WP E c 19 17 [a0, a1] st ah Q else WP E c 19 8 [a0, a1] st ah Q := wp_j i19_5 rfl rfl rfl rfl
theorem i19_8 : insAt 19 8 = some (.aload 0, 9) := by decide +kernel
theorem r19_8 {E : aEnv} {c : Nat} {ah : aHp} {st : List Value} {Q : Option Value → aHp → Prop} {a1 : Option Value} {x : Nat} : WP E c 19 8 [some (.ref x), a1] (st) ah Q = WP E c 19 9 [some (.ref x), a1] (.ref x :: st) ah Q := wp_s i19_8 rfl rfl rfl rfl
theorem i19_9 : insAt 19 9 = some (.getfield 1002, 12) := by decide +kernel
theorem r19_9 {E : aEnv} {c : Nat} {ah : aHp} {st : List Value} {Q : Option Value → aHp → Prop} {a0 a1 : Option Value} {a : Nat} : WP E c 19 9 [a0, a1] (.ref a :: st) ah Q = WPo (oGF (hg E ah a) 1 0) (fun v => WP E c 19 12 [a0, a1] (v :: st) ah Q) := wp_getf i19_9
theorem i19_12 : insAt 19 12 = some (.iload 1, 13) := by decide +kernel
theorem r19_12 {E : aEnv} {c : Nat} {ah : aHp} {st : List Value} {Q : Option Value → aHp → Prop} {a0 : Option Value} {x : Int32} : WP E c 19 12 [a0, some (.int x)] (st) ah Q = WP E c 19 13 [a0, some (.int x)] (.int x :: st) ah Q := wp_s i19_12 rfl rfl rfl rfl
theorem i19_13 : insAt 19 13 = some (.iaload, 14) := by decide +kernel
theorem r19_13 {E : aEnv} {c : Nat} {ah : aHp} {st : List Value} {Q : Option Value → aHp → Prop} {a0 a1 : Option Value} {i : Int32} {a : Nat} : WP E c 19 13 [a0, a1] (.int i :: .ref a :: st) ah Q = WPo (gI E ah (.int i :: .ref a :: st)) (fun s9 => WP E c 19 14 [a0, a1] s9 ah Q) := wp_hr i19_13 rfl rfl rfl rfl rfl rfl rfl rfl
theorem i19_14 : insAt 19 14 = some (.goto 18, 17) := by decide +kernel
theorem r19_14 {E : aEnv} {c : Nat} {ah : aHp} {st : List Value} {Q : Option Value → aHp → Prop} {a0 a1 : Option Value} : WP E c 19 14 [a0, a1] (st) ah Q = WP E c 19 18 [a0, a1] st ah Q := wp_s i19_14 rfl rfl rfl rfl
theorem i19_17 : insAt 19 17 = some (.iconst (-1), 18) := by decide +kernel
theorem r19_17 {E : aEnv} {c : Nat} {ah : aHp} {st : List Value} {Q : Option Value → aHp → Prop} {a0 a1 : Option Value} : WP E c 19 17 [a0, a1] (st) ah Q = WP E c 19 18 [a0, a1] (.int ((-1)) :: st) ah Q := wp_s i19_17 rfl rfl rfl rfl
theorem i19_18 : insAt 19 18 = some (.ireturn, 19) := by decide +kernel
theorem r19_18 {E : aEnv} {c : Nat} {ah : aHp} {Q : Option Value → aHp → Prop} {a0 a1 : Option Value} {x : Int32} : WP E c 19 18 [a0, a1] ([.int x]) ah Q = Q (some (.int x)) ah := wp_rt i19_18 rfl
theorem e20 {E : aEnv} {c : Nat} {ah ahF : aHp} {r : Option Value} {p0 : Nat} {p1 : Int32} (h : WP E c 20 0 [some (.ref p0), some (.int p1)] [] ah (fun r1 x1 => r1 = r ∧ x1 = ahF)) : EV E c 20 [.ref p0, .int p1] ah r ahF := EV.of (by rw [mr20.2.1]; exact h)
theorem i20_0 : insAt 20 0 = some (.aload 0, 1) := by decide +kernel
theorem r20_0 {E : aEnv} {c : Nat} {ah : aHp} {st : List Value} {Q : Option Value → aHp → Prop} {a1 : Option Value} {x : Nat} : WP E c 20 0 [some (.ref x), a1] (st) ah Q = WP E c 20 1 [some (.ref x), a1] (.ref x :: st) ah Q := wp_s i20_0 rfl rfl rfl rfl
theorem i20_1 : insAt 20 1 = some (.iload 1, 2) := by decide +kernel
theorem r20_1 {E : aEnv} {c : Nat} {ah : aHp} {st : List Value} {Q : Option Value → aHp → Prop} {a0 : Option Value} {x : Int32} : WP E c 20 1 [a0, some (.int x)] (st) ah Q = WP E c 20 2 [a0, some (.int x)] (.int x :: st) ah Q := wp_s i20_1 rfl rfl rfl rfl
theorem i20_2 : insAt 20 2 = some (.invokevirtual 18, 5) := by decide +kernel
theorem r20_2 {E : aEnv} {c : Nat} {ah ah1 : aHp} {r : Option Value} {st : List Value} {Q : Option Value → aHp → Prop} {a0 a1 : Option Value} {p0 : Nat} {p1 : Int32} (h : EV E c 18 [.ref p0, .int p1] ah r ah1) (h2 : oCI (hg E ah p0) = 1) (h3 : wds st ≤ 8) : WP E (c + 1) 20 2 [a0, a1] (.int p1 :: .ref p0 :: st) ah Q = WP E (c + 1) 20 5 [a0, a1] (r.toList ++ st) ah1 Q := wp_call (As := [.ref p0, .int p1]) i20_2 (fun _ => rfl) rfl mr18.1 (rcv_1 h2 mr18.2.2 (by decide)) h3 (by rw [mr18.2.1]; exact Nat.le_of_ble_eq_true rfl) h
theorem i20_5 : insAt 20 5 = some (.ifCond .eq 17, 8) := by decide +kernel
theorem r20_5 {E : aEnv} {c : Nat} {ah : aHp} {st : List Value} {Q : Option Value → aHp → Prop} {a0 a1 : Option Value} {x : Int32} : WP E c 20 5 [a0, a1] (.int x :: st) ah Q = if x = 0 then WP E c 20 17 [a0, a1] st ah Q else WP E c 20 8 [a0, a1] st ah Q := wp_j i20_5 rfl rfl rfl rfl
theorem i20_8 : insAt 20 8 = some (.aload 0, 9) := by decide +kernel
theorem r20_8 {E : aEnv} {c : Nat} {ah : aHp} {st : List Value} {Q : Option Value → aHp → Prop} {a1 : Option Value} {x : Nat} : WP E c 20 8 [some (.ref x), a1] (st) ah Q = WP E c 20 9 [some (.ref x), a1] (.ref x :: st) ah Q := wp_s i20_8 rfl rfl rfl rfl
theorem i20_9 : insAt 20 9 = some (.getfield 1012, 12) := by decide +kernel
theorem r20_9 {E : aEnv} {c : Nat} {ah : aHp} {st : List Value} {Q : Option Value → aHp → Prop} {a0 a1 : Option Value} {a : Nat} : WP E c 20 9 [a0, a1] (.ref a :: st) ah Q = WPo (oGF (hg E ah a) 1 1) (fun v => WP E c 20 12 [a0, a1] (v :: st) ah Q) := wp_getf i20_9
theorem i20_12 : insAt 20 12 = some (.iload 1, 13) := by decide +kernel
theorem r20_12 {E : aEnv} {c : Nat} {ah : aHp} {st : List Value} {Q : Option Value → aHp → Prop} {a0 : Option Value} {x : Int32} : WP E c 20 12 [a0, some (.int x)] (st) ah Q = WP E c 20 13 [a0, some (.int x)] (.int x :: st) ah Q := wp_s i20_12 rfl rfl rfl rfl
theorem i20_13 : insAt 20 13 = some (.iaload, 14) := by decide +kernel
theorem r20_13 {E : aEnv} {c : Nat} {ah : aHp} {st : List Value} {Q : Option Value → aHp → Prop} {a0 a1 : Option Value} {i : Int32} {a : Nat} : WP E c 20 13 [a0, a1] (.int i :: .ref a :: st) ah Q = WPo (gI E ah (.int i :: .ref a :: st)) (fun s9 => WP E c 20 14 [a0, a1] s9 ah Q) := wp_hr i20_13 rfl rfl rfl rfl rfl rfl rfl rfl
theorem i20_14 : insAt 20 14 = some (.goto 18, 17) := by decide +kernel
theorem r20_14 {E : aEnv} {c : Nat} {ah : aHp} {st : List Value} {Q : Option Value → aHp → Prop} {a0 a1 : Option Value} : WP E c 20 14 [a0, a1] (st) ah Q = WP E c 20 18 [a0, a1] st ah Q := wp_s i20_14 rfl rfl rfl rfl
theorem i20_17 : insAt 20 17 = some (.iconst 0, 18) := by decide +kernel
theorem r20_17 {E : aEnv} {c : Nat} {ah : aHp} {st : List Value} {Q : Option Value → aHp → Prop} {a0 a1 : Option Value} : WP E c 20 17 [a0, a1] (st) ah Q = WP E c 20 18 [a0, a1] (.int (0) :: st) ah Q := wp_s i20_17 rfl rfl rfl rfl
theorem i20_18 : insAt 20 18 = some (.ireturn, 19) := by decide +kernel
theorem r20_18 {E : aEnv} {c : Nat} {ah : aHp} {Q : Option Value → aHp → Prop} {a0 a1 : Option Value} {x : Int32} : WP E c 20 18 [a0, a1] ([.int x]) ah Q = Q (some (.int x)) ah := wp_rt i20_18 rfl
theorem e21 {E : aEnv} {c : Nat} {ah ahF : aHp} {r : Option Value} {p0 : Nat} {p1 : Int32} (h : WP E c 21 0 [some (.ref p0), some (.int p1)] [] ah (fun r1 x1 => r1 = r ∧ x1 = ahF)) : EV E c 21 [.ref p0, .int p1] ah r ahF := EV.of (by rw [mr21.2.1]; exact h)
theorem i21_0 : insAt 21 0 = some (.aload 0, 1) := by decide +kernel
theorem r21_0 {E : aEnv} {c : Nat} {ah : aHp} {st : List Value} {Q : Option Value → aHp → Prop} {a1 : Option Value} {x : Nat} : WP E c 21 0 [some (.ref x), a1] (st) ah Q = WP E c 21 1 [some (.ref x), a1] (.ref x :: st) ah Q := wp_s i21_0 rfl rfl rfl rfl
theorem i21_1 : insAt 21 1 = some (.iload 1, 2) := by decide +kernel
theorem r21_1 {E : aEnv} {c : Nat} {ah : aHp} {st : List Value} {Q : Option Value → aHp → Prop} {a0 : Option Value} {x : Int32} : WP E c 21 1 [a0, some (.int x)] (st) ah Q = WP E c 21 2 [a0, some (.int x)] (.int x :: st) ah Q := wp_s i21_1 rfl rfl rfl rfl
theorem i21_2 : insAt 21 2 = some (.invokevirtual 18, 5) := by decide +kernel
theorem r21_2 {E : aEnv} {c : Nat} {ah ah1 : aHp} {r : Option Value} {st : List Value} {Q : Option Value → aHp → Prop} {a0 a1 : Option Value} {p0 : Nat} {p1 : Int32} (h : EV E c 18 [.ref p0, .int p1] ah r ah1) (h2 : oCI (hg E ah p0) = 1) (h3 : wds st ≤ 8) : WP E (c + 1) 21 2 [a0, a1] (.int p1 :: .ref p0 :: st) ah Q = WP E (c + 1) 21 5 [a0, a1] (r.toList ++ st) ah1 Q := wp_call (As := [.ref p0, .int p1]) i21_2 (fun _ => rfl) rfl mr18.1 (rcv_1 h2 mr18.2.2 (by decide)) h3 (by rw [mr18.2.1]; exact Nat.le_of_ble_eq_true rfl) h
theorem i21_5 : insAt 21 5 = some (.ifCond .eq 17, 8) := by decide +kernel
theorem r21_5 {E : aEnv} {c : Nat} {ah : aHp} {st : List Value} {Q : Option Value → aHp → Prop} {a0 a1 : Option Value} {x : Int32} : WP E c 21 5 [a0, a1] (.int x :: st) ah Q = if x = 0 then WP E c 21 17 [a0, a1] st ah Q else WP E c 21 8 [a0, a1] st ah Q := wp_j i21_5 rfl rfl rfl rfl
theorem i21_8 : insAt 21 8 = some (.aload 0, 9) := by decide +kernel
theorem r21_8 {E : aEnv} {c : Nat} {ah : aHp} {st : List Value} {Q : Option Value → aHp → Prop} {a1 : Option Value} {x : Nat} : WP E c 21 8 [some (.ref x), a1] (st) ah Q = WP E c 21 9 [some (.ref x), a1] (.ref x :: st) ah Q := wp_s i21_8 rfl rfl rfl rfl
theorem i21_9 : insAt 21 9 = some (.getfield 1042, 12) := by decide +kernel
theorem r21_9 {E : aEnv} {c : Nat} {ah : aHp} {st : List Value} {Q : Option Value → aHp → Prop} {a0 a1 : Option Value} {a : Nat} : WP E c 21 9 [a0, a1] (.ref a :: st) ah Q = WPo (oGF (hg E ah a) 1 4) (fun v => WP E c 21 12 [a0, a1] (v :: st) ah Q) := wp_getf i21_9
theorem i21_12 : insAt 21 12 = some (.iload 1, 13) := by decide +kernel
theorem r21_12 {E : aEnv} {c : Nat} {ah : aHp} {st : List Value} {Q : Option Value → aHp → Prop} {a0 : Option Value} {x : Int32} : WP E c 21 12 [a0, some (.int x)] (st) ah Q = WP E c 21 13 [a0, some (.int x)] (.int x :: st) ah Q := wp_s i21_12 rfl rfl rfl rfl
theorem i21_13 : insAt 21 13 = some (.laload, 14) := by decide +kernel
theorem r21_13 {E : aEnv} {c : Nat} {ah : aHp} {st : List Value} {Q : Option Value → aHp → Prop} {a0 a1 : Option Value} {i : Int32} {a : Nat} : WP E c 21 13 [a0, a1] (.int i :: .ref a :: st) ah Q = WPo (gL E ah (.int i :: .ref a :: st)) (fun s9 => WP E c 21 14 [a0, a1] s9 ah Q) := wp_hr i21_13 rfl rfl rfl rfl rfl rfl rfl rfl
theorem i21_14 : insAt 21 14 = some (.goto 18, 17) := by decide +kernel
theorem r21_14 {E : aEnv} {c : Nat} {ah : aHp} {st : List Value} {Q : Option Value → aHp → Prop} {a0 a1 : Option Value} : WP E c 21 14 [a0, a1] (st) ah Q = WP E c 21 18 [a0, a1] st ah Q := wp_s i21_14 rfl rfl rfl rfl
theorem i21_17 : insAt 21 17 = some (.jsr_w 0, 18) := by decide +kernel
theorem r21_17 {E : aEnv} {c : Nat} {ah : aHp} {st : List Value} {Q : Option Value → aHp → Prop} {a0 a1 : Option Value} : WP E c 21 17 [a0, a1] (st) ah Q = WP E c 21 18 [a0, a1] (.long (0) :: st) ah Q := wp_s i21_17 rfl rfl rfl rfl
theorem i21_18 : insAt 21 18 = some (.lreturn, 19) := by decide +kernel
theorem r21_18 {E : aEnv} {c : Nat} {ah : aHp} {Q : Option Value → aHp → Prop} {a0 a1 : Option Value} {x : Int64} : WP E c 21 18 [a0, a1] ([.long x]) ah Q = Q (some (.long x)) ah := wp_rt i21_18 rfl
theorem e22 {E : aEnv} {c : Nat} {ah ahF : aHp} {r : Option Value} {p0 : Nat} {p1 : Int32} {p2 : Int32} (h : WP E c 22 0 [some (.ref p0), some (.int p1), some (.int p2), none] [] ah (fun r1 x1 => r1 = r ∧ x1 = ahF)) : EV E c 22 [.ref p0, .int p1, .int p2] ah r ahF := EV.of (by rw [mr22.2.1]; exact h)
theorem i22_0 : insAt 22 0 = some (.aload 0, 1) := by decide +kernel
theorem r22_0 {E : aEnv} {c : Nat} {ah : aHp} {st : List Value} {Q : Option Value → aHp → Prop} {a1 a2 a3 : Option Value} {x : Nat} : WP E c 22 0 [some (.ref x), a1, a2, a3] (st) ah Q = WP E c 22 1 [some (.ref x), a1, a2, a3] (.ref x :: st) ah Q := wp_s i22_0 rfl rfl rfl rfl
theorem i22_1 : insAt 22 1 = some (.iload 1, 2) := by decide +kernel
theorem r22_1 {E : aEnv} {c : Nat} {ah : aHp} {st : List Value} {Q : Option Value → aHp → Prop} {a0 a2 a3 : Option Value} {x : Int32} : WP E c 22 1 [a0, some (.int x), a2, a3] (st) ah Q = WP E c 22 2 [a0, some (.int x), a2, a3] (.int x :: st) ah Q := wp_s i22_1 rfl rfl rfl rfl
theorem i22_2 : insAt 22 2 = some (.invokevirtual 18, 5) := by decide +kernel
theorem r22_2 {E : aEnv} {c : Nat} {ah ah1 : aHp} {r : Option Value} {st : List Value} {Q : Option Value → aHp → Prop} {a0 a1 a2 a3 : Option Value} {p0 : Nat} {p1 : Int32} (h : EV E c 18 [.ref p0, .int p1] ah r ah1) (h2 : oCI (hg E ah p0) = 1) (h3 : wds st ≤ 8) : WP E (c + 1) 22 2 [a0, a1, a2, a3] (.int p1 :: .ref p0 :: st) ah Q = WP E (c + 1) 22 5 [a0, a1, a2, a3] (r.toList ++ st) ah1 Q := wp_call (As := [.ref p0, .int p1]) i22_2 (fun _ => rfl) rfl mr18.1 (rcv_1 h2 mr18.2.2 (by decide)) h3 (by rw [mr18.2.1]; exact Nat.le_of_ble_eq_true rfl) h
theorem i22_5 : insAt 22 5 = some (.ifCond .eq 21, 8) := by decide +kernel
theorem r22_5 {E : aEnv} {c : Nat} {ah : aHp} {st : List Value} {Q : Option Value → aHp → Prop} {a0 a1 a2 a3 : Option Value} {x : Int32} : WP E c 22 5 [a0, a1, a2, a3] (.int x :: st) ah Q = if x = 0 then WP E c 22 21 [a0, a1, a2, a3] st ah Q else WP E c 22 8 [a0, a1, a2, a3] st ah Q := wp_j i22_5 rfl rfl rfl rfl
theorem i22_8 : insAt 22 8 = some (.iload 2, 9) := by decide +kernel
theorem r22_8 {E : aEnv} {c : Nat} {ah : aHp} {st : List Value} {Q : Option Value → aHp → Prop} {a0 a1 a3 : Option Value} {x : Int32} : WP E c 22 8 [a0, a1, some (.int x), a3] (st) ah Q = WP E c 22 9 [a0, a1, some (.int x), a3] (.int x :: st) ah Q := wp_s i22_8 rfl rfl rfl rfl
theorem i22_9 : insAt 22 9 = some (.ifCond .lt 21, 12) := by decide +kernel
theorem r22_9 {E : aEnv} {c : Nat} {ah : aHp} {st : List Value} {Q : Option Value → aHp → Prop} {a0 a1 a2 a3 : Option Value} {x : Int32} : WP E c 22 9 [a0, a1, a2, a3] (.int x :: st) ah Q = if x < 0 then WP E c 22 21 [a0, a1, a2, a3] st ah Q else WP E c 22 12 [a0, a1, a2, a3] st ah Q := wp_j i22_9 rfl rfl rfl rfl
theorem i22_12 : insAt 22 12 = some (.iload 2, 13) := by decide +kernel
theorem r22_12 {E : aEnv} {c : Nat} {ah : aHp} {st : List Value} {Q : Option Value → aHp → Prop} {a0 a1 a3 : Option Value} {x : Int32} : WP E c 22 12 [a0, a1, some (.int x), a3] (st) ah Q = WP E c 22 13 [a0, a1, some (.int x), a3] (.int x :: st) ah Q := wp_s i22_12 rfl rfl rfl rfl
theorem i22_13 : insAt 22 13 = some (.iconst 4, 14) := by decide +kernel
theorem r22_13 {E : aEnv} {c : Nat} {ah : aHp} {st : List Value} {Q : Option Value → aHp → Prop} {a0 a1 a2 a3 : Option Value} : WP E c 22 13 [a0, a1, a2, a3] (st) ah Q = WP E c 22 14 [a0, a1, a2, a3] (.int (4) :: st) ah Q := wp_s i22_13 rfl rfl rfl rfl
theorem i22_14 : insAt 22 14 = some (.if_icmp .ge 21, 17) := by decide +kernel
theorem r22_14 {E : aEnv} {c : Nat} {ah : aHp} {st : List Value} {Q : Option Value → aHp → Prop} {a0 a1 a2 a3 : Option Value} {x y : Int32} : WP E c 22 14 [a0, a1, a2, a3] (.int y :: .int x :: st) ah Q = if y ≤ x then WP E c 22 21 [a0, a1, a2, a3] st ah Q else WP E c 22 17 [a0, a1, a2, a3] st ah Q := wp_j i22_14 rfl rfl rfl rfl
theorem i22_17 : insAt 22 17 = some (.iconst 1, 18) := by decide +kernel
theorem r22_17 {E : aEnv} {c : Nat} {ah : aHp} {st : List Value} {Q : Option Value → aHp → Prop} {a0 a1 a2 a3 : Option Value} : WP E c 22 17 [a0, a1, a2, a3] (st) ah Q = WP E c 22 18 [a0, a1, a2, a3] (.int (1) :: st) ah Q := wp_s i22_17 rfl rfl rfl rfl
theorem i22_18 : insAt 22 18 = some (.goto 22, 21) := by decide +kernel
theorem r22_18 {E : aEnv} {c : Nat} {ah : aHp} {st : List Value} {Q : Option Value → aHp → Prop} {a0 a1 a2 a3 : Option Value} : WP E c 22 18 [a0, a1, a2, a3] (st) ah Q = WP E c 22 22 [a0, a1, a2, a3] st ah Q := wp_s i22_18 rfl rfl rfl rfl
theorem i22_21 : insAt 22 21 = some (.iconst 0, 22) := by decide +kernel
theorem r22_21 {E : aEnv} {c : Nat} {ah : aHp} {st : List Value} {Q : Option Value → aHp → Prop} {a0 a1 a2 a3 : Option Value} : WP E c 22 21 [a0, a1, a2, a3] (st) ah Q = WP E c 22 22 [a0, a1, a2, a3] (.int (0) :: st) ah Q := wp_s i22_21 rfl rfl rfl rfl
theorem i22_22 : insAt 22 22 = some (.istore 3, 23) := by decide +kernel
theorem r22_22 {E : aEnv} {c : Nat} {ah : aHp} {st : List Value} {Q : Option Value → aHp → Prop} {a0 a1 a2 a3 : Option Value} {x : Int32} : WP E c 22 22 [a0, a1, a2, a3] (.int x :: st) ah Q = WP E c 22 23 [a0, a1, kil a2, some (.int x)] (st) ah Q := wp_s i22_22 rfl rfl rfl rfl
theorem i22_23 : insAt 22 23 = some (.iload 3, 24) := by decide +kernel
theorem r22_23 {E : aEnv} {c : Nat} {ah : aHp} {st : List Value} {Q : Option Value → aHp → Prop} {a0 a1 a2 : Option Value} {x : Int32} : WP E c 22 23 [a0, a1, a2, some (.int x)] (st) ah Q = WP E c 22 24 [a0, a1, a2, some (.int x)] (.int x :: st) ah Q := wp_s i22_23 rfl rfl rfl rfl
theorem i22_24 : insAt 22 24 = some (.ifCond .eq 40, 27) := by decide +kernel
theorem r22_24 {E : aEnv} {c : Nat} {ah : aHp} {st : List Value} {Q : Option Value → aHp → Prop} {a0 a1 a2 a3 : Option Value} {x : Int32} : WP E c 22 24 [a0, a1, a2, a3] (.int x :: st) ah Q = if x = 0 then WP E c 22 40 [a0, a1, a2, a3] st ah Q else WP E c 22 27 [a0, a1, a2, a3] st ah Q := wp_j i22_24 rfl rfl rfl rfl
theorem i22_27 : insAt 22 27 = some (.aload 0, 28) := by decide +kernel
theorem r22_27 {E : aEnv} {c : Nat} {ah : aHp} {st : List Value} {Q : Option Value → aHp → Prop} {a1 a2 a3 : Option Value} {x : Nat} : WP E c 22 27 [some (.ref x), a1, a2, a3] (st) ah Q = WP E c 22 28 [some (.ref x), a1, a2, a3] (.ref x :: st) ah Q := wp_s i22_27 rfl rfl rfl rfl
theorem i22_28 : insAt 22 28 = some (.getfield 1022, 31) := by decide +kernel
theorem r22_28 {E : aEnv} {c : Nat} {ah : aHp} {st : List Value} {Q : Option Value → aHp → Prop} {a0 a1 a2 a3 : Option Value} {a : Nat} : WP E c 22 28 [a0, a1, a2, a3] (.ref a :: st) ah Q = WPo (oGF (hg E ah a) 1 2) (fun v => WP E c 22 31 [a0, a1, a2, a3] (v :: st) ah Q) := wp_getf i22_28
theorem i22_31 : insAt 22 31 = some (.iload 1, 32) := by decide +kernel
theorem r22_31 {E : aEnv} {c : Nat} {ah : aHp} {st : List Value} {Q : Option Value → aHp → Prop} {a0 a2 a3 : Option Value} {x : Int32} : WP E c 22 31 [a0, some (.int x), a2, a3] (st) ah Q = WP E c 22 32 [a0, some (.int x), a2, a3] (.int x :: st) ah Q := wp_s i22_31 rfl rfl rfl rfl
theorem i22_32 : insAt 22 32 = some (.iconst 4, 33) := by decide +kernel
theorem r22_32 {E : aEnv} {c : Nat} {ah : aHp} {st : List Value} {Q : Option Value → aHp → Prop} {a0 a1 a2 a3 : Option Value} : WP E c 22 32 [a0, a1, a2, a3] (st) ah Q = WP E c 22 33 [a0, a1, a2, a3] (.int (4) :: st) ah Q := wp_s i22_32 rfl rfl rfl rfl
theorem i22_33 : insAt 22 33 = some (.imul, 34) := by decide +kernel
theorem r22_33 {E : aEnv} {c : Nat} {ah : aHp} {st : List Value} {Q : Option Value → aHp → Prop} {a0 a1 a2 a3 : Option Value} {x y : Int32} : WP E c 22 33 [a0, a1, a2, a3] (.int y :: .int x :: st) ah Q = WP E c 22 34 [a0, a1, a2, a3] (.int (x * y) :: st) ah Q := wp_s i22_33 rfl rfl rfl rfl
theorem i22_34 : insAt 22 34 = some (.iload 2, 35) := by decide +kernel
theorem r22_34 {E : aEnv} {c : Nat} {ah : aHp} {st : List Value} {Q : Option Value → aHp → Prop} {a0 a1 a3 : Option Value} {x : Int32} : WP E c 22 34 [a0, a1, some (.int x), a3] (st) ah Q = WP E c 22 35 [a0, a1, some (.int x), a3] (.int x :: st) ah Q := wp_s i22_34 rfl rfl rfl rfl
theorem i22_35 : insAt 22 35 = some (.iadd, 36) := by decide +kernel
theorem r22_35 {E : aEnv} {c : Nat} {ah : aHp} {st : List Value} {Q : Option Value → aHp → Prop} {a0 a1 a2 a3 : Option Value} {x y : Int32} : WP E c 22 35 [a0, a1, a2, a3] (.int y :: .int x :: st) ah Q = WP E c 22 36 [a0, a1, a2, a3] (.int (x + y) :: st) ah Q := wp_s i22_35 rfl rfl rfl rfl
theorem i22_36 : insAt 22 36 = some (.iaload, 37) := by decide +kernel
theorem r22_36 {E : aEnv} {c : Nat} {ah : aHp} {st : List Value} {Q : Option Value → aHp → Prop} {a0 a1 a2 a3 : Option Value} {i : Int32} {a : Nat} : WP E c 22 36 [a0, a1, a2, a3] (.int i :: .ref a :: st) ah Q = WPo (gI E ah (.int i :: .ref a :: st)) (fun s9 => WP E c 22 37 [a0, a1, a2, a3] s9 ah Q) := wp_hr i22_36 rfl rfl rfl rfl rfl rfl rfl rfl
theorem i22_37 : insAt 22 37 = some (.goto 41, 40) := by decide +kernel
theorem r22_37 {E : aEnv} {c : Nat} {ah : aHp} {st : List Value} {Q : Option Value → aHp → Prop} {a0 a1 a2 a3 : Option Value} : WP E c 22 37 [a0, a1, a2, a3] (st) ah Q = WP E c 22 41 [a0, a1, a2, a3] st ah Q := wp_s i22_37 rfl rfl rfl rfl
theorem i22_40 : insAt 22 40 = some (.iconst 0, 41) := by decide +kernel
theorem r22_40 {E : aEnv} {c : Nat} {ah : aHp} {st : List Value} {Q : Option Value → aHp → Prop} {a0 a1 a2 a3 : Option Value} : WP E c 22 40 [a0, a1, a2, a3] (st) ah Q = WP E c 22 41 [a0, a1, a2, a3] (.int (0) :: st) ah Q := wp_s i22_40 rfl rfl rfl rfl
theorem i22_41 : insAt 22 41 = some (.ireturn, 42) := by decide +kernel
theorem r22_41 {E : aEnv} {c : Nat} {ah : aHp} {Q : Option Value → aHp → Prop} {a0 a1 a2 a3 : Option Value} {x : Int32} : WP E c 22 41 [a0, a1, a2, a3] ([.int x]) ah Q = Q (some (.int x)) ah := wp_rt i22_41 rfl
theorem e23 {E : aEnv} {c : Nat} {ah ahF : aHp} {r : Option Value} {p0 : Nat} {p1 : Int32} {p2 : Int32} (h : WP E c 23 0 [some (.ref p0), some (.int p1), some (.int p2)] [] ah (fun r1 x1 => r1 = r ∧ x1 = ahF)) : EV E c 23 [.ref p0, .int p1, .int p2] ah r ahF := EV.of (by rw [mr23.2.1]; exact h)
theorem i23_0 : insAt 23 0 = some (.aload 0, 1) := by decide +kernel
theorem r23_0 {E : aEnv} {c : Nat} {ah : aHp} {st : List Value} {Q : Option Value → aHp → Prop} {a1 a2 : Option Value} {x : Nat} : WP E c 23 0 [some (.ref x), a1, a2] (st) ah Q = WP E c 23 1 [some (.ref x), a1, a2] (.ref x :: st) ah Q := wp_s i23_0 rfl rfl rfl rfl
theorem i23_1 : insAt 23 1 = some (.invokevirtual 17, 4) := by decide +kernel
theorem r23_1 {E : aEnv} {c : Nat} {ah ah1 : aHp} {r : Option Value} {st : List Value} {Q : Option Value → aHp → Prop} {a0 a1 a2 : Option Value} {p0 : Nat} (h : EV E c 17 [.ref p0] ah r ah1) (h2 : oCI (hg E ah p0) = 1) (h3 : wds st ≤ 8) : WP E (c + 1) 23 1 [a0, a1, a2] (.ref p0 :: st) ah Q = WP E (c + 1) 23 4 [a0, a1, a2] (r.toList ++ st) ah1 Q := wp_call (As := [.ref p0]) i23_1 (fun _ => rfl) rfl mr17.1 (rcv_1 h2 mr17.2.2 (by decide)) h3 (by rw [mr17.2.1]; exact Nat.le_of_ble_eq_true rfl) h
theorem i23_4 : insAt 23 4 = some (.ifCond .ne 30, 7) := by decide +kernel
theorem r23_4 {E : aEnv} {c : Nat} {ah : aHp} {st : List Value} {Q : Option Value → aHp → Prop} {a0 a1 a2 : Option Value} {x : Int32} : WP E c 23 4 [a0, a1, a2] (.int x :: st) ah Q = if ¬ x = 0 then WP E c 23 30 [a0, a1, a2] st ah Q else WP E c 23 7 [a0, a1, a2] st ah Q := wp_j i23_4 rfl rfl rfl rfl
theorem i23_7 : insAt 23 7 = some (.iload 1, 8) := by decide +kernel
theorem r23_7 {E : aEnv} {c : Nat} {ah : aHp} {st : List Value} {Q : Option Value → aHp → Prop} {a0 a2 : Option Value} {x : Int32} : WP E c 23 7 [a0, some (.int x), a2] (st) ah Q = WP E c 23 8 [a0, some (.int x), a2] (.int x :: st) ah Q := wp_s i23_7 rfl rfl rfl rfl
theorem i23_8 : insAt 23 8 = some (.ifCond .lt 30, 11) := by decide +kernel
theorem r23_8 {E : aEnv} {c : Nat} {ah : aHp} {st : List Value} {Q : Option Value → aHp → Prop} {a0 a1 a2 : Option Value} {x : Int32} : WP E c 23 8 [a0, a1, a2] (.int x :: st) ah Q = if x < 0 then WP E c 23 30 [a0, a1, a2] st ah Q else WP E c 23 11 [a0, a1, a2] st ah Q := wp_j i23_8 rfl rfl rfl rfl
theorem i23_11 : insAt 23 11 = some (.iload 1, 12) := by decide +kernel
theorem r23_11 {E : aEnv} {c : Nat} {ah : aHp} {st : List Value} {Q : Option Value → aHp → Prop} {a0 a2 : Option Value} {x : Int32} : WP E c 23 11 [a0, some (.int x), a2] (st) ah Q = WP E c 23 12 [a0, some (.int x), a2] (.int x :: st) ah Q := wp_s i23_11 rfl rfl rfl rfl
theorem i23_12 : insAt 23 12 = some (.iconst 4, 13) := by decide +kernel
theorem r23_12 {E : aEnv} {c : Nat} {ah : aHp} {st : List Value} {Q : Option Value → aHp → Prop} {a0 a1 a2 : Option Value} : WP E c 23 12 [a0, a1, a2] (st) ah Q = WP E c 23 13 [a0, a1, a2] (.int (4) :: st) ah Q := wp_s i23_12 rfl rfl rfl rfl
theorem i23_13 : insAt 23 13 = some (.if_icmp .ge 30, 16) := by decide +kernel
theorem r23_13 {E : aEnv} {c : Nat} {ah : aHp} {st : List Value} {Q : Option Value → aHp → Prop} {a0 a1 a2 : Option Value} {x y : Int32} : WP E c 23 13 [a0, a1, a2] (.int y :: .int x :: st) ah Q = if y ≤ x then WP E c 23 30 [a0, a1, a2] st ah Q else WP E c 23 16 [a0, a1, a2] st ah Q := wp_j i23_13 rfl rfl rfl rfl
theorem i23_16 : insAt 23 16 = some (.aload 0, 17) := by decide +kernel
theorem r23_16 {E : aEnv} {c : Nat} {ah : aHp} {st : List Value} {Q : Option Value → aHp → Prop} {a1 a2 : Option Value} {x : Nat} : WP E c 23 16 [some (.ref x), a1, a2] (st) ah Q = WP E c 23 17 [some (.ref x), a1, a2] (.ref x :: st) ah Q := wp_s i23_16 rfl rfl rfl rfl
theorem i23_17 : insAt 23 17 = some (.getfield 1022, 20) := by decide +kernel
theorem r23_17 {E : aEnv} {c : Nat} {ah : aHp} {st : List Value} {Q : Option Value → aHp → Prop} {a0 a1 a2 : Option Value} {a : Nat} : WP E c 23 17 [a0, a1, a2] (.ref a :: st) ah Q = WPo (oGF (hg E ah a) 1 2) (fun v => WP E c 23 20 [a0, a1, a2] (v :: st) ah Q) := wp_getf i23_17
theorem i23_20 : insAt 23 20 = some (.aload 0, 21) := by decide +kernel
theorem r23_20 {E : aEnv} {c : Nat} {ah : aHp} {st : List Value} {Q : Option Value → aHp → Prop} {a1 a2 : Option Value} {x : Nat} : WP E c 23 20 [some (.ref x), a1, a2] (st) ah Q = WP E c 23 21 [some (.ref x), a1, a2] (.ref x :: st) ah Q := wp_s i23_20 rfl rfl rfl rfl
theorem i23_21 : insAt 23 21 = some (.getfield 1050, 24) := by decide +kernel
theorem r23_21 {E : aEnv} {c : Nat} {ah : aHp} {st : List Value} {Q : Option Value → aHp → Prop} {a0 a1 a2 : Option Value} {a : Nat} : WP E c 23 21 [a0, a1, a2] (.ref a :: st) ah Q = WPo (oGF (hg E ah a) 1 5) (fun v => WP E c 23 24 [a0, a1, a2] (v :: st) ah Q) := wp_getf i23_21
theorem i23_24 : insAt 23 24 = some (.iconst 4, 25) := by decide +kernel
theorem r23_24 {E : aEnv} {c : Nat} {ah : aHp} {st : List Value} {Q : Option Value → aHp → Prop} {a0 a1 a2 : Option Value} : WP E c 23 24 [a0, a1, a2] (st) ah Q = WP E c 23 25 [a0, a1, a2] (.int (4) :: st) ah Q := wp_s i23_24 rfl rfl rfl rfl
theorem i23_25 : insAt 23 25 = some (.imul, 26) := by decide +kernel
theorem r23_25 {E : aEnv} {c : Nat} {ah : aHp} {st : List Value} {Q : Option Value → aHp → Prop} {a0 a1 a2 : Option Value} {x y : Int32} : WP E c 23 25 [a0, a1, a2] (.int y :: .int x :: st) ah Q = WP E c 23 26 [a0, a1, a2] (.int (x * y) :: st) ah Q := wp_s i23_25 rfl rfl rfl rfl
theorem i23_26 : insAt 23 26 = some (.iload 1, 27) := by decide +kernel
theorem r23_26 {E : aEnv} {c : Nat} {ah : aHp} {st : List Value} {Q : Option Value → aHp → Prop} {a0 a2 : Option Value} {x : Int32} : WP E c 23 26 [a0, some (.int x), a2] (st) ah Q = WP E c 23 27 [a0, some (.int x), a2] (.int x :: st) ah Q := wp_s i23_26 rfl rfl rfl rfl
theorem i23_27 : insAt 23 27 = some (.iadd, 28) := by decide +kernel
theorem r23_27 {E : aEnv} {c : Nat} {ah : aHp} {st : List Value} {Q : Option Value → aHp → Prop} {a0 a1 a2 : Option Value} {x y : Int32} : WP E c 23 27 [a0, a1, a2] (.int y :: .int x :: st) ah Q = WP E c 23 28 [a0, a1, a2] (.int (x + y) :: st) ah Q := wp_s i23_27 rfl rfl rfl rfl
theorem i23_28 : insAt 23 28 = some (.iload 2, 29) := by decide +kernel
theorem r23_28 {E : aEnv} {c : Nat} {ah : aHp} {st : List Value} {Q : Option Value → aHp → Prop} {a0 a1 : Option Value} {x : Int32} : WP E c 23 28 [a0, a1, some (.int x)] (st) ah Q = WP E c 23 29 [a0, a1, some (.int x)] (.int x :: st) ah Q := wp_s i23_28 rfl rfl rfl rfl
theorem i23_29 : insAt 23 29 = some (.iastore, 30) := by decide +kernel
theorem r23_29 {E : aEnv} {c : Nat} {ah : aHp} {st : List Value} {Q : Option Value → aHp → Prop} {a0 a1 a2 : Option Value} {x : Int32} {i : Int32} {a : Nat} : WP E c 23 29 [a0, a1, a2] (.int x :: .int i :: .ref a :: st) ah Q = WPo (pI E ah (.int x :: .int i :: .ref a :: st)) (fun q9 => WP E c 23 30 [a0, a1, a2] q9.1 q9.2 Q) := wp_hw i23_29 rfl rfl rfl rfl rfl rfl rfl rfl
theorem i23_30 : insAt 23 30 = some (.return_, 31) := by decide +kernel
theorem r23_30 {E : aEnv} {c : Nat} {ah : aHp} {Q : Option Value → aHp → Prop} {a0 a1 a2 : Option Value} : WP E c 23 30 [a0, a1, a2] ([]) ah Q = Q none ah := wp_rt i23_30 rfl
theorem e24 {E : aEnv} {c : Nat} {ah ahF : aHp} {r : Option Value} {p0 : Nat} {p1 : Int32} (h : WP E c 24 0 [some (.ref p0), some (.int p1)] [] ah (fun r1 x1 => r1 = r ∧ x1 = ahF)) : EV E c 24 [.ref p0, .int p1] ah r ahF := EV.of (by rw [mr24.2.1]; exact h)
theorem i24_0 : insAt 24 0 = some (.aload 0, 1) := by decide +kernel
theorem r24_0 {E : aEnv} {c : Nat} {ah : aHp} {st : List Value} {Q : Option Value → aHp → Prop} {a1 : Option Value} {x : Nat} : WP E c 24 0 [some (.ref x), a1] (st) ah Q = WP E c 24 1 [some (.ref x), a1] (.ref x :: st) ah Q := wp_s i24_0 rfl rfl rfl rfl
theorem i24_1 : insAt 24 1 = some (.iload 1, 2) := by decide +kernel
theorem r24_1 {E : aEnv} {c : Nat} {ah : aHp} {st : List Value} {Q : Option Value → aHp → Prop} {a0 : Option Value} {x : Int32} : WP E c 24 1 [a0, some (.int x)] (st) ah Q = WP E c 24 2 [a0, some (.int x)] (.int x :: st) ah Q := wp_s i24_1 rfl rfl rfl rfl
theorem i24_2 : insAt 24 2 = some (.invokevirtual 19, 5) := by decide +kernel
theorem r24_2 {E : aEnv} {c : Nat} {ah ah1 : aHp} {r : Option Value} {st : List Value} {Q : Option Value → aHp → Prop} {a0 a1 : Option Value} {p0 : Nat} {p1 : Int32} (h : EV E c 19 [.ref p0, .int p1] ah r ah1) (h2 : oCI (hg E ah p0) = 1) (h3 : wds st ≤ 8) : WP E (c + 1) 24 2 [a0, a1] (.int p1 :: .ref p0 :: st) ah Q = WP E (c + 1) 24 5 [a0, a1] (r.toList ++ st) ah1 Q := wp_call (As := [.ref p0, .int p1]) i24_2 (fun _ => rfl) rfl mr19.1 (rcv_1 h2 mr19.2.2 (by decide)) h3 (by rw [mr19.2.1]; exact Nat.le_of_ble_eq_true rfl) h
theorem i24_5 : insAt 24 5 = some (.iconst 6, 7) := by decide +kernel
theorem r24_5 {E : aEnv} {c : Nat} {ah : aHp} {st : List Value} {Q : Option Value → aHp → Prop} {a0 a1 : Option Value} : WP E c 24 5 [a0, a1] (st) ah Q = WP E c 24 7 [a0, a1] (.int (6) :: st) ah Q := wp_s i24_5 rfl rfl rfl rfl
theorem i24_7 : insAt 24 7 = some (.if_icmp .eq 20, 10) := by decide +kernel
theorem r24_7 {E : aEnv} {c : Nat} {ah : aHp} {st : List Value} {Q : Option Value → aHp → Prop} {a0 a1 : Option Value} {x y : Int32} : WP E c 24 7 [a0, a1] (.int y :: .int x :: st) ah Q = if x = y then WP E c 24 20 [a0, a1] st ah Q else WP E c 24 10 [a0, a1] st ah Q := wp_j i24_7 rfl rfl rfl rfl
theorem i24_10 : insAt 24 10 = some (.aload 0, 11) := by decide +kernel
theorem r24_10 {E : aEnv} {c : Nat} {ah : aHp} {st : List Value} {Q : Option Value → aHp → Prop} {a1 : Option Value} {x : Nat} : WP E c 24 10 [some (.ref x), a1] (st) ah Q = WP E c 24 11 [some (.ref x), a1] (.ref x :: st) ah Q := wp_s i24_10 rfl rfl rfl rfl
theorem i24_11 : insAt 24 11 = some (.iload 1, 12) := by decide +kernel
theorem r24_11 {E : aEnv} {c : Nat} {ah : aHp} {st : List Value} {Q : Option Value → aHp → Prop} {a0 : Option Value} {x : Int32} : WP E c 24 11 [a0, some (.int x)] (st) ah Q = WP E c 24 12 [a0, some (.int x)] (.int x :: st) ah Q := wp_s i24_11 rfl rfl rfl rfl
theorem i24_12 : insAt 24 12 = some (.invokevirtual 19, 15) := by decide +kernel
theorem r24_12 {E : aEnv} {c : Nat} {ah ah1 : aHp} {r : Option Value} {st : List Value} {Q : Option Value → aHp → Prop} {a0 a1 : Option Value} {p0 : Nat} {p1 : Int32} (h : EV E c 19 [.ref p0, .int p1] ah r ah1) (h2 : oCI (hg E ah p0) = 1) (h3 : wds st ≤ 8) : WP E (c + 1) 24 12 [a0, a1] (.int p1 :: .ref p0 :: st) ah Q = WP E (c + 1) 24 15 [a0, a1] (r.toList ++ st) ah1 Q := wp_call (As := [.ref p0, .int p1]) i24_12 (fun _ => rfl) rfl mr19.1 (rcv_1 h2 mr19.2.2 (by decide)) h3 (by rw [mr19.2.1]; exact Nat.le_of_ble_eq_true rfl) h
theorem i24_15 : insAt 24 15 = some (.iconst 7, 17) := by decide +kernel
theorem r24_15 {E : aEnv} {c : Nat} {ah : aHp} {st : List Value} {Q : Option Value → aHp → Prop} {a0 a1 : Option Value} : WP E c 24 15 [a0, a1] (st) ah Q = WP E c 24 17 [a0, a1] (.int (7) :: st) ah Q := wp_s i24_15 rfl rfl rfl rfl
theorem i24_17 : insAt 24 17 = some (.if_icmp .ne 24, 20) := by decide +kernel
theorem r24_17 {E : aEnv} {c : Nat} {ah : aHp} {st : List Value} {Q : Option Value → aHp → Prop} {a0 a1 : Option Value} {x y : Int32} : WP E c 24 17 [a0, a1] (.int y :: .int x :: st) ah Q = if ¬ x = y then WP E c 24 24 [a0, a1] st ah Q else WP E c 24 20 [a0, a1] st ah Q := wp_j i24_17 rfl rfl rfl rfl
theorem i24_20 : insAt 24 20 = some (.iconst 1, 21) := by decide +kernel
theorem r24_20 {E : aEnv} {c : Nat} {ah : aHp} {st : List Value} {Q : Option Value → aHp → Prop} {a0 a1 : Option Value} : WP E c 24 20 [a0, a1] (st) ah Q = WP E c 24 21 [a0, a1] (.int (1) :: st) ah Q := wp_s i24_20 rfl rfl rfl rfl
theorem i24_21 : insAt 24 21 = some (.goto 25, 24) := by decide +kernel
theorem r24_21 {E : aEnv} {c : Nat} {ah : aHp} {st : List Value} {Q : Option Value → aHp → Prop} {a0 a1 : Option Value} : WP E c 24 21 [a0, a1] (st) ah Q = WP E c 24 25 [a0, a1] st ah Q := wp_s i24_21 rfl rfl rfl rfl
theorem i24_24 : insAt 24 24 = some (.iconst 0, 25) := by decide +kernel
theorem r24_24 {E : aEnv} {c : Nat} {ah : aHp} {st : List Value} {Q : Option Value → aHp → Prop} {a0 a1 : Option Value} : WP E c 24 24 [a0, a1] (st) ah Q = WP E c 24 25 [a0, a1] (.int (0) :: st) ah Q := wp_s i24_24 rfl rfl rfl rfl
theorem i24_25 : insAt 24 25 = some (.freturn, 26) := by decide +kernel
theorem r24_25 {E : aEnv} {c : Nat} {ah : aHp} {Q : Option Value → aHp → Prop} {a0 a1 : Option Value} {x : Int32} (hx : x = 0 ∨ x = 1) : WP E c 24 25 [a0, a1] ([.int x]) ah Q = Q (some (.int x)) ah := wp_rt i24_25 (by simp only [rtA, if_pos hx])
theorem e25 {E : aEnv} {c : Nat} {ah ahF : aHp} {r : Option Value} {p0 : Nat} {p1 : Int32} (h : WP E c 25 0 [some (.ref p0), some (.int p1), none] [] ah (fun r1 x1 => r1 = r ∧ x1 = ahF)) : EV E c 25 [.ref p0, .int p1] ah r ahF := EV.of (by rw [mr25.2.1]; exact h)
theorem i25_0 : insAt 25 0 = some (.aload 0, 1) := by decide +kernel
theorem r25_0 {E : aEnv} {c : Nat} {ah : aHp} {st : List Value} {Q : Option Value → aHp → Prop} {a1 a2 : Option Value} {x : Nat} : WP E c 25 0 [some (.ref x), a1, a2] (st) ah Q = WP E c 25 1 [some (.ref x), a1, a2] (.ref x :: st) ah Q := wp_s i25_0 rfl rfl rfl rfl
theorem i25_1 : insAt 25 1 = some (.iload 1, 2) := by decide +kernel
theorem r25_1 {E : aEnv} {c : Nat} {ah : aHp} {st : List Value} {Q : Option Value → aHp → Prop} {a0 a2 : Option Value} {x : Int32} : WP E c 25 1 [a0, some (.int x), a2] (st) ah Q = WP E c 25 2 [a0, some (.int x), a2] (.int x :: st) ah Q := wp_s i25_1 rfl rfl rfl rfl
theorem i25_2 : insAt 25 2 = some (.iconst 0, 3) := by decide +kernel
theorem r25_2 {E : aEnv} {c : Nat} {ah : aHp} {st : List Value} {Q : Option Value → aHp → Prop} {a0 a1 a2 : Option Value} : WP E c 25 2 [a0, a1, a2] (st) ah Q = WP E c 25 3 [a0, a1, a2] (.int (0) :: st) ah Q := wp_s i25_2 rfl rfl rfl rfl
theorem i25_3 : insAt 25 3 = some (.invokevirtual 22, 6) := by decide +kernel
theorem r25_3 {E : aEnv} {c : Nat} {ah ah1 : aHp} {r : Option Value} {st : List Value} {Q : Option Value → aHp → Prop} {a0 a1 a2 : Option Value} {p0 : Nat} {p1 : Int32} {p2 : Int32} (h : EV E c 22 [.ref p0, .int p1, .int p2] ah r ah1) (h2 : oCI (hg E ah p0) = 1) (h3 : wds st ≤ 8) : WP E (c + 1) 25 3 [a0, a1, a2] (.int p2 :: .int p1 :: .ref p0 :: st) ah Q = WP E (c + 1) 25 6 [a0, a1, a2] (r.toList ++ st) ah1 Q := wp_call (As := [.ref p0, .int p1, .int p2]) i25_3 (fun _ => rfl) rfl mr22.1 (rcv_1 h2 mr22.2.2 (by decide)) h3 (by rw [mr22.2.1]; exact Nat.le_of_ble_eq_true rfl) h
theorem i25_6 : insAt 25 6 = some (.istore 2, 7) := by decide +kernel
theorem r25_6 {E : aEnv} {c : Nat} {ah : aHp} {st : List Value} {Q : Option Value → aHp → Prop} {a0 a1 a2 : Option Value} {x : Int32} : WP E c 25 6 [a0, a1, a2] (.int x :: st) ah Q = WP E c 25 7 [a0, kil a1, some (.int x)] (st) ah Q := wp_s i25_6 rfl rfl rfl rfl
theorem i25_7 : insAt 25 7 = some (.aload 0, 8) := by decide +kernel
theorem r25_7 {E : aEnv} {c : Nat} {ah : aHp} {st : List Value} {Q : Option Value → aHp → Prop} {a1 a2 : Option Value} {x : Nat} : WP E c 25 7 [some (.ref x), a1, a2] (st) ah Q = WP E c 25 8 [some (.ref x), a1, a2] (.ref x :: st) ah Q := wp_s i25_7 rfl rfl rfl rfl
theorem i25_8 : insAt 25 8 = some (.iload 1, 9) := by decide +kernel
theorem r25_8 {E : aEnv} {c : Nat} {ah : aHp} {st : List Value} {Q : Option Value → aHp → Prop} {a0 a2 : Option Value} {x : Int32} : WP E c 25 8 [a0, some (.int x), a2] (st) ah Q = WP E c 25 9 [a0, some (.int x), a2] (.int x :: st) ah Q := wp_s i25_8 rfl rfl rfl rfl
theorem i25_9 : insAt 25 9 = some (.invokevirtual 19, 12) := by decide +kernel
theorem r25_9 {E : aEnv} {c : Nat} {ah ah1 : aHp} {r : Option Value} {st : List Value} {Q : Option Value → aHp → Prop} {a0 a1 a2 : Option Value} {p0 : Nat} {p1 : Int32} (h : EV E c 19 [.ref p0, .int p1] ah r ah1) (h2 : oCI (hg E ah p0) = 1) (h3 : wds st ≤ 8) : WP E (c + 1) 25 9 [a0, a1, a2] (.int p1 :: .ref p0 :: st) ah Q = WP E (c + 1) 25 12 [a0, a1, a2] (r.toList ++ st) ah1 Q := wp_call (As := [.ref p0, .int p1]) i25_9 (fun _ => rfl) rfl mr19.1 (rcv_1 h2 mr19.2.2 (by decide)) h3 (by rw [mr19.2.1]; exact Nat.le_of_ble_eq_true rfl) h
theorem i25_12 : insAt 25 12 = some (.iconst 6, 14) := by decide +kernel
theorem r25_12 {E : aEnv} {c : Nat} {ah : aHp} {st : List Value} {Q : Option Value → aHp → Prop} {a0 a1 a2 : Option Value} : WP E c 25 12 [a0, a1, a2] (st) ah Q = WP E c 25 14 [a0, a1, a2] (.int (6) :: st) ah Q := wp_s i25_12 rfl rfl rfl rfl
theorem i25_14 : insAt 25 14 = some (.if_icmp .ne 23, 17) := by decide +kernel
theorem r25_14 {E : aEnv} {c : Nat} {ah : aHp} {st : List Value} {Q : Option Value → aHp → Prop} {a0 a1 a2 : Option Value} {x y : Int32} : WP E c 25 14 [a0, a1, a2] (.int y :: .int x :: st) ah Q = if ¬ x = y then WP E c 25 23 [a0, a1, a2] st ah Q else WP E c 25 17 [a0, a1, a2] st ah Q := wp_j i25_14 rfl rfl rfl rfl
theorem i25_17 : insAt 25 17 = some (.iload 1, 18) := by decide +kernel
theorem r25_17 {E : aEnv} {c : Nat} {ah : aHp} {st : List Value} {Q : Option Value → aHp → Prop} {a0 a2 : Option Value} {x : Int32} : WP E c 25 17 [a0, some (.int x), a2] (st) ah Q = WP E c 25 18 [a0, some (.int x), a2] (.int x :: st) ah Q := wp_s i25_17 rfl rfl rfl rfl
theorem i25_18 : insAt 25 18 = some (.iload 2, 19) := by decide +kernel
theorem r25_18 {E : aEnv} {c : Nat} {ah : aHp} {st : List Value} {Q : Option Value → aHp → Prop} {a0 a1 : Option Value} {x : Int32} : WP E c 25 18 [a0, a1, some (.int x)] (st) ah Q = WP E c 25 19 [a0, a1, some (.int x)] (.int x :: st) ah Q := wp_s i25_18 rfl rfl rfl rfl
theorem i25_19 : insAt 25 19 = some (.isub, 20) := by decide +kernel
theorem r25_19 {E : aEnv} {c : Nat} {ah : aHp} {st : List Value} {Q : Option Value → aHp → Prop} {a0 a1 a2 : Option Value} {x y : Int32} : WP E c 25 19 [a0, a1, a2] (.int y :: .int x :: st) ah Q = WP E c 25 20 [a0, a1, a2] (.int (x - y) :: st) ah Q := wp_s i25_19 rfl rfl rfl rfl
theorem i25_20 : insAt 25 20 = some (.goto 26, 23) := by decide +kernel
theorem r25_20 {E : aEnv} {c : Nat} {ah : aHp} {st : List Value} {Q : Option Value → aHp → Prop} {a0 a1 a2 : Option Value} : WP E c 25 20 [a0, a1, a2] (st) ah Q = WP E c 25 26 [a0, a1, a2] st ah Q := wp_s i25_20 rfl rfl rfl rfl
theorem i25_23 : insAt 25 23 = some (.iload 1, 24) := by decide +kernel
theorem r25_23 {E : aEnv} {c : Nat} {ah : aHp} {st : List Value} {Q : Option Value → aHp → Prop} {a0 a2 : Option Value} {x : Int32} : WP E c 25 23 [a0, some (.int x), a2] (st) ah Q = WP E c 25 24 [a0, some (.int x), a2] (.int x :: st) ah Q := wp_s i25_23 rfl rfl rfl rfl
theorem i25_24 : insAt 25 24 = some (.iload 2, 25) := by decide +kernel
theorem r25_24 {E : aEnv} {c : Nat} {ah : aHp} {st : List Value} {Q : Option Value → aHp → Prop} {a0 a1 : Option Value} {x : Int32} : WP E c 25 24 [a0, a1, some (.int x)] (st) ah Q = WP E c 25 25 [a0, a1, some (.int x)] (.int x :: st) ah Q := wp_s i25_24 rfl rfl rfl rfl
theorem i25_25 : insAt 25 25 = some (.iadd, 26) := by decide +kernel
theorem r25_25 {E : aEnv} {c : Nat} {ah : aHp} {st : List Value} {Q : Option Value → aHp → Prop} {a0 a1 a2 : Option Value} {x y : Int32} : WP E c 25 25 [a0, a1, a2] (.int y :: .int x :: st) ah Q = WP E c 25 26 [a0, a1, a2] (.int (x + y) :: st) ah Q := wp_s i25_25 rfl rfl rfl rfl
theorem i25_26 : insAt 25 26 = some (.ireturn, 27) := by decide +kernel
theorem r25_26 {E : aEnv} {c : Nat} {ah : aHp} {Q : Option Value → aHp → Prop} {a0 a1 a2 : Option Value} {x : Int32} : WP E c 25 26 [a0, a1, a2] ([.int x]) ah Q = Q (some (.int x)) ah := wp_rt i25_26 rfl
theorem e26 {E : aEnv} {c : Nat} {ah ahF : aHp} {r : Option Value} {p0 : Int32} (h : WP E c 26 0 [some (.int p0)] [] ah (fun r1 x1 => r1 = r ∧ x1 = ahF)) : EV E c 26 [.int p0] ah r ahF := EV.of (by rw [mr26.2.1]; exact h)
theorem i26_0 : insAt 26 0 = some (.iload 0, 1) := by decide +kernel
theorem r26_0 {E : aEnv} {c : Nat} {ah : aHp} {st : List Value} {Q : Option Value → aHp → Prop} {x : Int32} : WP E c 26 0 [some (.int x)] (st) ah Q = WP E c 26 1 [some (.int x)] (.int x :: st) ah Q := wp_s i26_0 rfl rfl rfl rfl
theorem i26_1 : insAt 26 1 = some (.tableswitch 46 0 5 #[40, 42, 42, 42, 44, 40], 40) := by decide +kernel
theorem r26_1_0 {E : aEnv} {c : Nat} {ah : aHp} {st : List Value} {Q : Option Value → aHp → Prop} {a0 : Option Value} : WP E c 26 1 [a0] (.int 0 :: st) ah Q = WP E c 26 40 [a0] st ah Q := wp_s i26_1 rfl rfl rfl rfl
theorem r26_1_1 {E : aEnv} {c : Nat} {ah : aHp} {st : List Value} {Q : Option Value → aHp → Prop} {a0 : Option Value} : WP E c 26 1 [a0] (.int 1 :: st) ah Q = WP E c 26 42 [a0] st ah Q := wp_s i26_1 rfl rfl rfl rfl
theorem r26_1_2 {E : aEnv} {c : Nat} {ah : aHp} {st : List Value} {Q : Option Value → aHp → Prop} {a0 : Option Value} : WP E c 26 1 [a0] (.int 2 :: st) ah Q = WP E c 26 42 [a0] st ah Q := wp_s i26_1 rfl rfl rfl rfl
theorem r26_1_3 {E : aEnv} {c : Nat} {ah : aHp} {st : List Value} {Q : Option Value → aHp → Prop} {a0 : Option Value} : WP E c 26 1 [a0] (.int 3 :: st) ah Q = WP E c 26 42 [a0] st ah Q := wp_s i26_1 rfl rfl rfl rfl
theorem r26_1_4 {E : aEnv} {c : Nat} {ah : aHp} {st : List Value} {Q : Option Value → aHp → Prop} {a0 : Option Value} : WP E c 26 1 [a0] (.int 4 :: st) ah Q = WP E c 26 44 [a0] st ah Q := wp_s i26_1 rfl rfl rfl rfl
theorem r26_1_5 {E : aEnv} {c : Nat} {ah : aHp} {st : List Value} {Q : Option Value → aHp → Prop} {a0 : Option Value} : WP E c 26 1 [a0] (.int 5 :: st) ah Q = WP E c 26 40 [a0] st ah Q := wp_s i26_1 rfl rfl rfl rfl
theorem r26_1_d {E : aEnv} {c : Nat} {ah : aHp} {st : List Value} {Q : Option Value → aHp → Prop} {a0 : Option Value} {x : Int32} (hx : x.toInt < 0 ∨ 5 < x.toInt) : WP E c 26 1 [a0] (.int x :: st) ah Q = WP E c 26 46 [a0] st ah Q := wp_st (z := (46, [a0], st, ah)) i26_1 rfl rfl rfl (by simp only [st1, skA, ldA, soA, jpA, jT, if_pos hx]; rfl)
theorem i26_40 : insAt 26 40 = some (.iconst 1, 41) := by decide +kernel
theorem r26_40 {E : aEnv} {c : Nat} {ah : aHp} {st : List Value} {Q : Option Value → aHp → Prop} {a0 : Option Value} : WP E c 26 40 [a0] (st) ah Q = WP E c 26 41 [a0] (.int (1) :: st) ah Q := wp_s i26_40 rfl rfl rfl rfl
theorem i26_41 : insAt 26 41 = some (.ireturn, 42) := by decide +kernel
theorem r26_41 {E : aEnv} {c : Nat} {ah : aHp} {Q : Option Value → aHp → Prop} {a0 : Option Value} {x : Int32} : WP E c 26 41 [a0] ([.int x]) ah Q = Q (some (.int x)) ah := wp_rt i26_41 rfl
theorem i26_42 : insAt 26 42 = some (.iconst 3, 43) := by decide +kernel
theorem r26_42 {E : aEnv} {c : Nat} {ah : aHp} {st : List Value} {Q : Option Value → aHp → Prop} {a0 : Option Value} : WP E c 26 42 [a0] (st) ah Q = WP E c 26 43 [a0] (.int (3) :: st) ah Q := wp_s i26_42 rfl rfl rfl rfl
theorem i26_43 : insAt 26 43 = some (.ireturn, 44) := by decide +kernel
theorem r26_43 {E : aEnv} {c : Nat} {ah : aHp} {Q : Option Value → aHp → Prop} {a0 : Option Value} {x : Int32} : WP E c 26 43 [a0] ([.int x]) ah Q = Q (some (.int x)) ah := wp_rt i26_43 rfl
theorem i26_44 : insAt 26 44 = some (.iconst 4, 45) := by decide +kernel
theorem r26_44 {E : aEnv} {c : Nat} {ah : aHp} {st : List Value} {Q : Option Value → aHp → Prop} {a0 : Option Value} : WP E c 26 44 [a0] (st) ah Q = WP E c 26 45 [a0] (.int (4) :: st) ah Q := wp_s i26_44 rfl rfl rfl rfl
theorem i26_45 : insAt 26 45 = some (.ireturn, 46) := by decide +kernel
theorem r26_45 {E : aEnv} {c : Nat} {ah : aHp} {Q : Option Value → aHp → Prop} {a0 : Option Value} {x : Int32} : WP E c 26 45 [a0] ([.int x]) ah Q = Q (some (.int x)) ah := wp_rt i26_45 rfl
theorem i26_46 : insAt 26 46 = some (.iconst 0, 47) := by decide +kernel
theorem r26_46 {E : aEnv} {c : Nat} {ah : aHp} {st : List Value} {Q : Option Value → aHp → Prop} {a0 : Option Value} : WP E c 26 46 [a0] (st) ah Q = WP E c 26 47 [a0] (.int (0) :: st) ah Q := wp_s i26_46 rfl rfl rfl rfl
theorem i26_47 : insAt 26 47 = some (.ireturn, 48) := by decide +kernel
theorem r26_47 {E : aEnv} {c : Nat} {ah : aHp} {Q : Option Value → aHp → Prop} {a0 : Option Value} {x : Int32} : WP E c 26 47 [a0] ([.int x]) ah Q = Q (some (.int x)) ah := wp_rt i26_47 rfl
theorem e27 {E : aEnv} {c : Nat} {ah ahF : aHp} {r : Option Value} {p0 : Nat} {p1 : Int32} (h : WP E c 27 0 [some (.ref p0), some (.int p1), none, none, none] [] ah (fun r1 x1 => r1 = r ∧ x1 = ahF)) : EV E c 27 [.ref p0, .int p1] ah r ahF := EV.of (by rw [mr27.2.1]; exact h)
theorem i27_0 : insAt 27 0 = some (.iload 1, 1) := by decide +kernel
theorem r27_0 {E : aEnv} {c : Nat} {ah : aHp} {st : List Value} {Q : Option Value → aHp → Prop} {a0 a2 a3 a4 : Option Value} {x : Int32} : WP E c 27 0 [a0, some (.int x), a2, a3, a4] (st) ah Q = WP E c 27 1 [a0, some (.int x), a2, a3, a4] (.int x :: st) ah Q := wp_s i27_0 rfl rfl rfl rfl
theorem i27_1 : insAt 27 1 = some (.aload 0, 2) := by decide +kernel
theorem r27_1 {E : aEnv} {c : Nat} {ah : aHp} {st : List Value} {Q : Option Value → aHp → Prop} {a1 a2 a3 a4 : Option Value} {x : Nat} : WP E c 27 1 [some (.ref x), a1, a2, a3, a4] (st) ah Q = WP E c 27 2 [some (.ref x), a1, a2, a3, a4] (.ref x :: st) ah Q := wp_s i27_1 rfl rfl rfl rfl
theorem r27_1n {E : aEnv} {c : Nat} {ah : aHp} {st : List Value} {Q : Option Value → aHp → Prop} {a1 a2 a3 a4 : Option Value} : WP E c 27 1 [some .null, a1, a2, a3, a4] (st) ah Q = WP E c 27 2 [some .null, a1, a2, a3, a4] (.null :: st) ah Q := wp_s i27_1 rfl rfl rfl rfl
theorem i27_2 : insAt 27 2 = some (.arraylength, 3) := by decide +kernel
theorem r27_2 {E : aEnv} {c : Nat} {ah : aHp} {st : List Value} {Q : Option Value → aHp → Prop} {a0 a1 a2 a3 a4 : Option Value} {a : Nat} : WP E c 27 2 [a0, a1, a2, a3, a4] (.ref a :: st) ah Q = WPo (gN E ah (.ref a :: st)) (fun s9 => WP E c 27 3 [a0, a1, a2, a3, a4] s9 ah Q) := wp_hr i27_2 rfl rfl rfl rfl rfl rfl rfl rfl
theorem i27_3 : insAt 27 3 = some (.invokestatic 294, 6) := by decide +kernel
theorem r27_3 {E : aEnv} {c : Nat} {ah ah1 : aHp} {r : Option Value} {st : List Value} {Q : Option Value → aHp → Prop} {a0 a1 a2 a3 a4 : Option Value} {p0 : Int32} {p1 : Int32} (h : EV E c 294 [.int p0, .int p1] ah r ah1) (h3 : wds st ≤ 8) : WP E (c + 1) 27 3 [a0, a1, a2, a3, a4] (.int p1 :: .int p0 :: st) ah Q = WP E (c + 1) 27 6 [a0, a1, a2, a3, a4] (r.toList ++ st) ah1 Q := wp_call (As := [.int p0, .int p1]) i27_3 (fun _ => rfl) rfl mr294.1 rfl h3 (by rw [mr294.2.1]; exact Nat.le_of_ble_eq_true rfl) h
theorem i27_6 : insAt 27 6 = some (.istore 2, 7) := by decide +kernel
theorem r27_6 {E : aEnv} {c : Nat} {ah : aHp} {st : List Value} {Q : Option Value → aHp → Prop} {a0 a1 a2 a3 a4 : Option Value} {x : Int32} : WP E c 27 6 [a0, a1, a2, a3, a4] (.int x :: st) ah Q = WP E c 27 7 [a0, kil a1, some (.int x), a3, a4] (st) ah Q := wp_s i27_6 rfl rfl rfl rfl
theorem i27_7 : insAt 27 7 = some (.iconst 1, 8) := by decide +kernel
theorem r27_7 {E : aEnv} {c : Nat} {ah : aHp} {st : List Value} {Q : Option Value → aHp → Prop} {a0 a1 a2 a3 a4 : Option Value} : WP E c 27 7 [a0, a1, a2, a3, a4] (st) ah Q = WP E c 27 8 [a0, a1, a2, a3, a4] (.int (1) :: st) ah Q := wp_s i27_7 rfl rfl rfl rfl
theorem i27_8 : insAt 27 8 = some (.istore 3, 9) := by decide +kernel
theorem r27_8 {E : aEnv} {c : Nat} {ah : aHp} {st : List Value} {Q : Option Value → aHp → Prop} {a0 a1 a2 a3 a4 : Option Value} {x : Int32} : WP E c 27 8 [a0, a1, a2, a3, a4] (.int x :: st) ah Q = WP E c 27 9 [a0, a1, kil a2, some (.int x), a4] (st) ah Q := wp_s i27_8 rfl rfl rfl rfl
theorem i27_9 : insAt 27 9 = some (.iload 3, 10) := by decide +kernel
theorem r27_9 {E : aEnv} {c : Nat} {ah : aHp} {st : List Value} {Q : Option Value → aHp → Prop} {a0 a1 a2 a4 : Option Value} {x : Int32} : WP E c 27 9 [a0, a1, a2, some (.int x), a4] (st) ah Q = WP E c 27 10 [a0, a1, a2, some (.int x), a4] (.int x :: st) ah Q := wp_s i27_9 rfl rfl rfl rfl
theorem i27_10 : insAt 27 10 = some (.iload 2, 11) := by decide +kernel
theorem r27_10 {E : aEnv} {c : Nat} {ah : aHp} {st : List Value} {Q : Option Value → aHp → Prop} {a0 a1 a3 a4 : Option Value} {x : Int32} : WP E c 27 10 [a0, a1, some (.int x), a3, a4] (st) ah Q = WP E c 27 11 [a0, a1, some (.int x), a3, a4] (.int x :: st) ah Q := wp_s i27_10 rfl rfl rfl rfl
theorem i27_11 : insAt 27 11 = some (.if_icmp .ge 50, 14) := by decide +kernel
theorem r27_11 {E : aEnv} {c : Nat} {ah : aHp} {st : List Value} {Q : Option Value → aHp → Prop} {a0 a1 a2 a3 a4 : Option Value} {x y : Int32} : WP E c 27 11 [a0, a1, a2, a3, a4] (.int y :: .int x :: st) ah Q = if y ≤ x then WP E c 27 50 [a0, a1, a2, a3, a4] st ah Q else WP E c 27 14 [a0, a1, a2, a3, a4] st ah Q := wp_j i27_11 rfl rfl rfl rfl
theorem i27_14 : insAt 27 14 = some (.iload 2, 15) := by decide +kernel
theorem r27_14 {E : aEnv} {c : Nat} {ah : aHp} {st : List Value} {Q : Option Value → aHp → Prop} {a0 a1 a3 a4 : Option Value} {x : Int32} : WP E c 27 14 [a0, a1, some (.int x), a3, a4] (st) ah Q = WP E c 27 15 [a0, a1, some (.int x), a3, a4] (.int x :: st) ah Q := wp_s i27_14 rfl rfl rfl rfl
theorem i27_15 : insAt 27 15 = some (.iconst 1, 16) := by decide +kernel
theorem r27_15 {E : aEnv} {c : Nat} {ah : aHp} {st : List Value} {Q : Option Value → aHp → Prop} {a0 a1 a2 a3 a4 : Option Value} : WP E c 27 15 [a0, a1, a2, a3, a4] (st) ah Q = WP E c 27 16 [a0, a1, a2, a3, a4] (.int (1) :: st) ah Q := wp_s i27_15 rfl rfl rfl rfl
theorem i27_16 : insAt 27 16 = some (.isub, 17) := by decide +kernel
theorem r27_16 {E : aEnv} {c : Nat} {ah : aHp} {st : List Value} {Q : Option Value → aHp → Prop} {a0 a1 a2 a3 a4 : Option Value} {x y : Int32} : WP E c 27 16 [a0, a1, a2, a3, a4] (.int y :: .int x :: st) ah Q = WP E c 27 17 [a0, a1, a2, a3, a4] (.int (x - y) :: st) ah Q := wp_s i27_16 rfl rfl rfl rfl
theorem i27_17 : insAt 27 17 = some (.istore 4, 19) := by decide +kernel
theorem r27_17 {E : aEnv} {c : Nat} {ah : aHp} {st : List Value} {Q : Option Value → aHp → Prop} {a0 a1 a2 a3 a4 : Option Value} {x : Int32} : WP E c 27 17 [a0, a1, a2, a3, a4] (.int x :: st) ah Q = WP E c 27 19 [a0, a1, a2, kil a3, some (.int x)] (st) ah Q := wp_s i27_17 rfl rfl rfl rfl
theorem i27_19 : insAt 27 19 = some (.iload 4, 21) := by decide +kernel
theorem r27_19 {E : aEnv} {c : Nat} {ah : aHp} {st : List Value} {Q : Option Value → aHp → Prop} {a0 a1 a2 a3 : Option Value} {x : Int32} : WP E c 27 19 [a0, a1, a2, a3, some (.int x)] (st) ah Q = WP E c 27 21 [a0, a1, a2, a3, some (.int x)] (.int x :: st) ah Q := wp_s i27_19 rfl rfl rfl rfl
theorem i27_21 : insAt 27 21 = some (.iload 3, 22) := by decide +kernel
theorem r27_21 {E : aEnv} {c : Nat} {ah : aHp} {st : List Value} {Q : Option Value → aHp → Prop} {a0 a1 a2 a4 : Option Value} {x : Int32} : WP E c 27 21 [a0, a1, a2, some (.int x), a4] (st) ah Q = WP E c 27 22 [a0, a1, a2, some (.int x), a4] (.int x :: st) ah Q := wp_s i27_21 rfl rfl rfl rfl
theorem i27_22 : insAt 27 22 = some (.if_icmp .lt 44, 25) := by decide +kernel
theorem r27_22 {E : aEnv} {c : Nat} {ah : aHp} {st : List Value} {Q : Option Value → aHp → Prop} {a0 a1 a2 a3 a4 : Option Value} {x y : Int32} : WP E c 27 22 [a0, a1, a2, a3, a4] (.int y :: .int x :: st) ah Q = if x < y then WP E c 27 44 [a0, a1, a2, a3, a4] st ah Q else WP E c 27 25 [a0, a1, a2, a3, a4] st ah Q := wp_j i27_22 rfl rfl rfl rfl
theorem i27_25 : insAt 27 25 = some (.aload 0, 26) := by decide +kernel
theorem r27_25 {E : aEnv} {c : Nat} {ah : aHp} {st : List Value} {Q : Option Value → aHp → Prop} {a1 a2 a3 a4 : Option Value} {x : Nat} : WP E c 27 25 [some (.ref x), a1, a2, a3, a4] (st) ah Q = WP E c 27 26 [some (.ref x), a1, a2, a3, a4] (.ref x :: st) ah Q := wp_s i27_25 rfl rfl rfl rfl
theorem r27_25n {E : aEnv} {c : Nat} {ah : aHp} {st : List Value} {Q : Option Value → aHp → Prop} {a1 a2 a3 a4 : Option Value} : WP E c 27 25 [some .null, a1, a2, a3, a4] (st) ah Q = WP E c 27 26 [some .null, a1, a2, a3, a4] (.null :: st) ah Q := wp_s i27_25 rfl rfl rfl rfl
theorem i27_26 : insAt 27 26 = some (.iload 4, 28) := by decide +kernel
theorem r27_26 {E : aEnv} {c : Nat} {ah : aHp} {st : List Value} {Q : Option Value → aHp → Prop} {a0 a1 a2 a3 : Option Value} {x : Int32} : WP E c 27 26 [a0, a1, a2, a3, some (.int x)] (st) ah Q = WP E c 27 28 [a0, a1, a2, a3, some (.int x)] (.int x :: st) ah Q := wp_s i27_26 rfl rfl rfl rfl
theorem i27_28 : insAt 27 28 = some (.dup2, 29) := by decide +kernel
theorem r27_28 {E : aEnv} {c : Nat} {ah : aHp} {st : List Value} {Q : Option Value → aHp → Prop} {a0 a1 a2 a3 a4 : Option Value} {x : Int32} {a : Nat} : WP E c 27 28 [a0, a1, a2, a3, a4] (.int x :: .ref a :: st) ah Q = WP E c 27 29 [a0, a1, a2, a3, a4] (.int x :: .ref a :: .int x :: .ref a :: st) ah Q := wp_s i27_28 rfl rfl rfl rfl
theorem r27_28l {E : aEnv} {c : Nat} {ah : aHp} {st : List Value} {Q : Option Value → aHp → Prop} {a0 a1 a2 a3 a4 : Option Value} {x : Int64} : WP E c 27 28 [a0, a1, a2, a3, a4] (.long x :: st) ah Q = WP E c 27 29 [a0, a1, a2, a3, a4] (.long x :: .long x :: st) ah Q := wp_s i27_28 rfl rfl rfl rfl
theorem i27_29 : insAt 27 29 = some (.laload, 30) := by decide +kernel
theorem r27_29 {E : aEnv} {c : Nat} {ah : aHp} {st : List Value} {Q : Option Value → aHp → Prop} {a0 a1 a2 a3 a4 : Option Value} {i : Int32} {a : Nat} : WP E c 27 29 [a0, a1, a2, a3, a4] (.int i :: .ref a :: st) ah Q = WPo (gL E ah (.int i :: .ref a :: st)) (fun s9 => WP E c 27 30 [a0, a1, a2, a3, a4] s9 ah Q) := wp_hr i27_29 rfl rfl rfl rfl rfl rfl rfl rfl
theorem i27_30 : insAt 27 30 = some (.aload 0, 31) := by decide +kernel
theorem r27_30 {E : aEnv} {c : Nat} {ah : aHp} {st : List Value} {Q : Option Value → aHp → Prop} {a1 a2 a3 a4 : Option Value} {x : Nat} : WP E c 27 30 [some (.ref x), a1, a2, a3, a4] (st) ah Q = WP E c 27 31 [some (.ref x), a1, a2, a3, a4] (.ref x :: st) ah Q := wp_s i27_30 rfl rfl rfl rfl
theorem r27_30n {E : aEnv} {c : Nat} {ah : aHp} {st : List Value} {Q : Option Value → aHp → Prop} {a1 a2 a3 a4 : Option Value} : WP E c 27 30 [some .null, a1, a2, a3, a4] (st) ah Q = WP E c 27 31 [some .null, a1, a2, a3, a4] (.null :: st) ah Q := wp_s i27_30 rfl rfl rfl rfl
theorem i27_31 : insAt 27 31 = some (.iload 4, 33) := by decide +kernel
theorem r27_31 {E : aEnv} {c : Nat} {ah : aHp} {st : List Value} {Q : Option Value → aHp → Prop} {a0 a1 a2 a3 : Option Value} {x : Int32} : WP E c 27 31 [a0, a1, a2, a3, some (.int x)] (st) ah Q = WP E c 27 33 [a0, a1, a2, a3, some (.int x)] (.int x :: st) ah Q := wp_s i27_31 rfl rfl rfl rfl
theorem i27_33 : insAt 27 33 = some (.iconst 1, 34) := by decide +kernel
theorem r27_33 {E : aEnv} {c : Nat} {ah : aHp} {st : List Value} {Q : Option Value → aHp → Prop} {a0 a1 a2 a3 a4 : Option Value} : WP E c 27 33 [a0, a1, a2, a3, a4] (st) ah Q = WP E c 27 34 [a0, a1, a2, a3, a4] (.int (1) :: st) ah Q := wp_s i27_33 rfl rfl rfl rfl
theorem i27_34 : insAt 27 34 = some (.isub, 35) := by decide +kernel
theorem r27_34 {E : aEnv} {c : Nat} {ah : aHp} {st : List Value} {Q : Option Value → aHp → Prop} {a0 a1 a2 a3 a4 : Option Value} {x y : Int32} : WP E c 27 34 [a0, a1, a2, a3, a4] (.int y :: .int x :: st) ah Q = WP E c 27 35 [a0, a1, a2, a3, a4] (.int (x - y) :: st) ah Q := wp_s i27_34 rfl rfl rfl rfl
theorem i27_35 : insAt 27 35 = some (.laload, 36) := by decide +kernel
theorem r27_35 {E : aEnv} {c : Nat} {ah : aHp} {st : List Value} {Q : Option Value → aHp → Prop} {a0 a1 a2 a3 a4 : Option Value} {i : Int32} {a : Nat} : WP E c 27 35 [a0, a1, a2, a3, a4] (.int i :: .ref a :: st) ah Q = WPo (gL E ah (.int i :: .ref a :: st)) (fun s9 => WP E c 27 36 [a0, a1, a2, a3, a4] s9 ah Q) := wp_hr i27_35 rfl rfl rfl rfl rfl rfl rfl rfl
theorem i27_36 : insAt 27 36 = some (.lsub, 37) := by decide +kernel
theorem r27_36 {E : aEnv} {c : Nat} {ah : aHp} {st : List Value} {Q : Option Value → aHp → Prop} {a0 a1 a2 a3 a4 : Option Value} {x y : Int64} : WP E c 27 36 [a0, a1, a2, a3, a4] (.long y :: .long x :: st) ah Q = WP E c 27 37 [a0, a1, a2, a3, a4] (.long (x - y) :: st) ah Q := wp_s i27_36 rfl rfl rfl rfl
theorem i27_37 : insAt 27 37 = some (.lastore, 38) := by decide +kernel
theorem r27_37 {E : aEnv} {c : Nat} {ah : aHp} {st : List Value} {Q : Option Value → aHp → Prop} {a0 a1 a2 a3 a4 : Option Value} {x : Int64} {i : Int32} {a : Nat} : WP E c 27 37 [a0, a1, a2, a3, a4] (.long x :: .int i :: .ref a :: st) ah Q = WPo (pL E ah (.long x :: .int i :: .ref a :: st)) (fun q9 => WP E c 27 38 [a0, a1, a2, a3, a4] q9.1 q9.2 Q) := wp_hw i27_37 rfl rfl rfl rfl rfl rfl rfl rfl
theorem i27_38 : insAt 27 38 = some (.iinc 4 (-1), 41) := by decide +kernel
theorem r27_38 {E : aEnv} {c : Nat} {ah : aHp} {st : List Value} {Q : Option Value → aHp → Prop} {a0 a1 a2 a3 : Option Value} {x : Int32} : WP E c 27 38 [a0, a1, a2, a3, some (.int x)] (st) ah Q = WP E c 27 41 [a0, a1, a2, kil a3, some (.int (x + (-1)))] (st) ah Q := wp_s i27_38 rfl rfl rfl rfl
theorem i27_41 : insAt 27 41 = some (.goto 19, 44) := by decide +kernel
theorem r27_41 {E : aEnv} {c : Nat} {ah : aHp} {st : List Value} {Q : Option Value → aHp → Prop} {a0 a1 a2 a3 a4 : Option Value} : WP E c 27 41 [a0, a1, a2, a3, a4] (st) ah Q = WP E c 27 19 [a0, a1, a2, a3, a4] st ah Q := wp_s i27_41 rfl rfl rfl rfl
theorem i27_44 : insAt 27 44 = some (.iinc 3 1, 47) := by decide +kernel
theorem r27_44 {E : aEnv} {c : Nat} {ah : aHp} {st : List Value} {Q : Option Value → aHp → Prop} {a0 a1 a2 a4 : Option Value} {x : Int32} : WP E c 27 44 [a0, a1, a2, some (.int x), a4] (st) ah Q = WP E c 27 47 [a0, a1, kil a2, some (.int (x + 1)), a4] (st) ah Q := wp_s i27_44 rfl rfl rfl rfl
theorem i27_47 : insAt 27 47 = some (.goto 9, 50) := by decide +kernel
theorem r27_47 {E : aEnv} {c : Nat} {ah : aHp} {st : List Value} {Q : Option Value → aHp → Prop} {a0 a1 a2 a3 a4 : Option Value} : WP E c 27 47 [a0, a1, a2, a3, a4] (st) ah Q = WP E c 27 9 [a0, a1, a2, a3, a4] st ah Q := wp_s i27_47 rfl rfl rfl rfl
theorem i27_50 : insAt 27 50 = some (.return_, 51) := by decide +kernel
theorem r27_50 {E : aEnv} {c : Nat} {ah : aHp} {Q : Option Value → aHp → Prop} {a0 a1 a2 a3 a4 : Option Value} : WP E c 27 50 [a0, a1, a2, a3, a4] ([]) ah Q = Q none ah := wp_rt i27_50 rfl
theorem e28 {E : aEnv} {c : Nat} {ah ahF : aHp} {r : Option Value} {p0 : Nat} {p1 : Int32} (h : WP E c 28 0 [some (.ref p0), some (.int p1), none, none, none] [] ah (fun r1 x1 => r1 = r ∧ x1 = ahF)) : EV E c 28 [.ref p0, .int p1] ah r ahF := EV.of (by rw [mr28.2.1]; exact h)
theorem i28_0 : insAt 28 0 = some (.iload 1, 1) := by decide +kernel
theorem r28_0 {E : aEnv} {c : Nat} {ah : aHp} {st : List Value} {Q : Option Value → aHp → Prop} {a0 a2 a3 a4 : Option Value} {x : Int32} : WP E c 28 0 [a0, some (.int x), a2, a3, a4] (st) ah Q = WP E c 28 1 [a0, some (.int x), a2, a3, a4] (.int x :: st) ah Q := wp_s i28_0 rfl rfl rfl rfl
theorem i28_1 : insAt 28 1 = some (.aload 0, 2) := by decide +kernel
theorem r28_1 {E : aEnv} {c : Nat} {ah : aHp} {st : List Value} {Q : Option Value → aHp → Prop} {a1 a2 a3 a4 : Option Value} {x : Nat} : WP E c 28 1 [some (.ref x), a1, a2, a3, a4] (st) ah Q = WP E c 28 2 [some (.ref x), a1, a2, a3, a4] (.ref x :: st) ah Q := wp_s i28_1 rfl rfl rfl rfl
theorem r28_1n {E : aEnv} {c : Nat} {ah : aHp} {st : List Value} {Q : Option Value → aHp → Prop} {a1 a2 a3 a4 : Option Value} : WP E c 28 1 [some .null, a1, a2, a3, a4] (st) ah Q = WP E c 28 2 [some .null, a1, a2, a3, a4] (.null :: st) ah Q := wp_s i28_1 rfl rfl rfl rfl
theorem i28_2 : insAt 28 2 = some (.arraylength, 3) := by decide +kernel
theorem r28_2 {E : aEnv} {c : Nat} {ah : aHp} {st : List Value} {Q : Option Value → aHp → Prop} {a0 a1 a2 a3 a4 : Option Value} {a : Nat} : WP E c 28 2 [a0, a1, a2, a3, a4] (.ref a :: st) ah Q = WPo (gN E ah (.ref a :: st)) (fun s9 => WP E c 28 3 [a0, a1, a2, a3, a4] s9 ah Q) := wp_hr i28_2 rfl rfl rfl rfl rfl rfl rfl rfl
theorem i28_3 : insAt 28 3 = some (.invokestatic 294, 6) := by decide +kernel
theorem r28_3 {E : aEnv} {c : Nat} {ah ah1 : aHp} {r : Option Value} {st : List Value} {Q : Option Value → aHp → Prop} {a0 a1 a2 a3 a4 : Option Value} {p0 : Int32} {p1 : Int32} (h : EV E c 294 [.int p0, .int p1] ah r ah1) (h3 : wds st ≤ 8) : WP E (c + 1) 28 3 [a0, a1, a2, a3, a4] (.int p1 :: .int p0 :: st) ah Q = WP E (c + 1) 28 6 [a0, a1, a2, a3, a4] (r.toList ++ st) ah1 Q := wp_call (As := [.int p0, .int p1]) i28_3 (fun _ => rfl) rfl mr294.1 rfl h3 (by rw [mr294.2.1]; exact Nat.le_of_ble_eq_true rfl) h
theorem i28_6 : insAt 28 6 = some (.istore 2, 7) := by decide +kernel
theorem r28_6 {E : aEnv} {c : Nat} {ah : aHp} {st : List Value} {Q : Option Value → aHp → Prop} {a0 a1 a2 a3 a4 : Option Value} {x : Int32} : WP E c 28 6 [a0, a1, a2, a3, a4] (.int x :: st) ah Q = WP E c 28 7 [a0, kil a1, some (.int x), a3, a4] (st) ah Q := wp_s i28_6 rfl rfl rfl rfl
theorem i28_7 : insAt 28 7 = some (.aload 0, 8) := by decide +kernel
theorem r28_7 {E : aEnv} {c : Nat} {ah : aHp} {st : List Value} {Q : Option Value → aHp → Prop} {a1 a2 a3 a4 : Option Value} {x : Nat} : WP E c 28 7 [some (.ref x), a1, a2, a3, a4] (st) ah Q = WP E c 28 8 [some (.ref x), a1, a2, a3, a4] (.ref x :: st) ah Q := wp_s i28_7 rfl rfl rfl rfl
theorem r28_7n {E : aEnv} {c : Nat} {ah : aHp} {st : List Value} {Q : Option Value → aHp → Prop} {a1 a2 a3 a4 : Option Value} : WP E c 28 7 [some .null, a1, a2, a3, a4] (st) ah Q = WP E c 28 8 [some .null, a1, a2, a3, a4] (.null :: st) ah Q := wp_s i28_7 rfl rfl rfl rfl
theorem i28_8 : insAt 28 8 = some (.iload 2, 9) := by decide +kernel
theorem r28_8 {E : aEnv} {c : Nat} {ah : aHp} {st : List Value} {Q : Option Value → aHp → Prop} {a0 a1 a3 a4 : Option Value} {x : Int32} : WP E c 28 8 [a0, a1, some (.int x), a3, a4] (st) ah Q = WP E c 28 9 [a0, a1, some (.int x), a3, a4] (.int x :: st) ah Q := wp_s i28_8 rfl rfl rfl rfl
theorem i28_9 : insAt 28 9 = some (.invokestatic 27, 12) := by decide +kernel
theorem r28_9 {E : aEnv} {c : Nat} {ah ah1 : aHp} {r : Option Value} {st : List Value} {Q : Option Value → aHp → Prop} {a0 a1 a2 a3 a4 : Option Value} {p0 : Nat} {p1 : Int32} (h : EV E c 27 [.ref p0, .int p1] ah r ah1) (h3 : wds st ≤ 8) : WP E (c + 1) 28 9 [a0, a1, a2, a3, a4] (.int p1 :: .ref p0 :: st) ah Q = WP E (c + 1) 28 12 [a0, a1, a2, a3, a4] (r.toList ++ st) ah1 Q := wp_call (As := [.ref p0, .int p1]) i28_9 (fun _ => rfl) rfl mr27.1 rfl h3 (by rw [mr27.2.1]; exact Nat.le_of_ble_eq_true rfl) h
theorem i28_12 : insAt 28 12 = some (.iconst 2, 13) := by decide +kernel
theorem r28_12 {E : aEnv} {c : Nat} {ah : aHp} {st : List Value} {Q : Option Value → aHp → Prop} {a0 a1 a2 a3 a4 : Option Value} : WP E c 28 12 [a0, a1, a2, a3, a4] (st) ah Q = WP E c 28 13 [a0, a1, a2, a3, a4] (.int (2) :: st) ah Q := wp_s i28_12 rfl rfl rfl rfl
theorem i28_13 : insAt 28 13 = some (.istore 3, 14) := by decide +kernel
theorem r28_13 {E : aEnv} {c : Nat} {ah : aHp} {st : List Value} {Q : Option Value → aHp → Prop} {a0 a1 a2 a3 a4 : Option Value} {x : Int32} : WP E c 28 13 [a0, a1, a2, a3, a4] (.int x :: st) ah Q = WP E c 28 14 [a0, a1, kil a2, some (.int x), a4] (st) ah Q := wp_s i28_13 rfl rfl rfl rfl
theorem i28_14 : insAt 28 14 = some (.iload 3, 15) := by decide +kernel
theorem r28_14 {E : aEnv} {c : Nat} {ah : aHp} {st : List Value} {Q : Option Value → aHp → Prop} {a0 a1 a2 a4 : Option Value} {x : Int32} : WP E c 28 14 [a0, a1, a2, some (.int x), a4] (st) ah Q = WP E c 28 15 [a0, a1, a2, some (.int x), a4] (.int x :: st) ah Q := wp_s i28_14 rfl rfl rfl rfl
theorem i28_15 : insAt 28 15 = some (.iload 2, 16) := by decide +kernel
theorem r28_15 {E : aEnv} {c : Nat} {ah : aHp} {st : List Value} {Q : Option Value → aHp → Prop} {a0 a1 a3 a4 : Option Value} {x : Int32} : WP E c 28 15 [a0, a1, some (.int x), a3, a4] (st) ah Q = WP E c 28 16 [a0, a1, some (.int x), a3, a4] (.int x :: st) ah Q := wp_s i28_15 rfl rfl rfl rfl
theorem i28_16 : insAt 28 16 = some (.if_icmp .ge 55, 19) := by decide +kernel
theorem r28_16 {E : aEnv} {c : Nat} {ah : aHp} {st : List Value} {Q : Option Value → aHp → Prop} {a0 a1 a2 a3 a4 : Option Value} {x y : Int32} : WP E c 28 16 [a0, a1, a2, a3, a4] (.int y :: .int x :: st) ah Q = if y ≤ x then WP E c 28 55 [a0, a1, a2, a3, a4] st ah Q else WP E c 28 19 [a0, a1, a2, a3, a4] st ah Q := wp_j i28_16 rfl rfl rfl rfl
theorem i28_19 : insAt 28 19 = some (.iload 2, 20) := by decide +kernel
theorem r28_19 {E : aEnv} {c : Nat} {ah : aHp} {st : List Value} {Q : Option Value → aHp → Prop} {a0 a1 a3 a4 : Option Value} {x : Int32} : WP E c 28 19 [a0, a1, some (.int x), a3, a4] (st) ah Q = WP E c 28 20 [a0, a1, some (.int x), a3, a4] (.int x :: st) ah Q := wp_s i28_19 rfl rfl rfl rfl
theorem i28_20 : insAt 28 20 = some (.iconst 2, 21) := by decide +kernel
theorem r28_20 {E : aEnv} {c : Nat} {ah : aHp} {st : List Value} {Q : Option Value → aHp → Prop} {a0 a1 a2 a3 a4 : Option Value} : WP E c 28 20 [a0, a1, a2, a3, a4] (st) ah Q = WP E c 28 21 [a0, a1, a2, a3, a4] (.int (2) :: st) ah Q := wp_s i28_20 rfl rfl rfl rfl
theorem i28_21 : insAt 28 21 = some (.isub, 22) := by decide +kernel
theorem r28_21 {E : aEnv} {c : Nat} {ah : aHp} {st : List Value} {Q : Option Value → aHp → Prop} {a0 a1 a2 a3 a4 : Option Value} {x y : Int32} : WP E c 28 21 [a0, a1, a2, a3, a4] (.int y :: .int x :: st) ah Q = WP E c 28 22 [a0, a1, a2, a3, a4] (.int (x - y) :: st) ah Q := wp_s i28_21 rfl rfl rfl rfl
theorem i28_22 : insAt 28 22 = some (.istore 4, 24) := by decide +kernel
theorem r28_22 {E : aEnv} {c : Nat} {ah : aHp} {st : List Value} {Q : Option Value → aHp → Prop} {a0 a1 a2 a3 a4 : Option Value} {x : Int32} : WP E c 28 22 [a0, a1, a2, a3, a4] (.int x :: st) ah Q = WP E c 28 24 [a0, a1, a2, kil a3, some (.int x)] (st) ah Q := wp_s i28_22 rfl rfl rfl rfl
theorem i28_24 : insAt 28 24 = some (.iload 4, 26) := by decide +kernel
theorem r28_24 {E : aEnv} {c : Nat} {ah : aHp} {st : List Value} {Q : Option Value → aHp → Prop} {a0 a1 a2 a3 : Option Value} {x : Int32} : WP E c 28 24 [a0, a1, a2, a3, some (.int x)] (st) ah Q = WP E c 28 26 [a0, a1, a2, a3, some (.int x)] (.int x :: st) ah Q := wp_s i28_24 rfl rfl rfl rfl
theorem i28_26 : insAt 28 26 = some (.iload 3, 27) := by decide +kernel
theorem r28_26 {E : aEnv} {c : Nat} {ah : aHp} {st : List Value} {Q : Option Value → aHp → Prop} {a0 a1 a2 a4 : Option Value} {x : Int32} : WP E c 28 26 [a0, a1, a2, some (.int x), a4] (st) ah Q = WP E c 28 27 [a0, a1, a2, some (.int x), a4] (.int x :: st) ah Q := wp_s i28_26 rfl rfl rfl rfl
theorem i28_27 : insAt 28 27 = some (.if_icmp .lt 49, 30) := by decide +kernel
theorem r28_27 {E : aEnv} {c : Nat} {ah : aHp} {st : List Value} {Q : Option Value → aHp → Prop} {a0 a1 a2 a3 a4 : Option Value} {x y : Int32} : WP E c 28 27 [a0, a1, a2, a3, a4] (.int y :: .int x :: st) ah Q = if x < y then WP E c 28 49 [a0, a1, a2, a3, a4] st ah Q else WP E c 28 30 [a0, a1, a2, a3, a4] st ah Q := wp_j i28_27 rfl rfl rfl rfl
theorem i28_30 : insAt 28 30 = some (.aload 0, 31) := by decide +kernel
theorem r28_30 {E : aEnv} {c : Nat} {ah : aHp} {st : List Value} {Q : Option Value → aHp → Prop} {a1 a2 a3 a4 : Option Value} {x : Nat} : WP E c 28 30 [some (.ref x), a1, a2, a3, a4] (st) ah Q = WP E c 28 31 [some (.ref x), a1, a2, a3, a4] (.ref x :: st) ah Q := wp_s i28_30 rfl rfl rfl rfl
theorem r28_30n {E : aEnv} {c : Nat} {ah : aHp} {st : List Value} {Q : Option Value → aHp → Prop} {a1 a2 a3 a4 : Option Value} : WP E c 28 30 [some .null, a1, a2, a3, a4] (st) ah Q = WP E c 28 31 [some .null, a1, a2, a3, a4] (.null :: st) ah Q := wp_s i28_30 rfl rfl rfl rfl
theorem i28_31 : insAt 28 31 = some (.iload 4, 33) := by decide +kernel
theorem r28_31 {E : aEnv} {c : Nat} {ah : aHp} {st : List Value} {Q : Option Value → aHp → Prop} {a0 a1 a2 a3 : Option Value} {x : Int32} : WP E c 28 31 [a0, a1, a2, a3, some (.int x)] (st) ah Q = WP E c 28 33 [a0, a1, a2, a3, some (.int x)] (.int x :: st) ah Q := wp_s i28_31 rfl rfl rfl rfl
theorem i28_33 : insAt 28 33 = some (.dup2, 34) := by decide +kernel
theorem r28_33 {E : aEnv} {c : Nat} {ah : aHp} {st : List Value} {Q : Option Value → aHp → Prop} {a0 a1 a2 a3 a4 : Option Value} {x : Int32} {a : Nat} : WP E c 28 33 [a0, a1, a2, a3, a4] (.int x :: .ref a :: st) ah Q = WP E c 28 34 [a0, a1, a2, a3, a4] (.int x :: .ref a :: .int x :: .ref a :: st) ah Q := wp_s i28_33 rfl rfl rfl rfl
theorem r28_33l {E : aEnv} {c : Nat} {ah : aHp} {st : List Value} {Q : Option Value → aHp → Prop} {a0 a1 a2 a3 a4 : Option Value} {x : Int64} : WP E c 28 33 [a0, a1, a2, a3, a4] (.long x :: st) ah Q = WP E c 28 34 [a0, a1, a2, a3, a4] (.long x :: .long x :: st) ah Q := wp_s i28_33 rfl rfl rfl rfl
theorem i28_34 : insAt 28 34 = some (.laload, 35) := by decide +kernel
theorem r28_34 {E : aEnv} {c : Nat} {ah : aHp} {st : List Value} {Q : Option Value → aHp → Prop} {a0 a1 a2 a3 a4 : Option Value} {i : Int32} {a : Nat} : WP E c 28 34 [a0, a1, a2, a3, a4] (.int i :: .ref a :: st) ah Q = WPo (gL E ah (.int i :: .ref a :: st)) (fun s9 => WP E c 28 35 [a0, a1, a2, a3, a4] s9 ah Q) := wp_hr i28_34 rfl rfl rfl rfl rfl rfl rfl rfl
theorem i28_35 : insAt 28 35 = some (.aload 0, 36) := by decide +kernel
theorem r28_35 {E : aEnv} {c : Nat} {ah : aHp} {st : List Value} {Q : Option Value → aHp → Prop} {a1 a2 a3 a4 : Option Value} {x : Nat} : WP E c 28 35 [some (.ref x), a1, a2, a3, a4] (st) ah Q = WP E c 28 36 [some (.ref x), a1, a2, a3, a4] (.ref x :: st) ah Q := wp_s i28_35 rfl rfl rfl rfl
theorem r28_35n {E : aEnv} {c : Nat} {ah : aHp} {st : List Value} {Q : Option Value → aHp → Prop} {a1 a2 a3 a4 : Option Value} : WP E c 28 35 [some .null, a1, a2, a3, a4] (st) ah Q = WP E c 28 36 [some .null, a1, a2, a3, a4] (.null :: st) ah Q := wp_s i28_35 rfl rfl rfl rfl
theorem i28_36 : insAt 28 36 = some (.iload 4, 38) := by decide +kernel
theorem r28_36 {E : aEnv} {c : Nat} {ah : aHp} {st : List Value} {Q : Option Value → aHp → Prop} {a0 a1 a2 a3 : Option Value} {x : Int32} : WP E c 28 36 [a0, a1, a2, a3, some (.int x)] (st) ah Q = WP E c 28 38 [a0, a1, a2, a3, some (.int x)] (.int x :: st) ah Q := wp_s i28_36 rfl rfl rfl rfl
theorem i28_38 : insAt 28 38 = some (.iconst 1, 39) := by decide +kernel
theorem r28_38 {E : aEnv} {c : Nat} {ah : aHp} {st : List Value} {Q : Option Value → aHp → Prop} {a0 a1 a2 a3 a4 : Option Value} : WP E c 28 38 [a0, a1, a2, a3, a4] (st) ah Q = WP E c 28 39 [a0, a1, a2, a3, a4] (.int (1) :: st) ah Q := wp_s i28_38 rfl rfl rfl rfl
theorem i28_39 : insAt 28 39 = some (.iadd, 40) := by decide +kernel
theorem r28_39 {E : aEnv} {c : Nat} {ah : aHp} {st : List Value} {Q : Option Value → aHp → Prop} {a0 a1 a2 a3 a4 : Option Value} {x y : Int32} : WP E c 28 39 [a0, a1, a2, a3, a4] (.int y :: .int x :: st) ah Q = WP E c 28 40 [a0, a1, a2, a3, a4] (.int (x + y) :: st) ah Q := wp_s i28_39 rfl rfl rfl rfl
theorem i28_40 : insAt 28 40 = some (.laload, 41) := by decide +kernel
theorem r28_40 {E : aEnv} {c : Nat} {ah : aHp} {st : List Value} {Q : Option Value → aHp → Prop} {a0 a1 a2 a3 a4 : Option Value} {i : Int32} {a : Nat} : WP E c 28 40 [a0, a1, a2, a3, a4] (.int i :: .ref a :: st) ah Q = WPo (gL E ah (.int i :: .ref a :: st)) (fun s9 => WP E c 28 41 [a0, a1, a2, a3, a4] s9 ah Q) := wp_hr i28_40 rfl rfl rfl rfl rfl rfl rfl rfl
theorem i28_41 : insAt 28 41 = some (.lsub, 42) := by decide +kernel
theorem r28_41 {E : aEnv} {c : Nat} {ah : aHp} {st : List Value} {Q : Option Value → aHp → Prop} {a0 a1 a2 a3 a4 : Option Value} {x y : Int64} : WP E c 28 41 [a0, a1, a2, a3, a4] (.long y :: .long x :: st) ah Q = WP E c 28 42 [a0, a1, a2, a3, a4] (.long (x - y) :: st) ah Q := wp_s i28_41 rfl rfl rfl rfl
theorem i28_42 : insAt 28 42 = some (.lastore, 43) := by decide +kernel
theorem r28_42 {E : aEnv} {c : Nat} {ah : aHp} {st : List Value} {Q : Option Value → aHp → Prop} {a0 a1 a2 a3 a4 : Option Value} {x : Int64} {i : Int32} {a : Nat} : WP E c 28 42 [a0, a1, a2, a3, a4] (.long x :: .int i :: .ref a :: st) ah Q = WPo (pL E ah (.long x :: .int i :: .ref a :: st)) (fun q9 => WP E c 28 43 [a0, a1, a2, a3, a4] q9.1 q9.2 Q) := wp_hw i28_42 rfl rfl rfl rfl rfl rfl rfl rfl
theorem i28_43 : insAt 28 43 = some (.iinc 4 (-1), 46) := by decide +kernel
theorem r28_43 {E : aEnv} {c : Nat} {ah : aHp} {st : List Value} {Q : Option Value → aHp → Prop} {a0 a1 a2 a3 : Option Value} {x : Int32} : WP E c 28 43 [a0, a1, a2, a3, some (.int x)] (st) ah Q = WP E c 28 46 [a0, a1, a2, kil a3, some (.int (x + (-1)))] (st) ah Q := wp_s i28_43 rfl rfl rfl rfl
theorem i28_46 : insAt 28 46 = some (.goto 24, 49) := by decide +kernel
theorem r28_46 {E : aEnv} {c : Nat} {ah : aHp} {st : List Value} {Q : Option Value → aHp → Prop} {a0 a1 a2 a3 a4 : Option Value} : WP E c 28 46 [a0, a1, a2, a3, a4] (st) ah Q = WP E c 28 24 [a0, a1, a2, a3, a4] st ah Q := wp_s i28_46 rfl rfl rfl rfl
theorem i28_49 : insAt 28 49 = some (.iinc 3 2, 52) := by decide +kernel
theorem r28_49 {E : aEnv} {c : Nat} {ah : aHp} {st : List Value} {Q : Option Value → aHp → Prop} {a0 a1 a2 a4 : Option Value} {x : Int32} : WP E c 28 49 [a0, a1, a2, some (.int x), a4] (st) ah Q = WP E c 28 52 [a0, a1, kil a2, some (.int (x + 2)), a4] (st) ah Q := wp_s i28_49 rfl rfl rfl rfl
theorem i28_52 : insAt 28 52 = some (.goto 14, 55) := by decide +kernel
theorem r28_52 {E : aEnv} {c : Nat} {ah : aHp} {st : List Value} {Q : Option Value → aHp → Prop} {a0 a1 a2 a3 a4 : Option Value} : WP E c 28 52 [a0, a1, a2, a3, a4] (st) ah Q = WP E c 28 14 [a0, a1, a2, a3, a4] st ah Q := wp_s i28_52 rfl rfl rfl rfl
theorem i28_55 : insAt 28 55 = some (.return_, 56) := by decide +kernel
theorem r28_55 {E : aEnv} {c : Nat} {ah : aHp} {Q : Option Value → aHp → Prop} {a0 a1 a2 a3 a4 : Option Value} : WP E c 28 55 [a0, a1, a2, a3, a4] ([]) ah Q = Q none ah := wp_rt i28_55 rfl
theorem e29 {E : aEnv} {c : Nat} {ah ahF : aHp} {r : Option Value} {p0 : Nat} {p1 : Int32} {p2 : Int64} (h : WP E c 29 0 [some (.ref p0), some (.int p1), some (.long p2), none, none, none] [] ah (fun r1 x1 => r1 = r ∧ x1 = ahF)) : EV E c 29 [.ref p0, .int p1, .long p2] ah r ahF := EV.of (by rw [mr29.2.1]; exact h)
theorem i29_0 : insAt 29 0 = some (.iload 1, 1) := by decide +kernel
theorem r29_0 {E : aEnv} {c : Nat} {ah : aHp} {st : List Value} {Q : Option Value → aHp → Prop} {a0 a2 a3 a4 a5 : Option Value} {x : Int32} : WP E c 29 0 [a0, some (.int x), a2, a3, a4, a5] (st) ah Q = WP E c 29 1 [a0, some (.int x), a2, a3, a4, a5] (.int x :: st) ah Q := wp_s i29_0 rfl rfl rfl rfl
theorem i29_1 : insAt 29 1 = some (.aload 0, 2) := by decide +kernel
theorem r29_1 {E : aEnv} {c : Nat} {ah : aHp} {st : List Value} {Q : Option Value → aHp → Prop} {a1 a2 a3 a4 a5 : Option Value} {x : Nat} : WP E c 29 1 [some (.ref x), a1, a2, a3, a4, a5] (st) ah Q = WP E c 29 2 [some (.ref x), a1, a2, a3, a4, a5] (.ref x :: st) ah Q := wp_s i29_1 rfl rfl rfl rfl
theorem r29_1n {E : aEnv} {c : Nat} {ah : aHp} {st : List Value} {Q : Option Value → aHp → Prop} {a1 a2 a3 a4 a5 : Option Value} : WP E c 29 1 [some .null, a1, a2, a3, a4, a5] (st) ah Q = WP E c 29 2 [some .null, a1, a2, a3, a4, a5] (.null :: st) ah Q := wp_s i29_1 rfl rfl rfl rfl
theorem i29_2 : insAt 29 2 = some (.arraylength, 3) := by decide +kernel
theorem r29_2 {E : aEnv} {c : Nat} {ah : aHp} {st : List Value} {Q : Option Value → aHp → Prop} {a0 a1 a2 a3 a4 a5 : Option Value} {a : Nat} : WP E c 29 2 [a0, a1, a2, a3, a4, a5] (.ref a :: st) ah Q = WPo (gN E ah (.ref a :: st)) (fun s9 => WP E c 29 3 [a0, a1, a2, a3, a4, a5] s9 ah Q) := wp_hr i29_2 rfl rfl rfl rfl rfl rfl rfl rfl
theorem i29_3 : insAt 29 3 = some (.invokestatic 294, 6) := by decide +kernel
theorem r29_3 {E : aEnv} {c : Nat} {ah ah1 : aHp} {r : Option Value} {st : List Value} {Q : Option Value → aHp → Prop} {a0 a1 a2 a3 a4 a5 : Option Value} {p0 : Int32} {p1 : Int32} (h : EV E c 294 [.int p0, .int p1] ah r ah1) (h3 : wds st ≤ 8) : WP E (c + 1) 29 3 [a0, a1, a2, a3, a4, a5] (.int p1 :: .int p0 :: st) ah Q = WP E (c + 1) 29 6 [a0, a1, a2, a3, a4, a5] (r.toList ++ st) ah1 Q := wp_call (As := [.int p0, .int p1]) i29_3 (fun _ => rfl) rfl mr294.1 rfl h3 (by rw [mr294.2.1]; exact Nat.le_of_ble_eq_true rfl) h
theorem i29_6 : insAt 29 6 = some (.istore 4, 8) := by decide +kernel
theorem r29_6 {E : aEnv} {c : Nat} {ah : aHp} {st : List Value} {Q : Option Value → aHp → Prop} {a0 a1 a2 a3 a4 a5 : Option Value} {x : Int32} : WP E c 29 6 [a0, a1, a2, a3, a4, a5] (.int x :: st) ah Q = WP E c 29 8 [a0, a1, a2, kil a3, some (.int x), a5] (st) ah Q := wp_s i29_6 rfl rfl rfl rfl
theorem i29_8 : insAt 29 8 = some (.iconst 0, 9) := by decide +kernel
theorem r29_8 {E : aEnv} {c : Nat} {ah : aHp} {st : List Value} {Q : Option Value → aHp → Prop} {a0 a1 a2 a3 a4 a5 : Option Value} : WP E c 29 8 [a0, a1, a2, a3, a4, a5] (st) ah Q = WP E c 29 9 [a0, a1, a2, a3, a4, a5] (.int (0) :: st) ah Q := wp_s i29_8 rfl rfl rfl rfl
theorem i29_9 : insAt 29 9 = some (.istore 5, 11) := by decide +kernel
theorem r29_9 {E : aEnv} {c : Nat} {ah : aHp} {st : List Value} {Q : Option Value → aHp → Prop} {a0 a1 a2 a3 a4 a5 : Option Value} {x : Int32} : WP E c 29 9 [a0, a1, a2, a3, a4, a5] (.int x :: st) ah Q = WP E c 29 11 [a0, a1, a2, a3, kil a4, some (.int x)] (st) ah Q := wp_s i29_9 rfl rfl rfl rfl
theorem i29_11 : insAt 29 11 = some (.iload 5, 13) := by decide +kernel
theorem r29_11 {E : aEnv} {c : Nat} {ah : aHp} {st : List Value} {Q : Option Value → aHp → Prop} {a0 a1 a2 a3 a4 : Option Value} {x : Int32} : WP E c 29 11 [a0, a1, a2, a3, a4, some (.int x)] (st) ah Q = WP E c 29 13 [a0, a1, a2, a3, a4, some (.int x)] (.int x :: st) ah Q := wp_s i29_11 rfl rfl rfl rfl
theorem i29_13 : insAt 29 13 = some (.iconst 1, 14) := by decide +kernel
theorem r29_13 {E : aEnv} {c : Nat} {ah : aHp} {st : List Value} {Q : Option Value → aHp → Prop} {a0 a1 a2 a3 a4 a5 : Option Value} : WP E c 29 13 [a0, a1, a2, a3, a4, a5] (st) ah Q = WP E c 29 14 [a0, a1, a2, a3, a4, a5] (.int (1) :: st) ah Q := wp_s i29_13 rfl rfl rfl rfl
theorem i29_14 : insAt 29 14 = some (.iadd, 15) := by decide +kernel
theorem r29_14 {E : aEnv} {c : Nat} {ah : aHp} {st : List Value} {Q : Option Value → aHp → Prop} {a0 a1 a2 a3 a4 a5 : Option Value} {x y : Int32} : WP E c 29 14 [a0, a1, a2, a3, a4, a5] (.int y :: .int x :: st) ah Q = WP E c 29 15 [a0, a1, a2, a3, a4, a5] (.int (x + y) :: st) ah Q := wp_s i29_14 rfl rfl rfl rfl
theorem i29_15 : insAt 29 15 = some (.iload 4, 17) := by decide +kernel
theorem r29_15 {E : aEnv} {c : Nat} {ah : aHp} {st : List Value} {Q : Option Value → aHp → Prop} {a0 a1 a2 a3 a5 : Option Value} {x : Int32} : WP E c 29 15 [a0, a1, a2, a3, some (.int x), a5] (st) ah Q = WP E c 29 17 [a0, a1, a2, a3, some (.int x), a5] (.int x :: st) ah Q := wp_s i29_15 rfl rfl rfl rfl
theorem i29_17 : insAt 29 17 = some (.if_icmp .ge 44, 20) := by decide +kernel
theorem r29_17 {E : aEnv} {c : Nat} {ah : aHp} {st : List Value} {Q : Option Value → aHp → Prop} {a0 a1 a2 a3 a4 a5 : Option Value} {x y : Int32} : WP E c 29 17 [a0, a1, a2, a3, a4, a5] (.int y :: .int x :: st) ah Q = if y ≤ x then WP E c 29 44 [a0, a1, a2, a3, a4, a5] st ah Q else WP E c 29 20 [a0, a1, a2, a3, a4, a5] st ah Q := wp_j i29_17 rfl rfl rfl rfl
theorem i29_20 : insAt 29 20 = some (.aload 0, 21) := by decide +kernel
theorem r29_20 {E : aEnv} {c : Nat} {ah : aHp} {st : List Value} {Q : Option Value → aHp → Prop} {a1 a2 a3 a4 a5 : Option Value} {x : Nat} : WP E c 29 20 [some (.ref x), a1, a2, a3, a4, a5] (st) ah Q = WP E c 29 21 [some (.ref x), a1, a2, a3, a4, a5] (.ref x :: st) ah Q := wp_s i29_20 rfl rfl rfl rfl
theorem r29_20n {E : aEnv} {c : Nat} {ah : aHp} {st : List Value} {Q : Option Value → aHp → Prop} {a1 a2 a3 a4 a5 : Option Value} : WP E c 29 20 [some .null, a1, a2, a3, a4, a5] (st) ah Q = WP E c 29 21 [some .null, a1, a2, a3, a4, a5] (.null :: st) ah Q := wp_s i29_20 rfl rfl rfl rfl
theorem i29_21 : insAt 29 21 = some (.iload 5, 23) := by decide +kernel
theorem r29_21 {E : aEnv} {c : Nat} {ah : aHp} {st : List Value} {Q : Option Value → aHp → Prop} {a0 a1 a2 a3 a4 : Option Value} {x : Int32} : WP E c 29 21 [a0, a1, a2, a3, a4, some (.int x)] (st) ah Q = WP E c 29 23 [a0, a1, a2, a3, a4, some (.int x)] (.int x :: st) ah Q := wp_s i29_21 rfl rfl rfl rfl
theorem i29_23 : insAt 29 23 = some (.aload 0, 24) := by decide +kernel
theorem r29_23 {E : aEnv} {c : Nat} {ah : aHp} {st : List Value} {Q : Option Value → aHp → Prop} {a1 a2 a3 a4 a5 : Option Value} {x : Nat} : WP E c 29 23 [some (.ref x), a1, a2, a3, a4, a5] (st) ah Q = WP E c 29 24 [some (.ref x), a1, a2, a3, a4, a5] (.ref x :: st) ah Q := wp_s i29_23 rfl rfl rfl rfl
theorem r29_23n {E : aEnv} {c : Nat} {ah : aHp} {st : List Value} {Q : Option Value → aHp → Prop} {a1 a2 a3 a4 a5 : Option Value} : WP E c 29 23 [some .null, a1, a2, a3, a4, a5] (st) ah Q = WP E c 29 24 [some .null, a1, a2, a3, a4, a5] (.null :: st) ah Q := wp_s i29_23 rfl rfl rfl rfl
theorem i29_24 : insAt 29 24 = some (.iload 5, 26) := by decide +kernel
theorem r29_24 {E : aEnv} {c : Nat} {ah : aHp} {st : List Value} {Q : Option Value → aHp → Prop} {a0 a1 a2 a3 a4 : Option Value} {x : Int32} : WP E c 29 24 [a0, a1, a2, a3, a4, some (.int x)] (st) ah Q = WP E c 29 26 [a0, a1, a2, a3, a4, some (.int x)] (.int x :: st) ah Q := wp_s i29_24 rfl rfl rfl rfl
theorem i29_26 : insAt 29 26 = some (.laload, 27) := by decide +kernel
theorem r29_26 {E : aEnv} {c : Nat} {ah : aHp} {st : List Value} {Q : Option Value → aHp → Prop} {a0 a1 a2 a3 a4 a5 : Option Value} {i : Int32} {a : Nat} : WP E c 29 26 [a0, a1, a2, a3, a4, a5] (.int i :: .ref a :: st) ah Q = WPo (gL E ah (.int i :: .ref a :: st)) (fun s9 => WP E c 29 27 [a0, a1, a2, a3, a4, a5] s9 ah Q) := wp_hr i29_26 rfl rfl rfl rfl rfl rfl rfl rfl
theorem i29_27 : insAt 29 27 = some (.aload 0, 28) := by decide +kernel
theorem r29_27 {E : aEnv} {c : Nat} {ah : aHp} {st : List Value} {Q : Option Value → aHp → Prop} {a1 a2 a3 a4 a5 : Option Value} {x : Nat} : WP E c 29 27 [some (.ref x), a1, a2, a3, a4, a5] (st) ah Q = WP E c 29 28 [some (.ref x), a1, a2, a3, a4, a5] (.ref x :: st) ah Q := wp_s i29_27 rfl rfl rfl rfl
theorem r29_27n {E : aEnv} {c : Nat} {ah : aHp} {st : List Value} {Q : Option Value → aHp → Prop} {a1 a2 a3 a4 a5 : Option Value} : WP E c 29 27 [some .null, a1, a2, a3, a4, a5] (st) ah Q = WP E c 29 28 [some .null, a1, a2, a3, a4, a5] (.null :: st) ah Q := wp_s i29_27 rfl rfl rfl rfl
theorem i29_28 : insAt 29 28 = some (.iload 5, 30) := by decide +kernel
theorem r29_28 {E : aEnv} {c : Nat} {ah : aHp} {st : List Value} {Q : Option Value → aHp → Prop} {a0 a1 a2 a3 a4 : Option Value} {x : Int32} : WP E c 29 28 [a0, a1, a2, a3, a4, some (.int x)] (st) ah Q = WP E c 29 30 [a0, a1, a2, a3, a4, some (.int x)] (.int x :: st) ah Q := wp_s i29_28 rfl rfl rfl rfl
theorem i29_30 : insAt 29 30 = some (.iconst 1, 31) := by decide +kernel
theorem r29_30 {E : aEnv} {c : Nat} {ah : aHp} {st : List Value} {Q : Option Value → aHp → Prop} {a0 a1 a2 a3 a4 a5 : Option Value} : WP E c 29 30 [a0, a1, a2, a3, a4, a5] (st) ah Q = WP E c 29 31 [a0, a1, a2, a3, a4, a5] (.int (1) :: st) ah Q := wp_s i29_30 rfl rfl rfl rfl
theorem i29_31 : insAt 29 31 = some (.iadd, 32) := by decide +kernel
theorem r29_31 {E : aEnv} {c : Nat} {ah : aHp} {st : List Value} {Q : Option Value → aHp → Prop} {a0 a1 a2 a3 a4 a5 : Option Value} {x y : Int32} : WP E c 29 31 [a0, a1, a2, a3, a4, a5] (.int y :: .int x :: st) ah Q = WP E c 29 32 [a0, a1, a2, a3, a4, a5] (.int (x + y) :: st) ah Q := wp_s i29_31 rfl rfl rfl rfl
theorem i29_32 : insAt 29 32 = some (.laload, 33) := by decide +kernel
theorem r29_32 {E : aEnv} {c : Nat} {ah : aHp} {st : List Value} {Q : Option Value → aHp → Prop} {a0 a1 a2 a3 a4 a5 : Option Value} {i : Int32} {a : Nat} : WP E c 29 32 [a0, a1, a2, a3, a4, a5] (.int i :: .ref a :: st) ah Q = WPo (gL E ah (.int i :: .ref a :: st)) (fun s9 => WP E c 29 33 [a0, a1, a2, a3, a4, a5] s9 ah Q) := wp_hr i29_32 rfl rfl rfl rfl rfl rfl rfl rfl
theorem i29_33 : insAt 29 33 = some (.lload 2, 34) := by decide +kernel
theorem r29_33 {E : aEnv} {c : Nat} {ah : aHp} {st : List Value} {Q : Option Value → aHp → Prop} {a0 a1 a3 a4 a5 : Option Value} {x : Int64} : WP E c 29 33 [a0, a1, some (.long x), a3, a4, a5] (st) ah Q = WP E c 29 34 [a0, a1, some (.long x), a3, a4, a5] (.long x :: st) ah Q := wp_s i29_33 rfl rfl rfl rfl
theorem i29_34 : insAt 29 34 = some (.invokestatic 30, 37) := by decide +kernel
theorem r29_34 {E : aEnv} {c : Nat} {ah ah1 : aHp} {r : Option Value} {st : List Value} {Q : Option Value → aHp → Prop} {a0 a1 a2 a3 a4 a5 : Option Value} {p0 : Int64} {p1 : Int64} {p2 : Int64} (h : EV E c 30 [.long p0, .long p1, .long p2] ah r ah1) (h3 : wds st ≤ 8) : WP E (c + 1) 29 34 [a0, a1, a2, a3, a4, a5] (.long p2 :: .long p1 :: .long p0 :: st) ah Q = WP E (c + 1) 29 37 [a0, a1, a2, a3, a4, a5] (r.toList ++ st) ah1 Q := wp_call (As := [.long p0, .long p1, .long p2]) i29_34 (fun _ => rfl) rfl mr30.1 rfl h3 (by rw [mr30.2.1]; exact Nat.le_of_ble_eq_true rfl) h
theorem i29_37 : insAt 29 37 = some (.lastore, 38) := by decide +kernel
theorem r29_37 {E : aEnv} {c : Nat} {ah : aHp} {st : List Value} {Q : Option Value → aHp → Prop} {a0 a1 a2 a3 a4 a5 : Option Value} {x : Int64} {i : Int32} {a : Nat} : WP E c 29 37 [a0, a1, a2, a3, a4, a5] (.long x :: .int i :: .ref a :: st) ah Q = WPo (pL E ah (.long x :: .int i :: .ref a :: st)) (fun q9 => WP E c 29 38 [a0, a1, a2, a3, a4, a5] q9.1 q9.2 Q) := wp_hw i29_37 rfl rfl rfl rfl rfl rfl rfl rfl
theorem i29_38 : insAt 29 38 = some (.iinc 5 2, 41) := by decide +kernel
theorem r29_38 {E : aEnv} {c : Nat} {ah : aHp} {st : List Value} {Q : Option Value → aHp → Prop} {a0 a1 a2 a3 a4 : Option Value} {x : Int32} : WP E c 29 38 [a0, a1, a2, a3, a4, some (.int x)] (st) ah Q = WP E c 29 41 [a0, a1, a2, a3, kil a4, some (.int (x + 2))] (st) ah Q := wp_s i29_38 rfl rfl rfl rfl
theorem i29_41 : insAt 29 41 = some (.goto 11, 44) := by decide +kernel
theorem r29_41 {E : aEnv} {c : Nat} {ah : aHp} {st : List Value} {Q : Option Value → aHp → Prop} {a0 a1 a2 a3 a4 a5 : Option Value} : WP E c 29 41 [a0, a1, a2, a3, a4, a5] (st) ah Q = WP E c 29 11 [a0, a1, a2, a3, a4, a5] st ah Q := wp_s i29_41 rfl rfl rfl rfl
theorem i29_44 : insAt 29 44 = some (.iconst 1, 45) := by decide +kernel
theorem r29_44 {E : aEnv} {c : Nat} {ah : aHp} {st : List Value} {Q : Option Value → aHp → Prop} {a0 a1 a2 a3 a4 a5 : Option Value} : WP E c 29 44 [a0, a1, a2, a3, a4, a5] (st) ah Q = WP E c 29 45 [a0, a1, a2, a3, a4, a5] (.int (1) :: st) ah Q := wp_s i29_44 rfl rfl rfl rfl
theorem i29_45 : insAt 29 45 = some (.istore 5, 47) := by decide +kernel
theorem r29_45 {E : aEnv} {c : Nat} {ah : aHp} {st : List Value} {Q : Option Value → aHp → Prop} {a0 a1 a2 a3 a4 a5 : Option Value} {x : Int32} : WP E c 29 45 [a0, a1, a2, a3, a4, a5] (.int x :: st) ah Q = WP E c 29 47 [a0, a1, a2, a3, kil a4, some (.int x)] (st) ah Q := wp_s i29_45 rfl rfl rfl rfl
theorem i29_47 : insAt 29 47 = some (.iload 5, 49) := by decide +kernel
theorem r29_47 {E : aEnv} {c : Nat} {ah : aHp} {st : List Value} {Q : Option Value → aHp → Prop} {a0 a1 a2 a3 a4 : Option Value} {x : Int32} : WP E c 29 47 [a0, a1, a2, a3, a4, some (.int x)] (st) ah Q = WP E c 29 49 [a0, a1, a2, a3, a4, some (.int x)] (.int x :: st) ah Q := wp_s i29_47 rfl rfl rfl rfl
theorem i29_49 : insAt 29 49 = some (.iconst 1, 50) := by decide +kernel
theorem r29_49 {E : aEnv} {c : Nat} {ah : aHp} {st : List Value} {Q : Option Value → aHp → Prop} {a0 a1 a2 a3 a4 a5 : Option Value} : WP E c 29 49 [a0, a1, a2, a3, a4, a5] (st) ah Q = WP E c 29 50 [a0, a1, a2, a3, a4, a5] (.int (1) :: st) ah Q := wp_s i29_49 rfl rfl rfl rfl
theorem i29_50 : insAt 29 50 = some (.iadd, 51) := by decide +kernel
theorem r29_50 {E : aEnv} {c : Nat} {ah : aHp} {st : List Value} {Q : Option Value → aHp → Prop} {a0 a1 a2 a3 a4 a5 : Option Value} {x y : Int32} : WP E c 29 50 [a0, a1, a2, a3, a4, a5] (.int y :: .int x :: st) ah Q = WP E c 29 51 [a0, a1, a2, a3, a4, a5] (.int (x + y) :: st) ah Q := wp_s i29_50 rfl rfl rfl rfl
theorem i29_51 : insAt 29 51 = some (.iload 4, 53) := by decide +kernel
theorem r29_51 {E : aEnv} {c : Nat} {ah : aHp} {st : List Value} {Q : Option Value → aHp → Prop} {a0 a1 a2 a3 a5 : Option Value} {x : Int32} : WP E c 29 51 [a0, a1, a2, a3, some (.int x), a5] (st) ah Q = WP E c 29 53 [a0, a1, a2, a3, some (.int x), a5] (.int x :: st) ah Q := wp_s i29_51 rfl rfl rfl rfl
theorem i29_53 : insAt 29 53 = some (.if_icmp .ge 80, 56) := by decide +kernel
theorem r29_53 {E : aEnv} {c : Nat} {ah : aHp} {st : List Value} {Q : Option Value → aHp → Prop} {a0 a1 a2 a3 a4 a5 : Option Value} {x y : Int32} : WP E c 29 53 [a0, a1, a2, a3, a4, a5] (.int y :: .int x :: st) ah Q = if y ≤ x then WP E c 29 80 [a0, a1, a2, a3, a4, a5] st ah Q else WP E c 29 56 [a0, a1, a2, a3, a4, a5] st ah Q := wp_j i29_53 rfl rfl rfl rfl
theorem i29_56 : insAt 29 56 = some (.aload 0, 57) := by decide +kernel
theorem r29_56 {E : aEnv} {c : Nat} {ah : aHp} {st : List Value} {Q : Option Value → aHp → Prop} {a1 a2 a3 a4 a5 : Option Value} {x : Nat} : WP E c 29 56 [some (.ref x), a1, a2, a3, a4, a5] (st) ah Q = WP E c 29 57 [some (.ref x), a1, a2, a3, a4, a5] (.ref x :: st) ah Q := wp_s i29_56 rfl rfl rfl rfl
theorem r29_56n {E : aEnv} {c : Nat} {ah : aHp} {st : List Value} {Q : Option Value → aHp → Prop} {a1 a2 a3 a4 a5 : Option Value} : WP E c 29 56 [some .null, a1, a2, a3, a4, a5] (st) ah Q = WP E c 29 57 [some .null, a1, a2, a3, a4, a5] (.null :: st) ah Q := wp_s i29_56 rfl rfl rfl rfl
theorem i29_57 : insAt 29 57 = some (.iload 5, 59) := by decide +kernel
theorem r29_57 {E : aEnv} {c : Nat} {ah : aHp} {st : List Value} {Q : Option Value → aHp → Prop} {a0 a1 a2 a3 a4 : Option Value} {x : Int32} : WP E c 29 57 [a0, a1, a2, a3, a4, some (.int x)] (st) ah Q = WP E c 29 59 [a0, a1, a2, a3, a4, some (.int x)] (.int x :: st) ah Q := wp_s i29_57 rfl rfl rfl rfl
theorem i29_59 : insAt 29 59 = some (.aload 0, 60) := by decide +kernel
theorem r29_59 {E : aEnv} {c : Nat} {ah : aHp} {st : List Value} {Q : Option Value → aHp → Prop} {a1 a2 a3 a4 a5 : Option Value} {x : Nat} : WP E c 29 59 [some (.ref x), a1, a2, a3, a4, a5] (st) ah Q = WP E c 29 60 [some (.ref x), a1, a2, a3, a4, a5] (.ref x :: st) ah Q := wp_s i29_59 rfl rfl rfl rfl
theorem r29_59n {E : aEnv} {c : Nat} {ah : aHp} {st : List Value} {Q : Option Value → aHp → Prop} {a1 a2 a3 a4 a5 : Option Value} : WP E c 29 59 [some .null, a1, a2, a3, a4, a5] (st) ah Q = WP E c 29 60 [some .null, a1, a2, a3, a4, a5] (.null :: st) ah Q := wp_s i29_59 rfl rfl rfl rfl
theorem i29_60 : insAt 29 60 = some (.iload 5, 62) := by decide +kernel
theorem r29_60 {E : aEnv} {c : Nat} {ah : aHp} {st : List Value} {Q : Option Value → aHp → Prop} {a0 a1 a2 a3 a4 : Option Value} {x : Int32} : WP E c 29 60 [a0, a1, a2, a3, a4, some (.int x)] (st) ah Q = WP E c 29 62 [a0, a1, a2, a3, a4, some (.int x)] (.int x :: st) ah Q := wp_s i29_60 rfl rfl rfl rfl
theorem i29_62 : insAt 29 62 = some (.laload, 63) := by decide +kernel
theorem r29_62 {E : aEnv} {c : Nat} {ah : aHp} {st : List Value} {Q : Option Value → aHp → Prop} {a0 a1 a2 a3 a4 a5 : Option Value} {i : Int32} {a : Nat} : WP E c 29 62 [a0, a1, a2, a3, a4, a5] (.int i :: .ref a :: st) ah Q = WPo (gL E ah (.int i :: .ref a :: st)) (fun s9 => WP E c 29 63 [a0, a1, a2, a3, a4, a5] s9 ah Q) := wp_hr i29_62 rfl rfl rfl rfl rfl rfl rfl rfl
theorem i29_63 : insAt 29 63 = some (.aload 0, 64) := by decide +kernel
theorem r29_63 {E : aEnv} {c : Nat} {ah : aHp} {st : List Value} {Q : Option Value → aHp → Prop} {a1 a2 a3 a4 a5 : Option Value} {x : Nat} : WP E c 29 63 [some (.ref x), a1, a2, a3, a4, a5] (st) ah Q = WP E c 29 64 [some (.ref x), a1, a2, a3, a4, a5] (.ref x :: st) ah Q := wp_s i29_63 rfl rfl rfl rfl
theorem r29_63n {E : aEnv} {c : Nat} {ah : aHp} {st : List Value} {Q : Option Value → aHp → Prop} {a1 a2 a3 a4 a5 : Option Value} : WP E c 29 63 [some .null, a1, a2, a3, a4, a5] (st) ah Q = WP E c 29 64 [some .null, a1, a2, a3, a4, a5] (.null :: st) ah Q := wp_s i29_63 rfl rfl rfl rfl
theorem i29_64 : insAt 29 64 = some (.iload 5, 66) := by decide +kernel
theorem r29_64 {E : aEnv} {c : Nat} {ah : aHp} {st : List Value} {Q : Option Value → aHp → Prop} {a0 a1 a2 a3 a4 : Option Value} {x : Int32} : WP E c 29 64 [a0, a1, a2, a3, a4, some (.int x)] (st) ah Q = WP E c 29 66 [a0, a1, a2, a3, a4, some (.int x)] (.int x :: st) ah Q := wp_s i29_64 rfl rfl rfl rfl
theorem i29_66 : insAt 29 66 = some (.iconst 1, 67) := by decide +kernel
theorem r29_66 {E : aEnv} {c : Nat} {ah : aHp} {st : List Value} {Q : Option Value → aHp → Prop} {a0 a1 a2 a3 a4 a5 : Option Value} : WP E c 29 66 [a0, a1, a2, a3, a4, a5] (st) ah Q = WP E c 29 67 [a0, a1, a2, a3, a4, a5] (.int (1) :: st) ah Q := wp_s i29_66 rfl rfl rfl rfl
theorem i29_67 : insAt 29 67 = some (.iadd, 68) := by decide +kernel
theorem r29_67 {E : aEnv} {c : Nat} {ah : aHp} {st : List Value} {Q : Option Value → aHp → Prop} {a0 a1 a2 a3 a4 a5 : Option Value} {x y : Int32} : WP E c 29 67 [a0, a1, a2, a3, a4, a5] (.int y :: .int x :: st) ah Q = WP E c 29 68 [a0, a1, a2, a3, a4, a5] (.int (x + y) :: st) ah Q := wp_s i29_67 rfl rfl rfl rfl
theorem i29_68 : insAt 29 68 = some (.laload, 69) := by decide +kernel
theorem r29_68 {E : aEnv} {c : Nat} {ah : aHp} {st : List Value} {Q : Option Value → aHp → Prop} {a0 a1 a2 a3 a4 a5 : Option Value} {i : Int32} {a : Nat} : WP E c 29 68 [a0, a1, a2, a3, a4, a5] (.int i :: .ref a :: st) ah Q = WPo (gL E ah (.int i :: .ref a :: st)) (fun s9 => WP E c 29 69 [a0, a1, a2, a3, a4, a5] s9 ah Q) := wp_hr i29_68 rfl rfl rfl rfl rfl rfl rfl rfl
theorem i29_69 : insAt 29 69 = some (.lload 2, 70) := by decide +kernel
theorem r29_69 {E : aEnv} {c : Nat} {ah : aHp} {st : List Value} {Q : Option Value → aHp → Prop} {a0 a1 a3 a4 a5 : Option Value} {x : Int64} : WP E c 29 69 [a0, a1, some (.long x), a3, a4, a5] (st) ah Q = WP E c 29 70 [a0, a1, some (.long x), a3, a4, a5] (.long x :: st) ah Q := wp_s i29_69 rfl rfl rfl rfl
theorem i29_70 : insAt 29 70 = some (.invokestatic 30, 73) := by decide +kernel
theorem r29_70 {E : aEnv} {c : Nat} {ah ah1 : aHp} {r : Option Value} {st : List Value} {Q : Option Value → aHp → Prop} {a0 a1 a2 a3 a4 a5 : Option Value} {p0 : Int64} {p1 : Int64} {p2 : Int64} (h : EV E c 30 [.long p0, .long p1, .long p2] ah r ah1) (h3 : wds st ≤ 8) : WP E (c + 1) 29 70 [a0, a1, a2, a3, a4, a5] (.long p2 :: .long p1 :: .long p0 :: st) ah Q = WP E (c + 1) 29 73 [a0, a1, a2, a3, a4, a5] (r.toList ++ st) ah1 Q := wp_call (As := [.long p0, .long p1, .long p2]) i29_70 (fun _ => rfl) rfl mr30.1 rfl h3 (by rw [mr30.2.1]; exact Nat.le_of_ble_eq_true rfl) h
theorem i29_73 : insAt 29 73 = some (.lastore, 74) := by decide +kernel
theorem r29_73 {E : aEnv} {c : Nat} {ah : aHp} {st : List Value} {Q : Option Value → aHp → Prop} {a0 a1 a2 a3 a4 a5 : Option Value} {x : Int64} {i : Int32} {a : Nat} : WP E c 29 73 [a0, a1, a2, a3, a4, a5] (.long x :: .int i :: .ref a :: st) ah Q = WPo (pL E ah (.long x :: .int i :: .ref a :: st)) (fun q9 => WP E c 29 74 [a0, a1, a2, a3, a4, a5] q9.1 q9.2 Q) := wp_hw i29_73 rfl rfl rfl rfl rfl rfl rfl rfl
theorem i29_74 : insAt 29 74 = some (.iinc 5 2, 77) := by decide +kernel
theorem r29_74 {E : aEnv} {c : Nat} {ah : aHp} {st : List Value} {Q : Option Value → aHp → Prop} {a0 a1 a2 a3 a4 : Option Value} {x : Int32} : WP E c 29 74 [a0, a1, a2, a3, a4, some (.int x)] (st) ah Q = WP E c 29 77 [a0, a1, a2, a3, kil a4, some (.int (x + 2))] (st) ah Q := wp_s i29_74 rfl rfl rfl rfl
theorem i29_77 : insAt 29 77 = some (.goto 47, 80) := by decide +kernel
theorem r29_77 {E : aEnv} {c : Nat} {ah : aHp} {st : List Value} {Q : Option Value → aHp → Prop} {a0 a1 a2 a3 a4 a5 : Option Value} : WP E c 29 77 [a0, a1, a2, a3, a4, a5] (st) ah Q = WP E c 29 47 [a0, a1, a2, a3, a4, a5] st ah Q := wp_s i29_77 rfl rfl rfl rfl
theorem i29_80 : insAt 29 80 = some (.return_, 81) := by decide +kernel
theorem r29_80 {E : aEnv} {c : Nat} {ah : aHp} {Q : Option Value → aHp → Prop} {a0 a1 a2 a3 a4 a5 : Option Value} : WP E c 29 80 [a0, a1, a2, a3, a4, a5] ([]) ah Q = Q none ah := wp_rt i29_80 rfl
theorem e30 {E : aEnv} {c : Nat} {ah ahF : aHp} {r : Option Value} {p0 : Int64} {p1 : Int64} {p2 : Int64} (h : WP E c 30 0 [some (.long p0), none, some (.long p1), none, some (.long p2), none] [] ah (fun r1 x1 => r1 = r ∧ x1 = ahF)) : EV E c 30 [.long p0, .long p1, .long p2] ah r ahF := EV.of (by rw [mr30.2.1]; exact h)
theorem i30_0 : insAt 30 0 = some (.lload 4, 2) := by decide +kernel
theorem r30_0 {E : aEnv} {c : Nat} {ah : aHp} {st : List Value} {Q : Option Value → aHp → Prop} {a0 a1 a2 a3 a5 : Option Value} {x : Int64} : WP E c 30 0 [a0, a1, a2, a3, some (.long x), a5] (st) ah Q = WP E c 30 2 [a0, a1, a2, a3, some (.long x), a5] (.long x :: st) ah Q := wp_s i30_0 rfl rfl rfl rfl
theorem i30_2 : insAt 30 2 = some (.jsr_w 0, 3) := by decide +kernel
theorem r30_2 {E : aEnv} {c : Nat} {ah : aHp} {st : List Value} {Q : Option Value → aHp → Prop} {a0 a1 a2 a3 a4 a5 : Option Value} : WP E c 30 2 [a0, a1, a2, a3, a4, a5] (st) ah Q = WP E c 30 3 [a0, a1, a2, a3, a4, a5] (.long (0) :: st) ah Q := wp_s i30_2 rfl rfl rfl rfl
theorem i30_3 : insAt 30 3 = some (.lcmp, 4) := by decide +kernel
theorem r30_3 {E : aEnv} {c : Nat} {ah : aHp} {st : List Value} {Q : Option Value → aHp → Prop} {a0 a1 a2 a3 a4 a5 : Option Value} {x y : Int64} : WP E c 30 3 [a0, a1, a2, a3, a4, a5] (.long y :: .long x :: st) ah Q = WP E c 30 4 [a0, a1, a2, a3, a4, a5] (.int (lg_cmp x y) :: st) ah Q := wp_s i30_3 rfl rfl rfl rfl
theorem i30_4 : insAt 30 4 = some (.ifCond .le 25, 7) := by decide +kernel
theorem r30_4 {E : aEnv} {c : Nat} {ah : aHp} {st : List Value} {Q : Option Value → aHp → Prop} {a0 a1 a2 a3 a4 a5 : Option Value} {x : Int32} : WP E c 30 4 [a0, a1, a2, a3, a4, a5] (.int x :: st) ah Q = if x ≤ 0 then WP E c 30 25 [a0, a1, a2, a3, a4, a5] st ah Q else WP E c 30 7 [a0, a1, a2, a3, a4, a5] st ah Q := wp_j i30_4 rfl rfl rfl rfl
theorem i30_7 : insAt 30 7 = some (.lload 0, 8) := by decide +kernel
theorem r30_7 {E : aEnv} {c : Nat} {ah : aHp} {st : List Value} {Q : Option Value → aHp → Prop} {a1 a2 a3 a4 a5 : Option Value} {x : Int64} : WP E c 30 7 [some (.long x), a1, a2, a3, a4, a5] (st) ah Q = WP E c 30 8 [some (.long x), a1, a2, a3, a4, a5] (.long x :: st) ah Q := wp_s i30_7 rfl rfl rfl rfl
theorem i30_8 : insAt 30 8 = some (.lload 2, 9) := by decide +kernel
theorem r30_8 {E : aEnv} {c : Nat} {ah : aHp} {st : List Value} {Q : Option Value → aHp → Prop} {a0 a1 a3 a4 a5 : Option Value} {x : Int64} : WP E c 30 8 [a0, a1, some (.long x), a3, a4, a5] (st) ah Q = WP E c 30 9 [a0, a1, some (.long x), a3, a4, a5] (.long x :: st) ah Q := wp_s i30_8 rfl rfl rfl rfl
theorem i30_9 : insAt 30 9 = some (.ladd, 10) := by decide +kernel
theorem r30_9 {E : aEnv} {c : Nat} {ah : aHp} {st : List Value} {Q : Option Value → aHp → Prop} {a0 a1 a2 a3 a4 a5 : Option Value} {x y : Int64} : WP E c 30 9 [a0, a1, a2, a3, a4, a5] (.long y :: .long x :: st) ah Q = WP E c 30 10 [a0, a1, a2, a3, a4, a5] (.long (x + y) :: st) ah Q := wp_s i30_9 rfl rfl rfl rfl
theorem i30_10 : insAt 30 10 = some (.lload 4, 12) := by decide +kernel
theorem r30_10 {E : aEnv} {c : Nat} {ah : aHp} {st : List Value} {Q : Option Value → aHp → Prop} {a0 a1 a2 a3 a5 : Option Value} {x : Int64} : WP E c 30 10 [a0, a1, a2, a3, some (.long x), a5] (st) ah Q = WP E c 30 12 [a0, a1, a2, a3, some (.long x), a5] (.long x :: st) ah Q := wp_s i30_10 rfl rfl rfl rfl
theorem i30_12 : insAt 30 12 = some (.lcmp, 13) := by decide +kernel
theorem r30_12 {E : aEnv} {c : Nat} {ah : aHp} {st : List Value} {Q : Option Value → aHp → Prop} {a0 a1 a2 a3 a4 a5 : Option Value} {x y : Int64} : WP E c 30 12 [a0, a1, a2, a3, a4, a5] (.long y :: .long x :: st) ah Q = WP E c 30 13 [a0, a1, a2, a3, a4, a5] (.int (lg_cmp x y) :: st) ah Q := wp_s i30_12 rfl rfl rfl rfl
theorem i30_13 : insAt 30 13 = some (.ifCond .lt 25, 16) := by decide +kernel
theorem r30_13 {E : aEnv} {c : Nat} {ah : aHp} {st : List Value} {Q : Option Value → aHp → Prop} {a0 a1 a2 a3 a4 a5 : Option Value} {x : Int32} : WP E c 30 13 [a0, a1, a2, a3, a4, a5] (.int x :: st) ah Q = if x < 0 then WP E c 30 25 [a0, a1, a2, a3, a4, a5] st ah Q else WP E c 30 16 [a0, a1, a2, a3, a4, a5] st ah Q := wp_j i30_13 rfl rfl rfl rfl
theorem i30_16 : insAt 30 16 = some (.lload 0, 17) := by decide +kernel
theorem r30_16 {E : aEnv} {c : Nat} {ah : aHp} {st : List Value} {Q : Option Value → aHp → Prop} {a1 a2 a3 a4 a5 : Option Value} {x : Int64} : WP E c 30 16 [some (.long x), a1, a2, a3, a4, a5] (st) ah Q = WP E c 30 17 [some (.long x), a1, a2, a3, a4, a5] (.long x :: st) ah Q := wp_s i30_16 rfl rfl rfl rfl
theorem i30_17 : insAt 30 17 = some (.lload 2, 18) := by decide +kernel
theorem r30_17 {E : aEnv} {c : Nat} {ah : aHp} {st : List Value} {Q : Option Value → aHp → Prop} {a0 a1 a3 a4 a5 : Option Value} {x : Int64} : WP E c 30 17 [a0, a1, some (.long x), a3, a4, a5] (st) ah Q = WP E c 30 18 [a0, a1, some (.long x), a3, a4, a5] (.long x :: st) ah Q := wp_s i30_17 rfl rfl rfl rfl
theorem i30_18 : insAt 30 18 = some (.ladd, 19) := by decide +kernel
theorem r30_18 {E : aEnv} {c : Nat} {ah : aHp} {st : List Value} {Q : Option Value → aHp → Prop} {a0 a1 a2 a3 a4 a5 : Option Value} {x y : Int64} : WP E c 30 18 [a0, a1, a2, a3, a4, a5] (.long y :: .long x :: st) ah Q = WP E c 30 19 [a0, a1, a2, a3, a4, a5] (.long (x + y) :: st) ah Q := wp_s i30_18 rfl rfl rfl rfl
theorem i30_19 : insAt 30 19 = some (.lload 4, 21) := by decide +kernel
theorem r30_19 {E : aEnv} {c : Nat} {ah : aHp} {st : List Value} {Q : Option Value → aHp → Prop} {a0 a1 a2 a3 a5 : Option Value} {x : Int64} : WP E c 30 19 [a0, a1, a2, a3, some (.long x), a5] (st) ah Q = WP E c 30 21 [a0, a1, a2, a3, some (.long x), a5] (.long x :: st) ah Q := wp_s i30_19 rfl rfl rfl rfl
theorem i30_21 : insAt 30 21 = some (.lsub, 22) := by decide +kernel
theorem r30_21 {E : aEnv} {c : Nat} {ah : aHp} {st : List Value} {Q : Option Value → aHp → Prop} {a0 a1 a2 a3 a4 a5 : Option Value} {x y : Int64} : WP E c 30 21 [a0, a1, a2, a3, a4, a5] (.long y :: .long x :: st) ah Q = WP E c 30 22 [a0, a1, a2, a3, a4, a5] (.long (x - y) :: st) ah Q := wp_s i30_21 rfl rfl rfl rfl
theorem i30_22 : insAt 30 22 = some (.goto 28, 25) := by decide +kernel
theorem r30_22 {E : aEnv} {c : Nat} {ah : aHp} {st : List Value} {Q : Option Value → aHp → Prop} {a0 a1 a2 a3 a4 a5 : Option Value} : WP E c 30 22 [a0, a1, a2, a3, a4, a5] (st) ah Q = WP E c 30 28 [a0, a1, a2, a3, a4, a5] st ah Q := wp_s i30_22 rfl rfl rfl rfl
theorem i30_25 : insAt 30 25 = some (.lload 0, 26) := by decide +kernel
theorem r30_25 {E : aEnv} {c : Nat} {ah : aHp} {st : List Value} {Q : Option Value → aHp → Prop} {a1 a2 a3 a4 a5 : Option Value} {x : Int64} : WP E c 30 25 [some (.long x), a1, a2, a3, a4, a5] (st) ah Q = WP E c 30 26 [some (.long x), a1, a2, a3, a4, a5] (.long x :: st) ah Q := wp_s i30_25 rfl rfl rfl rfl
theorem i30_26 : insAt 30 26 = some (.lload 2, 27) := by decide +kernel
theorem r30_26 {E : aEnv} {c : Nat} {ah : aHp} {st : List Value} {Q : Option Value → aHp → Prop} {a0 a1 a3 a4 a5 : Option Value} {x : Int64} : WP E c 30 26 [a0, a1, some (.long x), a3, a4, a5] (st) ah Q = WP E c 30 27 [a0, a1, some (.long x), a3, a4, a5] (.long x :: st) ah Q := wp_s i30_26 rfl rfl rfl rfl
theorem i30_27 : insAt 30 27 = some (.ladd, 28) := by decide +kernel
theorem r30_27 {E : aEnv} {c : Nat} {ah : aHp} {st : List Value} {Q : Option Value → aHp → Prop} {a0 a1 a2 a3 a4 a5 : Option Value} {x y : Int64} : WP E c 30 27 [a0, a1, a2, a3, a4, a5] (.long y :: .long x :: st) ah Q = WP E c 30 28 [a0, a1, a2, a3, a4, a5] (.long (x + y) :: st) ah Q := wp_s i30_27 rfl rfl rfl rfl
theorem i30_28 : insAt 30 28 = some (.lreturn, 29) := by decide +kernel
theorem r30_28 {E : aEnv} {c : Nat} {ah : aHp} {Q : Option Value → aHp → Prop} {a0 a1 a2 a3 a4 a5 : Option Value} {x : Int64} : WP E c 30 28 [a0, a1, a2, a3, a4, a5] ([.long x]) ah Q = Q (some (.long x)) ah := wp_rt i30_28 rfl
theorem e31 {E : aEnv} {c : Nat} {ah ahF : aHp} {r : Option Value} {p0 : Int64} {p1 : Int64} (h : WP E c 31 0 [some (.long p0), none, some (.long p1), none] [] ah (fun r1 x1 => r1 = r ∧ x1 = ahF)) : EV E c 31 [.long p0, .long p1] ah r ahF := EV.of (by rw [mr31.2.1]; exact h)
theorem i31_0 : insAt 31 0 = some (.lload 2, 1) := by decide +kernel
theorem r31_0 {E : aEnv} {c : Nat} {ah : aHp} {st : List Value} {Q : Option Value → aHp → Prop} {a0 a1 a3 : Option Value} {x : Int64} : WP E c 31 0 [a0, a1, some (.long x), a3] (st) ah Q = WP E c 31 1 [a0, a1, some (.long x), a3] (.long x :: st) ah Q := wp_s i31_0 rfl rfl rfl rfl
theorem i31_1 : insAt 31 1 = some (.jsr_w 0, 2) := by decide +kernel
theorem r31_1 {E : aEnv} {c : Nat} {ah : aHp} {st : List Value} {Q : Option Value → aHp → Prop} {a0 a1 a2 a3 : Option Value} : WP E c 31 1 [a0, a1, a2, a3] (st) ah Q = WP E c 31 2 [a0, a1, a2, a3] (.long (0) :: st) ah Q := wp_s i31_1 rfl rfl rfl rfl
theorem i31_2 : insAt 31 2 = some (.lcmp, 3) := by decide +kernel
theorem r31_2 {E : aEnv} {c : Nat} {ah : aHp} {st : List Value} {Q : Option Value → aHp → Prop} {a0 a1 a2 a3 : Option Value} {x y : Int64} : WP E c 31 2 [a0, a1, a2, a3] (.long y :: .long x :: st) ah Q = WP E c 31 3 [a0, a1, a2, a3] (.int (lg_cmp x y) :: st) ah Q := wp_s i31_2 rfl rfl rfl rfl
theorem i31_3 : insAt 31 3 = some (.ifCond .le 24, 6) := by decide +kernel
theorem r31_3 {E : aEnv} {c : Nat} {ah : aHp} {st : List Value} {Q : Option Value → aHp → Prop} {a0 a1 a2 a3 : Option Value} {x : Int32} : WP E c 31 3 [a0, a1, a2, a3] (.int x :: st) ah Q = if x ≤ 0 then WP E c 31 24 [a0, a1, a2, a3] st ah Q else WP E c 31 6 [a0, a1, a2, a3] st ah Q := wp_j i31_3 rfl rfl rfl rfl
theorem i31_6 : insAt 31 6 = some (.jsr_w 2, 9) := by decide +kernel
theorem r31_6 {E : aEnv} {c : Nat} {ah : aHp} {st : List Value} {Q : Option Value → aHp → Prop} {a0 a1 a2 a3 : Option Value} : WP E c 31 6 [a0, a1, a2, a3] (st) ah Q = WP E c 31 9 [a0, a1, a2, a3] (.long (2) :: st) ah Q := wp_s i31_6 rfl rfl rfl rfl
theorem i31_9 : insAt 31 9 = some (.lload 0, 10) := by decide +kernel
theorem r31_9 {E : aEnv} {c : Nat} {ah : aHp} {st : List Value} {Q : Option Value → aHp → Prop} {a1 a2 a3 : Option Value} {x : Int64} : WP E c 31 9 [some (.long x), a1, a2, a3] (st) ah Q = WP E c 31 10 [some (.long x), a1, a2, a3] (.long x :: st) ah Q := wp_s i31_9 rfl rfl rfl rfl
theorem i31_10 : insAt 31 10 = some (.lmul, 11) := by decide +kernel
theorem r31_10 {E : aEnv} {c : Nat} {ah : aHp} {st : List Value} {Q : Option Value → aHp → Prop} {a0 a1 a2 a3 : Option Value} {x y : Int64} : WP E c 31 10 [a0, a1, a2, a3] (.long y :: .long x :: st) ah Q = WP E c 31 11 [a0, a1, a2, a3] (.long (x * y) :: st) ah Q := wp_s i31_10 rfl rfl rfl rfl
theorem i31_11 : insAt 31 11 = some (.lload 2, 12) := by decide +kernel
theorem r31_11 {E : aEnv} {c : Nat} {ah : aHp} {st : List Value} {Q : Option Value → aHp → Prop} {a0 a1 a3 : Option Value} {x : Int64} : WP E c 31 11 [a0, a1, some (.long x), a3] (st) ah Q = WP E c 31 12 [a0, a1, some (.long x), a3] (.long x :: st) ah Q := wp_s i31_11 rfl rfl rfl rfl
theorem i31_12 : insAt 31 12 = some (.ladd, 13) := by decide +kernel
theorem r31_12 {E : aEnv} {c : Nat} {ah : aHp} {st : List Value} {Q : Option Value → aHp → Prop} {a0 a1 a2 a3 : Option Value} {x y : Int64} : WP E c 31 12 [a0, a1, a2, a3] (.long y :: .long x :: st) ah Q = WP E c 31 13 [a0, a1, a2, a3] (.long (x + y) :: st) ah Q := wp_s i31_12 rfl rfl rfl rfl
theorem i31_13 : insAt 31 13 = some (.jsr_w 2, 16) := by decide +kernel
theorem r31_13 {E : aEnv} {c : Nat} {ah : aHp} {st : List Value} {Q : Option Value → aHp → Prop} {a0 a1 a2 a3 : Option Value} : WP E c 31 13 [a0, a1, a2, a3] (st) ah Q = WP E c 31 16 [a0, a1, a2, a3] (.long (2) :: st) ah Q := wp_s i31_13 rfl rfl rfl rfl
theorem i31_16 : insAt 31 16 = some (.lload 2, 17) := by decide +kernel
theorem r31_16 {E : aEnv} {c : Nat} {ah : aHp} {st : List Value} {Q : Option Value → aHp → Prop} {a0 a1 a3 : Option Value} {x : Int64} : WP E c 31 16 [a0, a1, some (.long x), a3] (st) ah Q = WP E c 31 17 [a0, a1, some (.long x), a3] (.long x :: st) ah Q := wp_s i31_16 rfl rfl rfl rfl
theorem i31_17 : insAt 31 17 = some (.lmul, 18) := by decide +kernel
theorem r31_17 {E : aEnv} {c : Nat} {ah : aHp} {st : List Value} {Q : Option Value → aHp → Prop} {a0 a1 a2 a3 : Option Value} {x y : Int64} : WP E c 31 17 [a0, a1, a2, a3] (.long y :: .long x :: st) ah Q = WP E c 31 18 [a0, a1, a2, a3] (.long (x * y) :: st) ah Q := wp_s i31_17 rfl rfl rfl rfl
theorem i31_18 : insAt 31 18 = some (.invokestatic 289, 21) := by decide +kernel
theorem r31_18 {E : aEnv} {c : Nat} {ah ah1 : aHp} {r : Option Value} {st : List Value} {Q : Option Value → aHp → Prop} {a0 a1 a2 a3 : Option Value} {p0 : Int64} {p1 : Int64} (h : EV E c 289 [.long p0, .long p1] ah r ah1) (h3 : wds st ≤ 8) : WP E (c + 1) 31 18 [a0, a1, a2, a3] (.long p1 :: .long p0 :: st) ah Q = WP E (c + 1) 31 21 [a0, a1, a2, a3] (r.toList ++ st) ah1 Q := wp_call (As := [.long p0, .long p1]) i31_18 (fun _ => rfl) rfl mr289.1 rfl h3 (by rw [mr289.2.1]; exact Nat.le_of_ble_eq_true rfl) h
theorem i31_21 : insAt 31 21 = some (.goto 25, 24) := by decide +kernel
theorem r31_21 {E : aEnv} {c : Nat} {ah : aHp} {st : List Value} {Q : Option Value → aHp → Prop} {a0 a1 a2 a3 : Option Value} : WP E c 31 21 [a0, a1, a2, a3] (st) ah Q = WP E c 31 25 [a0, a1, a2, a3] st ah Q := wp_s i31_21 rfl rfl rfl rfl
theorem i31_24 : insAt 31 24 = some (.lload 0, 25) := by decide +kernel
theorem r31_24 {E : aEnv} {c : Nat} {ah : aHp} {st : List Value} {Q : Option Value → aHp → Prop} {a1 a2 a3 : Option Value} {x : Int64} : WP E c 31 24 [some (.long x), a1, a2, a3] (st) ah Q = WP E c 31 25 [some (.long x), a1, a2, a3] (.long x :: st) ah Q := wp_s i31_24 rfl rfl rfl rfl
theorem i31_25 : insAt 31 25 = some (.lreturn, 26) := by decide +kernel
theorem r31_25 {E : aEnv} {c : Nat} {ah : aHp} {Q : Option Value → aHp → Prop} {a0 a1 a2 a3 : Option Value} {x : Int64} : WP E c 31 25 [a0, a1, a2, a3] ([.long x]) ah Q = Q (some (.long x)) ah := wp_rt i31_25 rfl
