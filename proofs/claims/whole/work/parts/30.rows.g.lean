/-! rows of the code, by program (genrows.py) -/
theorem e229 {E : aEnv} {c : Nat} {ah ahF : aHp} {r : Option Value} {p0 : Nat} {p1 : Int32} {p2 : Int32} {p3 : Int32} (h : WP E c 229 0 [some (.ref p0), some (.int p1), some (.int p2), some (.int p3), none, none] [] ah (fun r1 x1 => r1 = r ∧ x1 = ahF)) : EV E c 229 [.ref p0, .int p1, .int p2, .int p3] ah r ahF := EV.of (by rw [mr229.2.1]; exact h)
theorem i229_0 : insAt 229 0 = some (.aload 0, 1) := by decide +kernel
theorem r229_0 {E : aEnv} {c : Nat} {ah : aHp} {st : List Value} {Q : Option Value → aHp → Prop} {a1 a2 a3 a4 a5 : Option Value} {x : Nat} : WP E c 229 0 [some (.ref x), a1, a2, a3, a4, a5] (st) ah Q = WP E c 229 1 [some (.ref x), a1, a2, a3, a4, a5] (.ref x :: st) ah Q := wp_s i229_0 rfl rfl rfl rfl
theorem i229_1 : insAt 229 1 = some (.iconst 0, 2) := by decide +kernel
theorem r229_1 {E : aEnv} {c : Nat} {ah : aHp} {st : List Value} {Q : Option Value → aHp → Prop} {a0 a1 a2 a3 a4 a5 : Option Value} : WP E c 229 1 [a0, a1, a2, a3, a4, a5] (st) ah Q = WP E c 229 2 [a0, a1, a2, a3, a4, a5] (.int (0) :: st) ah Q := wp_s i229_1 rfl rfl rfl rfl
theorem i229_2 : insAt 229 2 = some (.putfield 11010, 5) := by decide +kernel
theorem r229_2 {E : aEnv} {c : Nat} {ah : aHp} {st : List Value} {Q : Option Value → aHp → Prop} {a0 a1 a2 a3 a4 a5 : Option Value} {a : Nat} {v : Value} : WP E c 229 2 [a0, a1, a2, a3, a4, a5] (v :: .ref a :: st) ah Q = WPo (oPF (hg E ah a) 11010 v) (fun e => WP E c 229 5 [a0, a1, a2, a3, a4, a5] st (hs E ah a e) Q) := wp_putf i229_2
theorem i229_5 : insAt 229 5 = some (.aload 0, 6) := by decide +kernel
theorem r229_5 {E : aEnv} {c : Nat} {ah : aHp} {st : List Value} {Q : Option Value → aHp → Prop} {a1 a2 a3 a4 a5 : Option Value} {x : Nat} : WP E c 229 5 [some (.ref x), a1, a2, a3, a4, a5] (st) ah Q = WP E c 229 6 [some (.ref x), a1, a2, a3, a4, a5] (.ref x :: st) ah Q := wp_s i229_5 rfl rfl rfl rfl
theorem i229_6 : insAt 229 6 = some (.aload 0, 7) := by decide +kernel
theorem r229_6 {E : aEnv} {c : Nat} {ah : aHp} {st : List Value} {Q : Option Value → aHp → Prop} {a1 a2 a3 a4 a5 : Option Value} {x : Nat} : WP E c 229 6 [some (.ref x), a1, a2, a3, a4, a5] (st) ah Q = WP E c 229 7 [some (.ref x), a1, a2, a3, a4, a5] (.ref x :: st) ah Q := wp_s i229_6 rfl rfl rfl rfl
theorem i229_7 : insAt 229 7 = some (.iload 1, 8) := by decide +kernel
theorem r229_7 {E : aEnv} {c : Nat} {ah : aHp} {st : List Value} {Q : Option Value → aHp → Prop} {a0 a2 a3 a4 a5 : Option Value} {x : Int32} : WP E c 229 7 [a0, some (.int x), a2, a3, a4, a5] (st) ah Q = WP E c 229 8 [a0, some (.int x), a2, a3, a4, a5] (.int x :: st) ah Q := wp_s i229_7 rfl rfl rfl rfl
theorem i229_8 : insAt 229 8 = some (.iload 2, 9) := by decide +kernel
theorem r229_8 {E : aEnv} {c : Nat} {ah : aHp} {st : List Value} {Q : Option Value → aHp → Prop} {a0 a1 a3 a4 a5 : Option Value} {x : Int32} : WP E c 229 8 [a0, a1, some (.int x), a3, a4, a5] (st) ah Q = WP E c 229 9 [a0, a1, some (.int x), a3, a4, a5] (.int x :: st) ah Q := wp_s i229_8 rfl rfl rfl rfl
theorem i229_9 : insAt 229 9 = some (.iload 3, 10) := by decide +kernel
theorem r229_9 {E : aEnv} {c : Nat} {ah : aHp} {st : List Value} {Q : Option Value → aHp → Prop} {a0 a1 a2 a4 a5 : Option Value} {x : Int32} : WP E c 229 9 [a0, a1, a2, some (.int x), a4, a5] (st) ah Q = WP E c 229 10 [a0, a1, a2, some (.int x), a4, a5] (.int x :: st) ah Q := wp_s i229_9 rfl rfl rfl rfl
theorem i229_10 : insAt 229 10 = some (.invokevirtual 226, 13) := by decide +kernel
theorem r229_10 {E : aEnv} {c : Nat} {ah ah1 : aHp} {r : Option Value} {st : List Value} {Q : Option Value → aHp → Prop} {a0 a1 a2 a3 a4 a5 : Option Value} {p0 : Nat} {p1 : Int32} {p2 : Int32} {p3 : Int32} (h : EV E c 226 [.ref p0, .int p1, .int p2, .int p3] ah r ah1) (h2 : oCI (hg E ah p0) = 11) (h3 : wds st ≤ 8) : WP E (c + 1) 229 10 [a0, a1, a2, a3, a4, a5] (.int p3 :: .int p2 :: .int p1 :: .ref p0 :: st) ah Q = WP E (c + 1) 229 13 [a0, a1, a2, a3, a4, a5] (r.toList ++ st) ah1 Q := wp_call (As := [.ref p0, .int p1, .int p2, .int p3]) i229_10 (fun _ => rfl) rfl mr226.1 (rcv_1 h2 mr226.2.2 (by decide)) h3 (by rw [mr226.2.1]; exact Nat.le_of_ble_eq_true rfl) h
theorem i229_13 : insAt 229 13 = some (.putfield 11000, 16) := by decide +kernel
theorem r229_13 {E : aEnv} {c : Nat} {ah : aHp} {st : List Value} {Q : Option Value → aHp → Prop} {a0 a1 a2 a3 a4 a5 : Option Value} {a : Nat} {v : Value} : WP E c 229 13 [a0, a1, a2, a3, a4, a5] (v :: .ref a :: st) ah Q = WPo (oPF (hg E ah a) 11000 v) (fun e => WP E c 229 16 [a0, a1, a2, a3, a4, a5] st (hs E ah a e) Q) := wp_putf i229_13
theorem i229_16 : insAt 229 16 = some (.aload 0, 17) := by decide +kernel
theorem r229_16 {E : aEnv} {c : Nat} {ah : aHp} {st : List Value} {Q : Option Value → aHp → Prop} {a1 a2 a3 a4 a5 : Option Value} {x : Nat} : WP E c 229 16 [some (.ref x), a1, a2, a3, a4, a5] (st) ah Q = WP E c 229 17 [some (.ref x), a1, a2, a3, a4, a5] (.ref x :: st) ah Q := wp_s i229_16 rfl rfl rfl rfl
theorem i229_17 : insAt 229 17 = some (.getfield 11000, 20) := by decide +kernel
theorem r229_17 {E : aEnv} {c : Nat} {ah : aHp} {st : List Value} {Q : Option Value → aHp → Prop} {a0 a1 a2 a3 a4 a5 : Option Value} {a : Nat} : WP E c 229 17 [a0, a1, a2, a3, a4, a5] (.ref a :: st) ah Q = WPo (oGF (hg E ah a) 11 0) (fun v => WP E c 229 20 [a0, a1, a2, a3, a4, a5] (v :: st) ah Q) := wp_getf i229_17
theorem i229_20 : insAt 229 20 = some (.ifCond .le 25, 23) := by decide +kernel
theorem r229_20 {E : aEnv} {c : Nat} {ah : aHp} {st : List Value} {Q : Option Value → aHp → Prop} {a0 a1 a2 a3 a4 a5 : Option Value} {x : Int32} : WP E c 229 20 [a0, a1, a2, a3, a4, a5] (.int x :: st) ah Q = if x ≤ 0 then WP E c 229 25 [a0, a1, a2, a3, a4, a5] st ah Q else WP E c 229 23 [a0, a1, a2, a3, a4, a5] st ah Q := wp_j i229_20 rfl rfl rfl rfl
theorem i229_23 : insAt 229 23 = some (.iconst (-1), 24) := by decide +kernel
theorem r229_23 {E : aEnv} {c : Nat} {ah : aHp} {st : List Value} {Q : Option Value → aHp → Prop} {a0 a1 a2 a3 a4 a5 : Option Value} : WP E c 229 23 [a0, a1, a2, a3, a4, a5] (st) ah Q = WP E c 229 24 [a0, a1, a2, a3, a4, a5] (.int ((-1)) :: st) ah Q := wp_s i229_23 rfl rfl rfl rfl
theorem i229_24 : insAt 229 24 = some (.ireturn, 25) := by decide +kernel
theorem r229_24 {E : aEnv} {c : Nat} {ah : aHp} {Q : Option Value → aHp → Prop} {a0 a1 a2 a3 a4 a5 : Option Value} {x : Int32} : WP E c 229 24 [a0, a1, a2, a3, a4, a5] ([.int x]) ah Q = Q (some (.int x)) ah := wp_rt i229_24 rfl
theorem i229_25 : insAt 229 25 = some (.aload 0, 26) := by decide +kernel
theorem r229_25 {E : aEnv} {c : Nat} {ah : aHp} {st : List Value} {Q : Option Value → aHp → Prop} {a1 a2 a3 a4 a5 : Option Value} {x : Nat} : WP E c 229 25 [some (.ref x), a1, a2, a3, a4, a5] (st) ah Q = WP E c 229 26 [some (.ref x), a1, a2, a3, a4, a5] (.ref x :: st) ah Q := wp_s i229_25 rfl rfl rfl rfl
theorem i229_26 : insAt 229 26 = some (.iconst (-1), 27) := by decide +kernel
theorem r229_26 {E : aEnv} {c : Nat} {ah : aHp} {st : List Value} {Q : Option Value → aHp → Prop} {a0 a1 a2 a3 a4 a5 : Option Value} : WP E c 229 26 [a0, a1, a2, a3, a4, a5] (st) ah Q = WP E c 229 27 [a0, a1, a2, a3, a4, a5] (.int ((-1)) :: st) ah Q := wp_s i229_26 rfl rfl rfl rfl
theorem i229_27 : insAt 229 27 = some (.putfield 11180, 30) := by decide +kernel
theorem r229_27 {E : aEnv} {c : Nat} {ah : aHp} {st : List Value} {Q : Option Value → aHp → Prop} {a0 a1 a2 a3 a4 a5 : Option Value} {a : Nat} {v : Value} : WP E c 229 27 [a0, a1, a2, a3, a4, a5] (v :: .ref a :: st) ah Q = WPo (oPF (hg E ah a) 11180 v) (fun e => WP E c 229 30 [a0, a1, a2, a3, a4, a5] st (hs E ah a e) Q) := wp_putf i229_27
theorem i229_30 : insAt 229 30 = some (.aload 0, 31) := by decide +kernel
theorem r229_30 {E : aEnv} {c : Nat} {ah : aHp} {st : List Value} {Q : Option Value → aHp → Prop} {a1 a2 a3 a4 a5 : Option Value} {x : Nat} : WP E c 229 30 [some (.ref x), a1, a2, a3, a4, a5] (st) ah Q = WP E c 229 31 [some (.ref x), a1, a2, a3, a4, a5] (.ref x :: st) ah Q := wp_s i229_30 rfl rfl rfl rfl
theorem i229_31 : insAt 229 31 = some (.iload 1, 32) := by decide +kernel
theorem r229_31 {E : aEnv} {c : Nat} {ah : aHp} {st : List Value} {Q : Option Value → aHp → Prop} {a0 a2 a3 a4 a5 : Option Value} {x : Int32} : WP E c 229 31 [a0, some (.int x), a2, a3, a4, a5] (st) ah Q = WP E c 229 32 [a0, some (.int x), a2, a3, a4, a5] (.int x :: st) ah Q := wp_s i229_31 rfl rfl rfl rfl
theorem i229_32 : insAt 229 32 = some (.iload 2, 33) := by decide +kernel
theorem r229_32 {E : aEnv} {c : Nat} {ah : aHp} {st : List Value} {Q : Option Value → aHp → Prop} {a0 a1 a3 a4 a5 : Option Value} {x : Int32} : WP E c 229 32 [a0, a1, some (.int x), a3, a4, a5] (st) ah Q = WP E c 229 33 [a0, a1, some (.int x), a3, a4, a5] (.int x :: st) ah Q := wp_s i229_32 rfl rfl rfl rfl
theorem i229_33 : insAt 229 33 = some (.iload 3, 34) := by decide +kernel
theorem r229_33 {E : aEnv} {c : Nat} {ah : aHp} {st : List Value} {Q : Option Value → aHp → Prop} {a0 a1 a2 a4 a5 : Option Value} {x : Int32} : WP E c 229 33 [a0, a1, a2, some (.int x), a4, a5] (st) ah Q = WP E c 229 34 [a0, a1, a2, some (.int x), a4, a5] (.int x :: st) ah Q := wp_s i229_33 rfl rfl rfl rfl
theorem i229_34 : insAt 229 34 = some (.invokevirtual 228, 37) := by decide +kernel
theorem r229_34 {E : aEnv} {c : Nat} {ah ah1 : aHp} {r : Option Value} {st : List Value} {Q : Option Value → aHp → Prop} {a0 a1 a2 a3 a4 a5 : Option Value} {p0 : Nat} {p1 : Int32} {p2 : Int32} {p3 : Int32} (h : EV E c 228 [.ref p0, .int p1, .int p2, .int p3] ah r ah1) (h2 : oCI (hg E ah p0) = 11) (h3 : wds st ≤ 8) : WP E (c + 1) 229 34 [a0, a1, a2, a3, a4, a5] (.int p3 :: .int p2 :: .int p1 :: .ref p0 :: st) ah Q = WP E (c + 1) 229 37 [a0, a1, a2, a3, a4, a5] (r.toList ++ st) ah1 Q := wp_call (As := [.ref p0, .int p1, .int p2, .int p3]) i229_34 (fun _ => rfl) rfl mr228.1 (rcv_1 h2 mr228.2.2 (by decide)) h3 (by rw [mr228.2.1]; exact Nat.le_of_ble_eq_true rfl) h
theorem i229_37 : insAt 229 37 = some (.ifCond .eq 47, 40) := by decide +kernel
theorem r229_37 {E : aEnv} {c : Nat} {ah : aHp} {st : List Value} {Q : Option Value → aHp → Prop} {a0 a1 a2 a3 a4 a5 : Option Value} {x : Int32} : WP E c 229 37 [a0, a1, a2, a3, a4, a5] (.int x :: st) ah Q = if x = 0 then WP E c 229 47 [a0, a1, a2, a3, a4, a5] st ah Q else WP E c 229 40 [a0, a1, a2, a3, a4, a5] st ah Q := wp_j i229_37 rfl rfl rfl rfl
theorem i229_40 : insAt 229 40 = some (.aload 0, 41) := by decide +kernel
theorem r229_40 {E : aEnv} {c : Nat} {ah : aHp} {st : List Value} {Q : Option Value → aHp → Prop} {a1 a2 a3 a4 a5 : Option Value} {x : Nat} : WP E c 229 40 [some (.ref x), a1, a2, a3, a4, a5] (st) ah Q = WP E c 229 41 [some (.ref x), a1, a2, a3, a4, a5] (.ref x :: st) ah Q := wp_s i229_40 rfl rfl rfl rfl
theorem i229_41 : insAt 229 41 = some (.iconst (-1), 42) := by decide +kernel
theorem r229_41 {E : aEnv} {c : Nat} {ah : aHp} {st : List Value} {Q : Option Value → aHp → Prop} {a0 a1 a2 a3 a4 a5 : Option Value} : WP E c 229 41 [a0, a1, a2, a3, a4, a5] (st) ah Q = WP E c 229 42 [a0, a1, a2, a3, a4, a5] (.int ((-1)) :: st) ah Q := wp_s i229_41 rfl rfl rfl rfl
theorem i229_42 : insAt 229 42 = some (.putfield 11220, 45) := by decide +kernel
theorem r229_42 {E : aEnv} {c : Nat} {ah : aHp} {st : List Value} {Q : Option Value → aHp → Prop} {a0 a1 a2 a3 a4 a5 : Option Value} {a : Nat} {v : Value} : WP E c 229 42 [a0, a1, a2, a3, a4, a5] (v :: .ref a :: st) ah Q = WPo (oPF (hg E ah a) 11220 v) (fun e => WP E c 229 45 [a0, a1, a2, a3, a4, a5] st (hs E ah a e) Q) := wp_putf i229_42
theorem i229_45 : insAt 229 45 = some (.iconst 0, 46) := by decide +kernel
theorem r229_45 {E : aEnv} {c : Nat} {ah : aHp} {st : List Value} {Q : Option Value → aHp → Prop} {a0 a1 a2 a3 a4 a5 : Option Value} : WP E c 229 45 [a0, a1, a2, a3, a4, a5] (st) ah Q = WP E c 229 46 [a0, a1, a2, a3, a4, a5] (.int (0) :: st) ah Q := wp_s i229_45 rfl rfl rfl rfl
theorem i229_46 : insAt 229 46 = some (.ireturn, 47) := by decide +kernel
theorem r229_46 {E : aEnv} {c : Nat} {ah : aHp} {Q : Option Value → aHp → Prop} {a0 a1 a2 a3 a4 a5 : Option Value} {x : Int32} : WP E c 229 46 [a0, a1, a2, a3, a4, a5] ([.int x]) ah Q = Q (some (.int x)) ah := wp_rt i229_46 rfl
theorem i229_47 : insAt 229 47 = some (.iconst 1, 48) := by decide +kernel
theorem r229_47 {E : aEnv} {c : Nat} {ah : aHp} {st : List Value} {Q : Option Value → aHp → Prop} {a0 a1 a2 a3 a4 a5 : Option Value} : WP E c 229 47 [a0, a1, a2, a3, a4, a5] (st) ah Q = WP E c 229 48 [a0, a1, a2, a3, a4, a5] (.int (1) :: st) ah Q := wp_s i229_47 rfl rfl rfl rfl
theorem i229_48 : insAt 229 48 = some (.istore 4, 50) := by decide +kernel
theorem r229_48 {E : aEnv} {c : Nat} {ah : aHp} {st : List Value} {Q : Option Value → aHp → Prop} {a0 a1 a2 a3 a4 a5 : Option Value} {x : Int32} : WP E c 229 48 [a0, a1, a2, a3, a4, a5] (.int x :: st) ah Q = WP E c 229 50 [a0, a1, a2, kil a3, some (.int x), a5] (st) ah Q := wp_s i229_48 rfl rfl rfl rfl
theorem i229_50 : insAt 229 50 = some (.iload 4, 52) := by decide +kernel
theorem r229_50 {E : aEnv} {c : Nat} {ah : aHp} {st : List Value} {Q : Option Value → aHp → Prop} {a0 a1 a2 a3 a5 : Option Value} {x : Int32} : WP E c 229 50 [a0, a1, a2, a3, some (.int x), a5] (st) ah Q = WP E c 229 52 [a0, a1, a2, a3, some (.int x), a5] (.int x :: st) ah Q := wp_s i229_50 rfl rfl rfl rfl
theorem i229_52 : insAt 229 52 = some (.iload 3, 53) := by decide +kernel
theorem r229_52 {E : aEnv} {c : Nat} {ah : aHp} {st : List Value} {Q : Option Value → aHp → Prop} {a0 a1 a2 a4 a5 : Option Value} {x : Int32} : WP E c 229 52 [a0, a1, a2, some (.int x), a4, a5] (st) ah Q = WP E c 229 53 [a0, a1, a2, some (.int x), a4, a5] (.int x :: st) ah Q := wp_s i229_52 rfl rfl rfl rfl
theorem i229_53 : insAt 229 53 = some (.if_icmp .gt 182, 56) := by decide +kernel
theorem r229_53 {E : aEnv} {c : Nat} {ah : aHp} {st : List Value} {Q : Option Value → aHp → Prop} {a0 a1 a2 a3 a4 a5 : Option Value} {x y : Int32} : WP E c 229 53 [a0, a1, a2, a3, a4, a5] (.int y :: .int x :: st) ah Q = if y < x then WP E c 229 182 [a0, a1, a2, a3, a4, a5] st ah Q else WP E c 229 56 [a0, a1, a2, a3, a4, a5] st ah Q := wp_j i229_53 rfl rfl rfl rfl
theorem i229_56 : insAt 229 56 = some (.iconst 0, 57) := by decide +kernel
theorem r229_56 {E : aEnv} {c : Nat} {ah : aHp} {st : List Value} {Q : Option Value → aHp → Prop} {a0 a1 a2 a3 a4 a5 : Option Value} : WP E c 229 56 [a0, a1, a2, a3, a4, a5] (st) ah Q = WP E c 229 57 [a0, a1, a2, a3, a4, a5] (.int (0) :: st) ah Q := wp_s i229_56 rfl rfl rfl rfl
theorem i229_57 : insAt 229 57 = some (.istore 5, 59) := by decide +kernel
theorem r229_57 {E : aEnv} {c : Nat} {ah : aHp} {st : List Value} {Q : Option Value → aHp → Prop} {a0 a1 a2 a3 a4 a5 : Option Value} {x : Int32} : WP E c 229 57 [a0, a1, a2, a3, a4, a5] (.int x :: st) ah Q = WP E c 229 59 [a0, a1, a2, a3, kil a4, some (.int x)] (st) ah Q := wp_s i229_57 rfl rfl rfl rfl
theorem i229_59 : insAt 229 59 = some (.iload 5, 61) := by decide +kernel
theorem r229_59 {E : aEnv} {c : Nat} {ah : aHp} {st : List Value} {Q : Option Value → aHp → Prop} {a0 a1 a2 a3 a4 : Option Value} {x : Int32} : WP E c 229 59 [a0, a1, a2, a3, a4, some (.int x)] (st) ah Q = WP E c 229 61 [a0, a1, a2, a3, a4, some (.int x)] (.int x :: st) ah Q := wp_s i229_59 rfl rfl rfl rfl
theorem i229_61 : insAt 229 61 = some (.iconst 3, 62) := by decide +kernel
theorem r229_61 {E : aEnv} {c : Nat} {ah : aHp} {st : List Value} {Q : Option Value → aHp → Prop} {a0 a1 a2 a3 a4 a5 : Option Value} : WP E c 229 61 [a0, a1, a2, a3, a4, a5] (st) ah Q = WP E c 229 62 [a0, a1, a2, a3, a4, a5] (.int (3) :: st) ah Q := wp_s i229_61 rfl rfl rfl rfl
theorem i229_62 : insAt 229 62 = some (.aload 0, 63) := by decide +kernel
theorem r229_62 {E : aEnv} {c : Nat} {ah : aHp} {st : List Value} {Q : Option Value → aHp → Prop} {a1 a2 a3 a4 a5 : Option Value} {x : Nat} : WP E c 229 62 [some (.ref x), a1, a2, a3, a4, a5] (st) ah Q = WP E c 229 63 [some (.ref x), a1, a2, a3, a4, a5] (.ref x :: st) ah Q := wp_s i229_62 rfl rfl rfl rfl
theorem i229_63 : insAt 229 63 = some (.getfield 11062, 66) := by decide +kernel
theorem r229_63 {E : aEnv} {c : Nat} {ah : aHp} {st : List Value} {Q : Option Value → aHp → Prop} {a0 a1 a2 a3 a4 a5 : Option Value} {a : Nat} : WP E c 229 63 [a0, a1, a2, a3, a4, a5] (.ref a :: st) ah Q = WPo (oGF (hg E ah a) 11 6) (fun v => WP E c 229 66 [a0, a1, a2, a3, a4, a5] (v :: st) ah Q) := wp_getf i229_63
theorem i229_66 : insAt 229 66 = some (.iload 1, 67) := by decide +kernel
theorem r229_66 {E : aEnv} {c : Nat} {ah : aHp} {st : List Value} {Q : Option Value → aHp → Prop} {a0 a2 a3 a4 a5 : Option Value} {x : Int32} : WP E c 229 66 [a0, some (.int x), a2, a3, a4, a5] (st) ah Q = WP E c 229 67 [a0, some (.int x), a2, a3, a4, a5] (.int x :: st) ah Q := wp_s i229_66 rfl rfl rfl rfl
theorem i229_67 : insAt 229 67 = some (.iaload, 68) := by decide +kernel
theorem r229_67 {E : aEnv} {c : Nat} {ah : aHp} {st : List Value} {Q : Option Value → aHp → Prop} {a0 a1 a2 a3 a4 a5 : Option Value} {i : Int32} {a : Nat} : WP E c 229 67 [a0, a1, a2, a3, a4, a5] (.int i :: .ref a :: st) ah Q = WPo (gI E ah (.int i :: .ref a :: st)) (fun s9 => WP E c 229 68 [a0, a1, a2, a3, a4, a5] s9 ah Q) := wp_hr i229_67 rfl rfl rfl rfl rfl rfl rfl rfl
theorem i229_68 : insAt 229 68 = some (.iconst 1, 69) := by decide +kernel
theorem r229_68 {E : aEnv} {c : Nat} {ah : aHp} {st : List Value} {Q : Option Value → aHp → Prop} {a0 a1 a2 a3 a4 a5 : Option Value} : WP E c 229 68 [a0, a1, a2, a3, a4, a5] (st) ah Q = WP E c 229 69 [a0, a1, a2, a3, a4, a5] (.int (1) :: st) ah Q := wp_s i229_68 rfl rfl rfl rfl
theorem i229_69 : insAt 229 69 = some (.isub, 70) := by decide +kernel
theorem r229_69 {E : aEnv} {c : Nat} {ah : aHp} {st : List Value} {Q : Option Value → aHp → Prop} {a0 a1 a2 a3 a4 a5 : Option Value} {x y : Int32} : WP E c 229 69 [a0, a1, a2, a3, a4, a5] (.int y :: .int x :: st) ah Q = WP E c 229 70 [a0, a1, a2, a3, a4, a5] (.int (x - y) :: st) ah Q := wp_s i229_69 rfl rfl rfl rfl
theorem i229_70 : insAt 229 70 = some (.imul, 71) := by decide +kernel
theorem r229_70 {E : aEnv} {c : Nat} {ah : aHp} {st : List Value} {Q : Option Value → aHp → Prop} {a0 a1 a2 a3 a4 a5 : Option Value} {x y : Int32} : WP E c 229 70 [a0, a1, a2, a3, a4, a5] (.int y :: .int x :: st) ah Q = WP E c 229 71 [a0, a1, a2, a3, a4, a5] (.int (x * y) :: st) ah Q := wp_s i229_70 rfl rfl rfl rfl
theorem i229_71 : insAt 229 71 = some (.aload 0, 72) := by decide +kernel
theorem r229_71 {E : aEnv} {c : Nat} {ah : aHp} {st : List Value} {Q : Option Value → aHp → Prop} {a1 a2 a3 a4 a5 : Option Value} {x : Nat} : WP E c 229 71 [some (.ref x), a1, a2, a3, a4, a5] (st) ah Q = WP E c 229 72 [some (.ref x), a1, a2, a3, a4, a5] (.ref x :: st) ah Q := wp_s i229_71 rfl rfl rfl rfl
theorem i229_72 : insAt 229 72 = some (.getfield 11072, 75) := by decide +kernel
theorem r229_72 {E : aEnv} {c : Nat} {ah : aHp} {st : List Value} {Q : Option Value → aHp → Prop} {a0 a1 a2 a3 a4 a5 : Option Value} {a : Nat} : WP E c 229 72 [a0, a1, a2, a3, a4, a5] (.ref a :: st) ah Q = WPo (oGF (hg E ah a) 11 7) (fun v => WP E c 229 75 [a0, a1, a2, a3, a4, a5] (v :: st) ah Q) := wp_getf i229_72
theorem i229_75 : insAt 229 75 = some (.iload 1, 76) := by decide +kernel
theorem r229_75 {E : aEnv} {c : Nat} {ah : aHp} {st : List Value} {Q : Option Value → aHp → Prop} {a0 a2 a3 a4 a5 : Option Value} {x : Int32} : WP E c 229 75 [a0, some (.int x), a2, a3, a4, a5] (st) ah Q = WP E c 229 76 [a0, some (.int x), a2, a3, a4, a5] (.int x :: st) ah Q := wp_s i229_75 rfl rfl rfl rfl
theorem i229_76 : insAt 229 76 = some (.iaload, 77) := by decide +kernel
theorem r229_76 {E : aEnv} {c : Nat} {ah : aHp} {st : List Value} {Q : Option Value → aHp → Prop} {a0 a1 a2 a3 a4 a5 : Option Value} {i : Int32} {a : Nat} : WP E c 229 76 [a0, a1, a2, a3, a4, a5] (.int i :: .ref a :: st) ah Q = WPo (gI E ah (.int i :: .ref a :: st)) (fun s9 => WP E c 229 77 [a0, a1, a2, a3, a4, a5] s9 ah Q) := wp_hr i229_76 rfl rfl rfl rfl rfl rfl rfl rfl
theorem i229_77 : insAt 229 77 = some (.imul, 78) := by decide +kernel
theorem r229_77 {E : aEnv} {c : Nat} {ah : aHp} {st : List Value} {Q : Option Value → aHp → Prop} {a0 a1 a2 a3 a4 a5 : Option Value} {x y : Int32} : WP E c 229 77 [a0, a1, a2, a3, a4, a5] (.int y :: .int x :: st) ah Q = WP E c 229 78 [a0, a1, a2, a3, a4, a5] (.int (x * y) :: st) ah Q := wp_s i229_77 rfl rfl rfl rfl
theorem i229_78 : insAt 229 78 = some (.if_icmp .ge 176, 81) := by decide +kernel
theorem r229_78 {E : aEnv} {c : Nat} {ah : aHp} {st : List Value} {Q : Option Value → aHp → Prop} {a0 a1 a2 a3 a4 a5 : Option Value} {x y : Int32} : WP E c 229 78 [a0, a1, a2, a3, a4, a5] (.int y :: .int x :: st) ah Q = if y ≤ x then WP E c 229 176 [a0, a1, a2, a3, a4, a5] st ah Q else WP E c 229 81 [a0, a1, a2, a3, a4, a5] st ah Q := wp_j i229_78 rfl rfl rfl rfl
theorem i229_81 : insAt 229 81 = some (.aload 0, 82) := by decide +kernel
theorem r229_81 {E : aEnv} {c : Nat} {ah : aHp} {st : List Value} {Q : Option Value → aHp → Prop} {a1 a2 a3 a4 a5 : Option Value} {x : Nat} : WP E c 229 81 [some (.ref x), a1, a2, a3, a4, a5] (st) ah Q = WP E c 229 82 [some (.ref x), a1, a2, a3, a4, a5] (.ref x :: st) ah Q := wp_s i229_81 rfl rfl rfl rfl
theorem i229_82 : insAt 229 82 = some (.iload 4, 84) := by decide +kernel
theorem r229_82 {E : aEnv} {c : Nat} {ah : aHp} {st : List Value} {Q : Option Value → aHp → Prop} {a0 a1 a2 a3 a5 : Option Value} {x : Int32} : WP E c 229 82 [a0, a1, a2, a3, some (.int x), a5] (st) ah Q = WP E c 229 84 [a0, a1, a2, a3, some (.int x), a5] (.int x :: st) ah Q := wp_s i229_82 rfl rfl rfl rfl
theorem i229_84 : insAt 229 84 = some (.putfield 11180, 87) := by decide +kernel
theorem r229_84 {E : aEnv} {c : Nat} {ah : aHp} {st : List Value} {Q : Option Value → aHp → Prop} {a0 a1 a2 a3 a4 a5 : Option Value} {a : Nat} {v : Value} : WP E c 229 84 [a0, a1, a2, a3, a4, a5] (v :: .ref a :: st) ah Q = WPo (oPF (hg E ah a) 11180 v) (fun e => WP E c 229 87 [a0, a1, a2, a3, a4, a5] st (hs E ah a e) Q) := wp_putf i229_84
theorem i229_87 : insAt 229 87 = some (.aload 0, 88) := by decide +kernel
theorem r229_87 {E : aEnv} {c : Nat} {ah : aHp} {st : List Value} {Q : Option Value → aHp → Prop} {a1 a2 a3 a4 a5 : Option Value} {x : Nat} : WP E c 229 87 [some (.ref x), a1, a2, a3, a4, a5] (st) ah Q = WP E c 229 88 [some (.ref x), a1, a2, a3, a4, a5] (.ref x :: st) ah Q := wp_s i229_87 rfl rfl rfl rfl
theorem i229_88 : insAt 229 88 = some (.iload 5, 90) := by decide +kernel
theorem r229_88 {E : aEnv} {c : Nat} {ah : aHp} {st : List Value} {Q : Option Value → aHp → Prop} {a0 a1 a2 a3 a4 : Option Value} {x : Int32} : WP E c 229 88 [a0, a1, a2, a3, a4, some (.int x)] (st) ah Q = WP E c 229 90 [a0, a1, a2, a3, a4, some (.int x)] (.int x :: st) ah Q := wp_s i229_88 rfl rfl rfl rfl
theorem i229_90 : insAt 229 90 = some (.iconst 3, 91) := by decide +kernel
theorem r229_90 {E : aEnv} {c : Nat} {ah : aHp} {st : List Value} {Q : Option Value → aHp → Prop} {a0 a1 a2 a3 a4 a5 : Option Value} : WP E c 229 90 [a0, a1, a2, a3, a4, a5] (st) ah Q = WP E c 229 91 [a0, a1, a2, a3, a4, a5] (.int (3) :: st) ah Q := wp_s i229_90 rfl rfl rfl rfl
theorem i229_91 : insAt 229 91 = some (.aload 0, 92) := by decide +kernel
theorem r229_91 {E : aEnv} {c : Nat} {ah : aHp} {st : List Value} {Q : Option Value → aHp → Prop} {a1 a2 a3 a4 a5 : Option Value} {x : Nat} : WP E c 229 91 [some (.ref x), a1, a2, a3, a4, a5] (st) ah Q = WP E c 229 92 [some (.ref x), a1, a2, a3, a4, a5] (.ref x :: st) ah Q := wp_s i229_91 rfl rfl rfl rfl
theorem i229_92 : insAt 229 92 = some (.getfield 11072, 95) := by decide +kernel
theorem r229_92 {E : aEnv} {c : Nat} {ah : aHp} {st : List Value} {Q : Option Value → aHp → Prop} {a0 a1 a2 a3 a4 a5 : Option Value} {a : Nat} : WP E c 229 92 [a0, a1, a2, a3, a4, a5] (.ref a :: st) ah Q = WPo (oGF (hg E ah a) 11 7) (fun v => WP E c 229 95 [a0, a1, a2, a3, a4, a5] (v :: st) ah Q) := wp_getf i229_92
theorem i229_95 : insAt 229 95 = some (.iload 1, 96) := by decide +kernel
theorem r229_95 {E : aEnv} {c : Nat} {ah : aHp} {st : List Value} {Q : Option Value → aHp → Prop} {a0 a2 a3 a4 a5 : Option Value} {x : Int32} : WP E c 229 95 [a0, some (.int x), a2, a3, a4, a5] (st) ah Q = WP E c 229 96 [a0, some (.int x), a2, a3, a4, a5] (.int x :: st) ah Q := wp_s i229_95 rfl rfl rfl rfl
theorem i229_96 : insAt 229 96 = some (.iaload, 97) := by decide +kernel
theorem r229_96 {E : aEnv} {c : Nat} {ah : aHp} {st : List Value} {Q : Option Value → aHp → Prop} {a0 a1 a2 a3 a4 a5 : Option Value} {i : Int32} {a : Nat} : WP E c 229 96 [a0, a1, a2, a3, a4, a5] (.int i :: .ref a :: st) ah Q = WPo (gI E ah (.int i :: .ref a :: st)) (fun s9 => WP E c 229 97 [a0, a1, a2, a3, a4, a5] s9 ah Q) := wp_hr i229_96 rfl rfl rfl rfl rfl rfl rfl rfl
theorem i229_97 : insAt 229 97 = some (.imul, 98) := by decide +kernel
theorem r229_97 {E : aEnv} {c : Nat} {ah : aHp} {st : List Value} {Q : Option Value → aHp → Prop} {a0 a1 a2 a3 a4 a5 : Option Value} {x y : Int32} : WP E c 229 97 [a0, a1, a2, a3, a4, a5] (.int y :: .int x :: st) ah Q = WP E c 229 98 [a0, a1, a2, a3, a4, a5] (.int (x * y) :: st) ah Q := wp_s i229_97 rfl rfl rfl rfl
theorem i229_98 : insAt 229 98 = some (.idiv, 99) := by decide +kernel
theorem r229_98 {E : aEnv} {c : Nat} {ah : aHp} {st : List Value} {Q : Option Value → aHp → Prop} {a0 a1 a2 a3 a4 a5 : Option Value} {x y : Int32} (hy : ¬ y = 0) : WP E c 229 98 [a0, a1, a2, a3, a4, a5] (.int y :: .int x :: st) ah Q = WP E c 229 99 [a0, a1, a2, a3, a4, a5] (.int (x / y) :: st) ah Q := wp_st (z := (99, [a0, a1, a2, a3, a4, a5], .int (x / y) :: st, ah)) i229_98 rfl rfl rfl (by simp [st1, skA, sD, hy])
theorem i229_99 : insAt 229 99 = some (.putfield 11190, 102) := by decide +kernel
theorem r229_99 {E : aEnv} {c : Nat} {ah : aHp} {st : List Value} {Q : Option Value → aHp → Prop} {a0 a1 a2 a3 a4 a5 : Option Value} {a : Nat} {v : Value} : WP E c 229 99 [a0, a1, a2, a3, a4, a5] (v :: .ref a :: st) ah Q = WPo (oPF (hg E ah a) 11190 v) (fun e => WP E c 229 102 [a0, a1, a2, a3, a4, a5] st (hs E ah a e) Q) := wp_putf i229_99
theorem i229_102 : insAt 229 102 = some (.aload 0, 103) := by decide +kernel
theorem r229_102 {E : aEnv} {c : Nat} {ah : aHp} {st : List Value} {Q : Option Value → aHp → Prop} {a1 a2 a3 a4 a5 : Option Value} {x : Nat} : WP E c 229 102 [some (.ref x), a1, a2, a3, a4, a5] (st) ah Q = WP E c 229 103 [some (.ref x), a1, a2, a3, a4, a5] (.ref x :: st) ah Q := wp_s i229_102 rfl rfl rfl rfl
theorem i229_103 : insAt 229 103 = some (.iload 5, 105) := by decide +kernel
theorem r229_103 {E : aEnv} {c : Nat} {ah : aHp} {st : List Value} {Q : Option Value → aHp → Prop} {a0 a1 a2 a3 a4 : Option Value} {x : Int32} : WP E c 229 103 [a0, a1, a2, a3, a4, some (.int x)] (st) ah Q = WP E c 229 105 [a0, a1, a2, a3, a4, some (.int x)] (.int x :: st) ah Q := wp_s i229_103 rfl rfl rfl rfl
theorem i229_105 : insAt 229 105 = some (.iconst 3, 106) := by decide +kernel
theorem r229_105 {E : aEnv} {c : Nat} {ah : aHp} {st : List Value} {Q : Option Value → aHp → Prop} {a0 a1 a2 a3 a4 a5 : Option Value} : WP E c 229 105 [a0, a1, a2, a3, a4, a5] (st) ah Q = WP E c 229 106 [a0, a1, a2, a3, a4, a5] (.int (3) :: st) ah Q := wp_s i229_105 rfl rfl rfl rfl
theorem i229_106 : insAt 229 106 = some (.idiv, 107) := by decide +kernel
theorem r229_106 {E : aEnv} {c : Nat} {ah : aHp} {st : List Value} {Q : Option Value → aHp → Prop} {a0 a1 a2 a3 a4 a5 : Option Value} {x y : Int32} (hy : ¬ y = 0) : WP E c 229 106 [a0, a1, a2, a3, a4, a5] (.int y :: .int x :: st) ah Q = WP E c 229 107 [a0, a1, a2, a3, a4, a5] (.int (x / y) :: st) ah Q := wp_st (z := (107, [a0, a1, a2, a3, a4, a5], .int (x / y) :: st, ah)) i229_106 rfl rfl rfl (by simp [st1, skA, sD, hy])
theorem i229_107 : insAt 229 107 = some (.aload 0, 108) := by decide +kernel
theorem r229_107 {E : aEnv} {c : Nat} {ah : aHp} {st : List Value} {Q : Option Value → aHp → Prop} {a1 a2 a3 a4 a5 : Option Value} {x : Nat} : WP E c 229 107 [some (.ref x), a1, a2, a3, a4, a5] (st) ah Q = WP E c 229 108 [some (.ref x), a1, a2, a3, a4, a5] (.ref x :: st) ah Q := wp_s i229_107 rfl rfl rfl rfl
theorem i229_108 : insAt 229 108 = some (.getfield 11072, 111) := by decide +kernel
theorem r229_108 {E : aEnv} {c : Nat} {ah : aHp} {st : List Value} {Q : Option Value → aHp → Prop} {a0 a1 a2 a3 a4 a5 : Option Value} {a : Nat} : WP E c 229 108 [a0, a1, a2, a3, a4, a5] (.ref a :: st) ah Q = WPo (oGF (hg E ah a) 11 7) (fun v => WP E c 229 111 [a0, a1, a2, a3, a4, a5] (v :: st) ah Q) := wp_getf i229_108
theorem i229_111 : insAt 229 111 = some (.iload 1, 112) := by decide +kernel
theorem r229_111 {E : aEnv} {c : Nat} {ah : aHp} {st : List Value} {Q : Option Value → aHp → Prop} {a0 a2 a3 a4 a5 : Option Value} {x : Int32} : WP E c 229 111 [a0, some (.int x), a2, a3, a4, a5] (st) ah Q = WP E c 229 112 [a0, some (.int x), a2, a3, a4, a5] (.int x :: st) ah Q := wp_s i229_111 rfl rfl rfl rfl
theorem i229_112 : insAt 229 112 = some (.iaload, 113) := by decide +kernel
theorem r229_112 {E : aEnv} {c : Nat} {ah : aHp} {st : List Value} {Q : Option Value → aHp → Prop} {a0 a1 a2 a3 a4 a5 : Option Value} {i : Int32} {a : Nat} : WP E c 229 112 [a0, a1, a2, a3, a4, a5] (.int i :: .ref a :: st) ah Q = WPo (gI E ah (.int i :: .ref a :: st)) (fun s9 => WP E c 229 113 [a0, a1, a2, a3, a4, a5] s9 ah Q) := wp_hr i229_112 rfl rfl rfl rfl rfl rfl rfl rfl
theorem i229_113 : insAt 229 113 = some (.irem, 114) := by decide +kernel
theorem r229_113 {E : aEnv} {c : Nat} {ah : aHp} {st : List Value} {Q : Option Value → aHp → Prop} {a0 a1 a2 a3 a4 a5 : Option Value} {x y : Int32} (hy : ¬ y = 0) : WP E c 229 113 [a0, a1, a2, a3, a4, a5] (.int y :: .int x :: st) ah Q = WP E c 229 114 [a0, a1, a2, a3, a4, a5] (.int (x - x / y * y) :: st) ah Q := wp_st (z := (114, [a0, a1, a2, a3, a4, a5], .int (x - x / y * y) :: st, ah)) i229_113 rfl rfl rfl (by simp [st1, skA, sD, hy])
theorem i229_114 : insAt 229 114 = some (.putfield 11200, 117) := by decide +kernel
theorem r229_114 {E : aEnv} {c : Nat} {ah : aHp} {st : List Value} {Q : Option Value → aHp → Prop} {a0 a1 a2 a3 a4 a5 : Option Value} {a : Nat} {v : Value} : WP E c 229 114 [a0, a1, a2, a3, a4, a5] (v :: .ref a :: st) ah Q = WPo (oPF (hg E ah a) 11200 v) (fun e => WP E c 229 117 [a0, a1, a2, a3, a4, a5] st (hs E ah a e) Q) := wp_putf i229_114
theorem i229_117 : insAt 229 117 = some (.aload 0, 118) := by decide +kernel
theorem r229_117 {E : aEnv} {c : Nat} {ah : aHp} {st : List Value} {Q : Option Value → aHp → Prop} {a1 a2 a3 a4 a5 : Option Value} {x : Nat} : WP E c 229 117 [some (.ref x), a1, a2, a3, a4, a5] (st) ah Q = WP E c 229 118 [some (.ref x), a1, a2, a3, a4, a5] (.ref x :: st) ah Q := wp_s i229_117 rfl rfl rfl rfl
theorem i229_118 : insAt 229 118 = some (.iload 5, 120) := by decide +kernel
theorem r229_118 {E : aEnv} {c : Nat} {ah : aHp} {st : List Value} {Q : Option Value → aHp → Prop} {a0 a1 a2 a3 a4 : Option Value} {x : Int32} : WP E c 229 118 [a0, a1, a2, a3, a4, some (.int x)] (st) ah Q = WP E c 229 120 [a0, a1, a2, a3, a4, some (.int x)] (.int x :: st) ah Q := wp_s i229_118 rfl rfl rfl rfl
theorem i229_120 : insAt 229 120 = some (.iconst 3, 121) := by decide +kernel
theorem r229_120 {E : aEnv} {c : Nat} {ah : aHp} {st : List Value} {Q : Option Value → aHp → Prop} {a0 a1 a2 a3 a4 a5 : Option Value} : WP E c 229 120 [a0, a1, a2, a3, a4, a5] (st) ah Q = WP E c 229 121 [a0, a1, a2, a3, a4, a5] (.int (3) :: st) ah Q := wp_s i229_120 rfl rfl rfl rfl
theorem i229_121 : insAt 229 121 = some (.irem, 122) := by decide +kernel
theorem r229_121 {E : aEnv} {c : Nat} {ah : aHp} {st : List Value} {Q : Option Value → aHp → Prop} {a0 a1 a2 a3 a4 a5 : Option Value} {x y : Int32} (hy : ¬ y = 0) : WP E c 229 121 [a0, a1, a2, a3, a4, a5] (.int y :: .int x :: st) ah Q = WP E c 229 122 [a0, a1, a2, a3, a4, a5] (.int (x - x / y * y) :: st) ah Q := wp_st (z := (122, [a0, a1, a2, a3, a4, a5], .int (x - x / y * y) :: st, ah)) i229_121 rfl rfl rfl (by simp [st1, skA, sD, hy])
theorem i229_122 : insAt 229 122 = some (.putfield 11210, 125) := by decide +kernel
theorem r229_122 {E : aEnv} {c : Nat} {ah : aHp} {st : List Value} {Q : Option Value → aHp → Prop} {a0 a1 a2 a3 a4 a5 : Option Value} {a : Nat} {v : Value} : WP E c 229 122 [a0, a1, a2, a3, a4, a5] (v :: .ref a :: st) ah Q = WPo (oPF (hg E ah a) 11210 v) (fun e => WP E c 229 125 [a0, a1, a2, a3, a4, a5] st (hs E ah a e) Q) := wp_putf i229_122
theorem i229_125 : insAt 229 125 = some (.aload 0, 126) := by decide +kernel
theorem r229_125 {E : aEnv} {c : Nat} {ah : aHp} {st : List Value} {Q : Option Value → aHp → Prop} {a1 a2 a3 a4 a5 : Option Value} {x : Nat} : WP E c 229 125 [some (.ref x), a1, a2, a3, a4, a5] (st) ah Q = WP E c 229 126 [some (.ref x), a1, a2, a3, a4, a5] (.ref x :: st) ah Q := wp_s i229_125 rfl rfl rfl rfl
theorem i229_126 : insAt 229 126 = some (.iload 1, 127) := by decide +kernel
theorem r229_126 {E : aEnv} {c : Nat} {ah : aHp} {st : List Value} {Q : Option Value → aHp → Prop} {a0 a2 a3 a4 a5 : Option Value} {x : Int32} : WP E c 229 126 [a0, some (.int x), a2, a3, a4, a5] (st) ah Q = WP E c 229 127 [a0, some (.int x), a2, a3, a4, a5] (.int x :: st) ah Q := wp_s i229_126 rfl rfl rfl rfl
theorem i229_127 : insAt 229 127 = some (.iload 2, 128) := by decide +kernel
theorem r229_127 {E : aEnv} {c : Nat} {ah : aHp} {st : List Value} {Q : Option Value → aHp → Prop} {a0 a1 a3 a4 a5 : Option Value} {x : Int32} : WP E c 229 127 [a0, a1, some (.int x), a3, a4, a5] (st) ah Q = WP E c 229 128 [a0, a1, some (.int x), a3, a4, a5] (.int x :: st) ah Q := wp_s i229_127 rfl rfl rfl rfl
theorem i229_128 : insAt 229 128 = some (.iload 3, 129) := by decide +kernel
theorem r229_128 {E : aEnv} {c : Nat} {ah : aHp} {st : List Value} {Q : Option Value → aHp → Prop} {a0 a1 a2 a4 a5 : Option Value} {x : Int32} : WP E c 229 128 [a0, a1, a2, some (.int x), a4, a5] (st) ah Q = WP E c 229 129 [a0, a1, a2, some (.int x), a4, a5] (.int x :: st) ah Q := wp_s i229_128 rfl rfl rfl rfl
theorem i229_129 : insAt 229 129 = some (.invokevirtual 228, 132) := by decide +kernel
theorem r229_129 {E : aEnv} {c : Nat} {ah ah1 : aHp} {r : Option Value} {st : List Value} {Q : Option Value → aHp → Prop} {a0 a1 a2 a3 a4 a5 : Option Value} {p0 : Nat} {p1 : Int32} {p2 : Int32} {p3 : Int32} (h : EV E c 228 [.ref p0, .int p1, .int p2, .int p3] ah r ah1) (h2 : oCI (hg E ah p0) = 11) (h3 : wds st ≤ 8) : WP E (c + 1) 229 129 [a0, a1, a2, a3, a4, a5] (.int p3 :: .int p2 :: .int p1 :: .ref p0 :: st) ah Q = WP E (c + 1) 229 132 [a0, a1, a2, a3, a4, a5] (r.toList ++ st) ah1 Q := wp_call (As := [.ref p0, .int p1, .int p2, .int p3]) i229_129 (fun _ => rfl) rfl mr228.1 (rcv_1 h2 mr228.2.2 (by decide)) h3 (by rw [mr228.2.1]; exact Nat.le_of_ble_eq_true rfl) h
theorem i229_132 : insAt 229 132 = some (.ifCond .ne 138, 135) := by decide +kernel
theorem r229_132 {E : aEnv} {c : Nat} {ah : aHp} {st : List Value} {Q : Option Value → aHp → Prop} {a0 a1 a2 a3 a4 a5 : Option Value} {x : Int32} : WP E c 229 132 [a0, a1, a2, a3, a4, a5] (.int x :: st) ah Q = if ¬ x = 0 then WP E c 229 138 [a0, a1, a2, a3, a4, a5] st ah Q else WP E c 229 135 [a0, a1, a2, a3, a4, a5] st ah Q := wp_j i229_132 rfl rfl rfl rfl
theorem i229_135 : insAt 229 135 = some (.goto 170, 138) := by decide +kernel
theorem r229_135 {E : aEnv} {c : Nat} {ah : aHp} {st : List Value} {Q : Option Value → aHp → Prop} {a0 a1 a2 a3 a4 a5 : Option Value} : WP E c 229 135 [a0, a1, a2, a3, a4, a5] (st) ah Q = WP E c 229 170 [a0, a1, a2, a3, a4, a5] st ah Q := wp_s i229_135 rfl rfl rfl rfl
theorem i229_138 : insAt 229 138 = some (.aload 0, 139) := by decide +kernel
theorem r229_138 {E : aEnv} {c : Nat} {ah : aHp} {st : List Value} {Q : Option Value → aHp → Prop} {a1 a2 a3 a4 a5 : Option Value} {x : Nat} : WP E c 229 138 [some (.ref x), a1, a2, a3, a4, a5] (st) ah Q = WP E c 229 139 [some (.ref x), a1, a2, a3, a4, a5] (.ref x :: st) ah Q := wp_s i229_138 rfl rfl rfl rfl
theorem i229_139 : insAt 229 139 = some (.iload 4, 141) := by decide +kernel
theorem r229_139 {E : aEnv} {c : Nat} {ah : aHp} {st : List Value} {Q : Option Value → aHp → Prop} {a0 a1 a2 a3 a5 : Option Value} {x : Int32} : WP E c 229 139 [a0, a1, a2, a3, some (.int x), a5] (st) ah Q = WP E c 229 141 [a0, a1, a2, a3, some (.int x), a5] (.int x :: st) ah Q := wp_s i229_139 rfl rfl rfl rfl
theorem i229_141 : insAt 229 141 = some (.putfield 11220, 144) := by decide +kernel
theorem r229_141 {E : aEnv} {c : Nat} {ah : aHp} {st : List Value} {Q : Option Value → aHp → Prop} {a0 a1 a2 a3 a4 a5 : Option Value} {a : Nat} {v : Value} : WP E c 229 141 [a0, a1, a2, a3, a4, a5] (v :: .ref a :: st) ah Q = WPo (oPF (hg E ah a) 11220 v) (fun e => WP E c 229 144 [a0, a1, a2, a3, a4, a5] st (hs E ah a e) Q) := wp_putf i229_141
theorem i229_144 : insAt 229 144 = some (.aload 0, 145) := by decide +kernel
theorem r229_144 {E : aEnv} {c : Nat} {ah : aHp} {st : List Value} {Q : Option Value → aHp → Prop} {a1 a2 a3 a4 a5 : Option Value} {x : Nat} : WP E c 229 144 [some (.ref x), a1, a2, a3, a4, a5] (st) ah Q = WP E c 229 145 [some (.ref x), a1, a2, a3, a4, a5] (.ref x :: st) ah Q := wp_s i229_144 rfl rfl rfl rfl
theorem i229_145 : insAt 229 145 = some (.aload 0, 146) := by decide +kernel
theorem r229_145 {E : aEnv} {c : Nat} {ah : aHp} {st : List Value} {Q : Option Value → aHp → Prop} {a1 a2 a3 a4 a5 : Option Value} {x : Nat} : WP E c 229 145 [some (.ref x), a1, a2, a3, a4, a5] (st) ah Q = WP E c 229 146 [some (.ref x), a1, a2, a3, a4, a5] (.ref x :: st) ah Q := wp_s i229_145 rfl rfl rfl rfl
theorem i229_146 : insAt 229 146 = some (.getfield 11190, 149) := by decide +kernel
theorem r229_146 {E : aEnv} {c : Nat} {ah : aHp} {st : List Value} {Q : Option Value → aHp → Prop} {a0 a1 a2 a3 a4 a5 : Option Value} {a : Nat} : WP E c 229 146 [a0, a1, a2, a3, a4, a5] (.ref a :: st) ah Q = WPo (oGF (hg E ah a) 11 19) (fun v => WP E c 229 149 [a0, a1, a2, a3, a4, a5] (v :: st) ah Q) := wp_getf i229_146
theorem i229_149 : insAt 229 149 = some (.putfield 11230, 152) := by decide +kernel
theorem r229_149 {E : aEnv} {c : Nat} {ah : aHp} {st : List Value} {Q : Option Value → aHp → Prop} {a0 a1 a2 a3 a4 a5 : Option Value} {a : Nat} {v : Value} : WP E c 229 149 [a0, a1, a2, a3, a4, a5] (v :: .ref a :: st) ah Q = WPo (oPF (hg E ah a) 11230 v) (fun e => WP E c 229 152 [a0, a1, a2, a3, a4, a5] st (hs E ah a e) Q) := wp_putf i229_149
theorem i229_152 : insAt 229 152 = some (.aload 0, 153) := by decide +kernel
theorem r229_152 {E : aEnv} {c : Nat} {ah : aHp} {st : List Value} {Q : Option Value → aHp → Prop} {a1 a2 a3 a4 a5 : Option Value} {x : Nat} : WP E c 229 152 [some (.ref x), a1, a2, a3, a4, a5] (st) ah Q = WP E c 229 153 [some (.ref x), a1, a2, a3, a4, a5] (.ref x :: st) ah Q := wp_s i229_152 rfl rfl rfl rfl
theorem i229_153 : insAt 229 153 = some (.aload 0, 154) := by decide +kernel
theorem r229_153 {E : aEnv} {c : Nat} {ah : aHp} {st : List Value} {Q : Option Value → aHp → Prop} {a1 a2 a3 a4 a5 : Option Value} {x : Nat} : WP E c 229 153 [some (.ref x), a1, a2, a3, a4, a5] (st) ah Q = WP E c 229 154 [some (.ref x), a1, a2, a3, a4, a5] (.ref x :: st) ah Q := wp_s i229_153 rfl rfl rfl rfl
theorem i229_154 : insAt 229 154 = some (.getfield 11200, 157) := by decide +kernel
theorem r229_154 {E : aEnv} {c : Nat} {ah : aHp} {st : List Value} {Q : Option Value → aHp → Prop} {a0 a1 a2 a3 a4 a5 : Option Value} {a : Nat} : WP E c 229 154 [a0, a1, a2, a3, a4, a5] (.ref a :: st) ah Q = WPo (oGF (hg E ah a) 11 20) (fun v => WP E c 229 157 [a0, a1, a2, a3, a4, a5] (v :: st) ah Q) := wp_getf i229_154
theorem i229_157 : insAt 229 157 = some (.putfield 11240, 160) := by decide +kernel
theorem r229_157 {E : aEnv} {c : Nat} {ah : aHp} {st : List Value} {Q : Option Value → aHp → Prop} {a0 a1 a2 a3 a4 a5 : Option Value} {a : Nat} {v : Value} : WP E c 229 157 [a0, a1, a2, a3, a4, a5] (v :: .ref a :: st) ah Q = WPo (oPF (hg E ah a) 11240 v) (fun e => WP E c 229 160 [a0, a1, a2, a3, a4, a5] st (hs E ah a e) Q) := wp_putf i229_157
theorem i229_160 : insAt 229 160 = some (.aload 0, 161) := by decide +kernel
theorem r229_160 {E : aEnv} {c : Nat} {ah : aHp} {st : List Value} {Q : Option Value → aHp → Prop} {a1 a2 a3 a4 a5 : Option Value} {x : Nat} : WP E c 229 160 [some (.ref x), a1, a2, a3, a4, a5] (st) ah Q = WP E c 229 161 [some (.ref x), a1, a2, a3, a4, a5] (.ref x :: st) ah Q := wp_s i229_160 rfl rfl rfl rfl
theorem i229_161 : insAt 229 161 = some (.aload 0, 162) := by decide +kernel
theorem r229_161 {E : aEnv} {c : Nat} {ah : aHp} {st : List Value} {Q : Option Value → aHp → Prop} {a1 a2 a3 a4 a5 : Option Value} {x : Nat} : WP E c 229 161 [some (.ref x), a1, a2, a3, a4, a5] (st) ah Q = WP E c 229 162 [some (.ref x), a1, a2, a3, a4, a5] (.ref x :: st) ah Q := wp_s i229_161 rfl rfl rfl rfl
theorem i229_162 : insAt 229 162 = some (.getfield 11210, 165) := by decide +kernel
theorem r229_162 {E : aEnv} {c : Nat} {ah : aHp} {st : List Value} {Q : Option Value → aHp → Prop} {a0 a1 a2 a3 a4 a5 : Option Value} {a : Nat} : WP E c 229 162 [a0, a1, a2, a3, a4, a5] (.ref a :: st) ah Q = WPo (oGF (hg E ah a) 11 21) (fun v => WP E c 229 165 [a0, a1, a2, a3, a4, a5] (v :: st) ah Q) := wp_getf i229_162
theorem i229_165 : insAt 229 165 = some (.putfield 11250, 168) := by decide +kernel
theorem r229_165 {E : aEnv} {c : Nat} {ah : aHp} {st : List Value} {Q : Option Value → aHp → Prop} {a0 a1 a2 a3 a4 a5 : Option Value} {a : Nat} {v : Value} : WP E c 229 165 [a0, a1, a2, a3, a4, a5] (v :: .ref a :: st) ah Q = WPo (oPF (hg E ah a) 11250 v) (fun e => WP E c 229 168 [a0, a1, a2, a3, a4, a5] st (hs E ah a e) Q) := wp_putf i229_165
theorem i229_168 : insAt 229 168 = some (.iconst 1, 169) := by decide +kernel
theorem r229_168 {E : aEnv} {c : Nat} {ah : aHp} {st : List Value} {Q : Option Value → aHp → Prop} {a0 a1 a2 a3 a4 a5 : Option Value} : WP E c 229 168 [a0, a1, a2, a3, a4, a5] (st) ah Q = WP E c 229 169 [a0, a1, a2, a3, a4, a5] (.int (1) :: st) ah Q := wp_s i229_168 rfl rfl rfl rfl
theorem i229_169 : insAt 229 169 = some (.ireturn, 170) := by decide +kernel
theorem r229_169 {E : aEnv} {c : Nat} {ah : aHp} {Q : Option Value → aHp → Prop} {a0 a1 a2 a3 a4 a5 : Option Value} {x : Int32} : WP E c 229 169 [a0, a1, a2, a3, a4, a5] ([.int x]) ah Q = Q (some (.int x)) ah := wp_rt i229_169 rfl
theorem i229_170 : insAt 229 170 = some (.iinc 5 1, 173) := by decide +kernel
theorem r229_170 {E : aEnv} {c : Nat} {ah : aHp} {st : List Value} {Q : Option Value → aHp → Prop} {a0 a1 a2 a3 a4 : Option Value} {x : Int32} : WP E c 229 170 [a0, a1, a2, a3, a4, some (.int x)] (st) ah Q = WP E c 229 173 [a0, a1, a2, a3, kil a4, some (.int (x + 1))] (st) ah Q := wp_s i229_170 rfl rfl rfl rfl
theorem i229_173 : insAt 229 173 = some (.goto 59, 176) := by decide +kernel
theorem r229_173 {E : aEnv} {c : Nat} {ah : aHp} {st : List Value} {Q : Option Value → aHp → Prop} {a0 a1 a2 a3 a4 a5 : Option Value} : WP E c 229 173 [a0, a1, a2, a3, a4, a5] (st) ah Q = WP E c 229 59 [a0, a1, a2, a3, a4, a5] st ah Q := wp_s i229_173 rfl rfl rfl rfl
theorem i229_176 : insAt 229 176 = some (.iinc 4 1, 179) := by decide +kernel
theorem r229_176 {E : aEnv} {c : Nat} {ah : aHp} {st : List Value} {Q : Option Value → aHp → Prop} {a0 a1 a2 a3 a5 : Option Value} {x : Int32} : WP E c 229 176 [a0, a1, a2, a3, some (.int x), a5] (st) ah Q = WP E c 229 179 [a0, a1, a2, kil a3, some (.int (x + 1)), a5] (st) ah Q := wp_s i229_176 rfl rfl rfl rfl
theorem i229_179 : insAt 229 179 = some (.goto 50, 182) := by decide +kernel
theorem r229_179 {E : aEnv} {c : Nat} {ah : aHp} {st : List Value} {Q : Option Value → aHp → Prop} {a0 a1 a2 a3 a4 a5 : Option Value} : WP E c 229 179 [a0, a1, a2, a3, a4, a5] (st) ah Q = WP E c 229 50 [a0, a1, a2, a3, a4, a5] st ah Q := wp_s i229_179 rfl rfl rfl rfl
theorem i229_182 : insAt 229 182 = some (.aload 0, 183) := by decide +kernel
theorem r229_182 {E : aEnv} {c : Nat} {ah : aHp} {st : List Value} {Q : Option Value → aHp → Prop} {a1 a2 a3 a4 a5 : Option Value} {x : Nat} : WP E c 229 182 [some (.ref x), a1, a2, a3, a4, a5] (st) ah Q = WP E c 229 183 [some (.ref x), a1, a2, a3, a4, a5] (.ref x :: st) ah Q := wp_s i229_182 rfl rfl rfl rfl
theorem i229_183 : insAt 229 183 = some (.iconst 8, 185) := by decide +kernel
theorem r229_183 {E : aEnv} {c : Nat} {ah : aHp} {st : List Value} {Q : Option Value → aHp → Prop} {a0 a1 a2 a3 a4 a5 : Option Value} : WP E c 229 183 [a0, a1, a2, a3, a4, a5] (st) ah Q = WP E c 229 185 [a0, a1, a2, a3, a4, a5] (.int (8) :: st) ah Q := wp_s i229_183 rfl rfl rfl rfl
theorem i229_185 : insAt 229 185 = some (.invokevirtual 197, 188) := by decide +kernel
theorem r229_185 {E : aEnv} {c : Nat} {ah ah1 : aHp} {r : Option Value} {st : List Value} {Q : Option Value → aHp → Prop} {a0 a1 a2 a3 a4 a5 : Option Value} {p0 : Nat} {p1 : Int32} (h : EV E c 197 [.ref p0, .int p1] ah r ah1) (h2 : oCI (hg E ah p0) = 11) (h3 : wds st ≤ 8) : WP E (c + 1) 229 185 [a0, a1, a2, a3, a4, a5] (.int p1 :: .ref p0 :: st) ah Q = WP E (c + 1) 229 188 [a0, a1, a2, a3, a4, a5] (r.toList ++ st) ah1 Q := wp_call (As := [.ref p0, .int p1]) i229_185 (fun _ => rfl) rfl mr197.1 (rcv_1 h2 mr197.2.2 (by decide)) h3 (by rw [mr197.2.1]; exact Nat.le_of_ble_eq_true rfl) h
theorem i229_188 : insAt 229 188 = some (.ireturn, 189) := by decide +kernel
theorem r229_188 {E : aEnv} {c : Nat} {ah : aHp} {Q : Option Value → aHp → Prop} {a0 a1 a2 a3 a4 a5 : Option Value} {x : Int32} : WP E c 229 188 [a0, a1, a2, a3, a4, a5] ([.int x]) ah Q = Q (some (.int x)) ah := wp_rt i229_188 rfl
theorem e230 {E : aEnv} {c : Nat} {ah ahF : aHp} {r : Option Value} {p0 : Nat} {p1 : Int32} (h : WP E c 230 0 [some (.ref p0), some (.int p1)] [] ah (fun r1 x1 => r1 = r ∧ x1 = ahF)) : EV E c 230 [.ref p0, .int p1] ah r ahF := EV.of (by rw [mr230.2.1]; exact h)
theorem i230_0 : insAt 230 0 = some (.aload 0, 1) := by decide +kernel
theorem r230_0 {E : aEnv} {c : Nat} {ah : aHp} {st : List Value} {Q : Option Value → aHp → Prop} {a1 : Option Value} {x : Nat} : WP E c 230 0 [some (.ref x), a1] (st) ah Q = WP E c 230 1 [some (.ref x), a1] (.ref x :: st) ah Q := wp_s i230_0 rfl rfl rfl rfl
theorem i230_1 : insAt 230 1 = some (.iconst 0, 2) := by decide +kernel
theorem r230_1 {E : aEnv} {c : Nat} {ah : aHp} {st : List Value} {Q : Option Value → aHp → Prop} {a0 a1 : Option Value} : WP E c 230 1 [a0, a1] (st) ah Q = WP E c 230 2 [a0, a1] (.int (0) :: st) ah Q := wp_s i230_1 rfl rfl rfl rfl
theorem i230_2 : insAt 230 2 = some (.putfield 11010, 5) := by decide +kernel
theorem r230_2 {E : aEnv} {c : Nat} {ah : aHp} {st : List Value} {Q : Option Value → aHp → Prop} {a0 a1 : Option Value} {a : Nat} {v : Value} : WP E c 230 2 [a0, a1] (v :: .ref a :: st) ah Q = WPo (oPF (hg E ah a) 11010 v) (fun e => WP E c 230 5 [a0, a1] st (hs E ah a e) Q) := wp_putf i230_2
theorem i230_5 : insAt 230 5 = some (.aload 0, 6) := by decide +kernel
theorem r230_5 {E : aEnv} {c : Nat} {ah : aHp} {st : List Value} {Q : Option Value → aHp → Prop} {a1 : Option Value} {x : Nat} : WP E c 230 5 [some (.ref x), a1] (st) ah Q = WP E c 230 6 [some (.ref x), a1] (.ref x :: st) ah Q := wp_s i230_5 rfl rfl rfl rfl
theorem i230_6 : insAt 230 6 = some (.iconst 0, 7) := by decide +kernel
theorem r230_6 {E : aEnv} {c : Nat} {ah : aHp} {st : List Value} {Q : Option Value → aHp → Prop} {a0 a1 : Option Value} : WP E c 230 6 [a0, a1] (st) ah Q = WP E c 230 7 [a0, a1] (.int (0) :: st) ah Q := wp_s i230_6 rfl rfl rfl rfl
theorem i230_7 : insAt 230 7 = some (.putfield 11000, 10) := by decide +kernel
theorem r230_7 {E : aEnv} {c : Nat} {ah : aHp} {st : List Value} {Q : Option Value → aHp → Prop} {a0 a1 : Option Value} {a : Nat} {v : Value} : WP E c 230 7 [a0, a1] (v :: .ref a :: st) ah Q = WPo (oPF (hg E ah a) 11000 v) (fun e => WP E c 230 10 [a0, a1] st (hs E ah a e) Q) := wp_putf i230_7
theorem i230_10 : insAt 230 10 = some (.iload 1, 11) := by decide +kernel
theorem r230_10 {E : aEnv} {c : Nat} {ah : aHp} {st : List Value} {Q : Option Value → aHp → Prop} {a0 : Option Value} {x : Int32} : WP E c 230 10 [a0, some (.int x)] (st) ah Q = WP E c 230 11 [a0, some (.int x)] (.int x :: st) ah Q := wp_s i230_10 rfl rfl rfl rfl
theorem i230_11 : insAt 230 11 = some (.i2l, 12) := by decide +kernel
theorem r230_11 {E : aEnv} {c : Nat} {ah : aHp} {st : List Value} {Q : Option Value → aHp → Prop} {a0 a1 : Option Value} {x : Int32} : WP E c 230 11 [a0, a1] (.int x :: st) ah Q = WP E c 230 12 [a0, a1] (.long x.toInt64 :: st) ah Q := wp_s i230_11 rfl rfl rfl rfl
theorem i230_12 : insAt 230 12 = some (.jsr_w 0, 13) := by decide +kernel
theorem r230_12 {E : aEnv} {c : Nat} {ah : aHp} {st : List Value} {Q : Option Value → aHp → Prop} {a0 a1 : Option Value} : WP E c 230 12 [a0, a1] (st) ah Q = WP E c 230 13 [a0, a1] (.long (0) :: st) ah Q := wp_s i230_12 rfl rfl rfl rfl
theorem i230_13 : insAt 230 13 = some (.jsr_w 3, 16) := by decide +kernel
theorem r230_13 {E : aEnv} {c : Nat} {ah : aHp} {st : List Value} {Q : Option Value → aHp → Prop} {a0 a1 : Option Value} : WP E c 230 13 [a0, a1] (st) ah Q = WP E c 230 16 [a0, a1] (.long (3) :: st) ah Q := wp_s i230_13 rfl rfl rfl rfl
theorem i230_16 : insAt 230 16 = some (.invokestatic 199, 19) := by decide +kernel
theorem r230_16 {E : aEnv} {c : Nat} {ah ah1 : aHp} {r : Option Value} {st : List Value} {Q : Option Value → aHp → Prop} {a0 a1 : Option Value} {p0 : Int64} {p1 : Int64} {p2 : Int64} (h : EV E c 199 [.long p0, .long p1, .long p2] ah r ah1) (h3 : wds st ≤ 8) : WP E (c + 1) 230 16 [a0, a1] (.long p2 :: .long p1 :: .long p0 :: st) ah Q = WP E (c + 1) 230 19 [a0, a1] (r.toList ++ st) ah1 Q := wp_call (As := [.long p0, .long p1, .long p2]) i230_16 (fun _ => rfl) rfl mr199.1 rfl h3 (by rw [mr199.2.1]; exact Nat.le_of_ble_eq_true rfl) h
theorem i230_19 : insAt 230 19 = some (.ifCond .ne 28, 22) := by decide +kernel
theorem r230_19 {E : aEnv} {c : Nat} {ah : aHp} {st : List Value} {Q : Option Value → aHp → Prop} {a0 a1 : Option Value} {x : Int32} : WP E c 230 19 [a0, a1] (.int x :: st) ah Q = if ¬ x = 0 then WP E c 230 28 [a0, a1] st ah Q else WP E c 230 22 [a0, a1] st ah Q := wp_j i230_19 rfl rfl rfl rfl
theorem i230_22 : insAt 230 22 = some (.aload 0, 23) := by decide +kernel
theorem r230_22 {E : aEnv} {c : Nat} {ah : aHp} {st : List Value} {Q : Option Value → aHp → Prop} {a1 : Option Value} {x : Nat} : WP E c 230 22 [some (.ref x), a1] (st) ah Q = WP E c 230 23 [some (.ref x), a1] (.ref x :: st) ah Q := wp_s i230_22 rfl rfl rfl rfl
theorem i230_23 : insAt 230 23 = some (.iconst 5, 24) := by decide +kernel
theorem r230_23 {E : aEnv} {c : Nat} {ah : aHp} {st : List Value} {Q : Option Value → aHp → Prop} {a0 a1 : Option Value} : WP E c 230 23 [a0, a1] (st) ah Q = WP E c 230 24 [a0, a1] (.int (5) :: st) ah Q := wp_s i230_23 rfl rfl rfl rfl
theorem i230_24 : insAt 230 24 = some (.invokevirtual 197, 27) := by decide +kernel
theorem r230_24 {E : aEnv} {c : Nat} {ah ah1 : aHp} {r : Option Value} {st : List Value} {Q : Option Value → aHp → Prop} {a0 a1 : Option Value} {p0 : Nat} {p1 : Int32} (h : EV E c 197 [.ref p0, .int p1] ah r ah1) (h2 : oCI (hg E ah p0) = 11) (h3 : wds st ≤ 8) : WP E (c + 1) 230 24 [a0, a1] (.int p1 :: .ref p0 :: st) ah Q = WP E (c + 1) 230 27 [a0, a1] (r.toList ++ st) ah1 Q := wp_call (As := [.ref p0, .int p1]) i230_24 (fun _ => rfl) rfl mr197.1 (rcv_1 h2 mr197.2.2 (by decide)) h3 (by rw [mr197.2.1]; exact Nat.le_of_ble_eq_true rfl) h
theorem i230_27 : insAt 230 27 = some (.ireturn, 28) := by decide +kernel
theorem r230_27 {E : aEnv} {c : Nat} {ah : aHp} {Q : Option Value → aHp → Prop} {a0 a1 : Option Value} {x : Int32} : WP E c 230 27 [a0, a1] ([.int x]) ah Q = Q (some (.int x)) ah := wp_rt i230_27 rfl
theorem i230_28 : insAt 230 28 = some (.aload 0, 29) := by decide +kernel
theorem r230_28 {E : aEnv} {c : Nat} {ah : aHp} {st : List Value} {Q : Option Value → aHp → Prop} {a1 : Option Value} {x : Nat} : WP E c 230 28 [some (.ref x), a1] (st) ah Q = WP E c 230 29 [some (.ref x), a1] (.ref x :: st) ah Q := wp_s i230_28 rfl rfl rfl rfl
theorem i230_29 : insAt 230 29 = some (.getfield 11220, 32) := by decide +kernel
theorem r230_29 {E : aEnv} {c : Nat} {ah : aHp} {st : List Value} {Q : Option Value → aHp → Prop} {a0 a1 : Option Value} {a : Nat} : WP E c 230 29 [a0, a1] (.ref a :: st) ah Q = WPo (oGF (hg E ah a) 11 22) (fun v => WP E c 230 32 [a0, a1] (v :: st) ah Q) := wp_getf i230_29
theorem i230_32 : insAt 230 32 = some (.ifCond .ge 42, 35) := by decide +kernel
theorem r230_32 {E : aEnv} {c : Nat} {ah : aHp} {st : List Value} {Q : Option Value → aHp → Prop} {a0 a1 : Option Value} {x : Int32} : WP E c 230 32 [a0, a1] (.int x :: st) ah Q = if 0 ≤ x then WP E c 230 42 [a0, a1] st ah Q else WP E c 230 35 [a0, a1] st ah Q := wp_j i230_32 rfl rfl rfl rfl
theorem i230_35 : insAt 230 35 = some (.aload 0, 36) := by decide +kernel
theorem r230_35 {E : aEnv} {c : Nat} {ah : aHp} {st : List Value} {Q : Option Value → aHp → Prop} {a1 : Option Value} {x : Nat} : WP E c 230 35 [some (.ref x), a1] (st) ah Q = WP E c 230 36 [some (.ref x), a1] (.ref x :: st) ah Q := wp_s i230_35 rfl rfl rfl rfl
theorem i230_36 : insAt 230 36 = some (.iconst 8, 38) := by decide +kernel
theorem r230_36 {E : aEnv} {c : Nat} {ah : aHp} {st : List Value} {Q : Option Value → aHp → Prop} {a0 a1 : Option Value} : WP E c 230 36 [a0, a1] (st) ah Q = WP E c 230 38 [a0, a1] (.int (8) :: st) ah Q := wp_s i230_36 rfl rfl rfl rfl
theorem i230_38 : insAt 230 38 = some (.invokevirtual 197, 41) := by decide +kernel
theorem r230_38 {E : aEnv} {c : Nat} {ah ah1 : aHp} {r : Option Value} {st : List Value} {Q : Option Value → aHp → Prop} {a0 a1 : Option Value} {p0 : Nat} {p1 : Int32} (h : EV E c 197 [.ref p0, .int p1] ah r ah1) (h2 : oCI (hg E ah p0) = 11) (h3 : wds st ≤ 8) : WP E (c + 1) 230 38 [a0, a1] (.int p1 :: .ref p0 :: st) ah Q = WP E (c + 1) 230 41 [a0, a1] (r.toList ++ st) ah1 Q := wp_call (As := [.ref p0, .int p1]) i230_38 (fun _ => rfl) rfl mr197.1 (rcv_1 h2 mr197.2.2 (by decide)) h3 (by rw [mr197.2.1]; exact Nat.le_of_ble_eq_true rfl) h
theorem i230_41 : insAt 230 41 = some (.ireturn, 42) := by decide +kernel
theorem r230_41 {E : aEnv} {c : Nat} {ah : aHp} {Q : Option Value → aHp → Prop} {a0 a1 : Option Value} {x : Int32} : WP E c 230 41 [a0, a1] ([.int x]) ah Q = Q (some (.int x)) ah := wp_rt i230_41 rfl
theorem i230_42 : insAt 230 42 = some (.iload 1, 43) := by decide +kernel
theorem r230_42 {E : aEnv} {c : Nat} {ah : aHp} {st : List Value} {Q : Option Value → aHp → Prop} {a0 : Option Value} {x : Int32} : WP E c 230 42 [a0, some (.int x)] (st) ah Q = WP E c 230 43 [a0, some (.int x)] (.int x :: st) ah Q := wp_s i230_42 rfl rfl rfl rfl
theorem i230_43 : insAt 230 43 = some (.ifCond .ne 53, 46) := by decide +kernel
theorem r230_43 {E : aEnv} {c : Nat} {ah : aHp} {st : List Value} {Q : Option Value → aHp → Prop} {a0 a1 : Option Value} {x : Int32} : WP E c 230 43 [a0, a1] (.int x :: st) ah Q = if ¬ x = 0 then WP E c 230 53 [a0, a1] st ah Q else WP E c 230 46 [a0, a1] st ah Q := wp_j i230_43 rfl rfl rfl rfl
theorem i230_46 : insAt 230 46 = some (.aload 0, 47) := by decide +kernel
theorem r230_46 {E : aEnv} {c : Nat} {ah : aHp} {st : List Value} {Q : Option Value → aHp → Prop} {a1 : Option Value} {x : Nat} : WP E c 230 46 [some (.ref x), a1] (st) ah Q = WP E c 230 47 [some (.ref x), a1] (.ref x :: st) ah Q := wp_s i230_46 rfl rfl rfl rfl
theorem i230_47 : insAt 230 47 = some (.getfield 11220, 50) := by decide +kernel
theorem r230_47 {E : aEnv} {c : Nat} {ah : aHp} {st : List Value} {Q : Option Value → aHp → Prop} {a0 a1 : Option Value} {a : Nat} : WP E c 230 47 [a0, a1] (.ref a :: st) ah Q = WPo (oGF (hg E ah a) 11 22) (fun v => WP E c 230 50 [a0, a1] (v :: st) ah Q) := wp_getf i230_47
theorem i230_50 : insAt 230 50 = some (.goto 81, 53) := by decide +kernel
theorem r230_50 {E : aEnv} {c : Nat} {ah : aHp} {st : List Value} {Q : Option Value → aHp → Prop} {a0 a1 : Option Value} : WP E c 230 50 [a0, a1] (st) ah Q = WP E c 230 81 [a0, a1] st ah Q := wp_s i230_50 rfl rfl rfl rfl
theorem i230_53 : insAt 230 53 = some (.iload 1, 54) := by decide +kernel
theorem r230_53 {E : aEnv} {c : Nat} {ah : aHp} {st : List Value} {Q : Option Value → aHp → Prop} {a0 : Option Value} {x : Int32} : WP E c 230 53 [a0, some (.int x)] (st) ah Q = WP E c 230 54 [a0, some (.int x)] (.int x :: st) ah Q := wp_s i230_53 rfl rfl rfl rfl
theorem i230_54 : insAt 230 54 = some (.iconst 1, 55) := by decide +kernel
theorem r230_54 {E : aEnv} {c : Nat} {ah : aHp} {st : List Value} {Q : Option Value → aHp → Prop} {a0 a1 : Option Value} : WP E c 230 54 [a0, a1] (st) ah Q = WP E c 230 55 [a0, a1] (.int (1) :: st) ah Q := wp_s i230_54 rfl rfl rfl rfl
theorem i230_55 : insAt 230 55 = some (.if_icmp .ne 65, 58) := by decide +kernel
theorem r230_55 {E : aEnv} {c : Nat} {ah : aHp} {st : List Value} {Q : Option Value → aHp → Prop} {a0 a1 : Option Value} {x y : Int32} : WP E c 230 55 [a0, a1] (.int y :: .int x :: st) ah Q = if ¬ x = y then WP E c 230 65 [a0, a1] st ah Q else WP E c 230 58 [a0, a1] st ah Q := wp_j i230_55 rfl rfl rfl rfl
theorem i230_58 : insAt 230 58 = some (.aload 0, 59) := by decide +kernel
theorem r230_58 {E : aEnv} {c : Nat} {ah : aHp} {st : List Value} {Q : Option Value → aHp → Prop} {a1 : Option Value} {x : Nat} : WP E c 230 58 [some (.ref x), a1] (st) ah Q = WP E c 230 59 [some (.ref x), a1] (.ref x :: st) ah Q := wp_s i230_58 rfl rfl rfl rfl
theorem i230_59 : insAt 230 59 = some (.getfield 11230, 62) := by decide +kernel
theorem r230_59 {E : aEnv} {c : Nat} {ah : aHp} {st : List Value} {Q : Option Value → aHp → Prop} {a0 a1 : Option Value} {a : Nat} : WP E c 230 59 [a0, a1] (.ref a :: st) ah Q = WPo (oGF (hg E ah a) 11 23) (fun v => WP E c 230 62 [a0, a1] (v :: st) ah Q) := wp_getf i230_59
theorem i230_62 : insAt 230 62 = some (.goto 81, 65) := by decide +kernel
theorem r230_62 {E : aEnv} {c : Nat} {ah : aHp} {st : List Value} {Q : Option Value → aHp → Prop} {a0 a1 : Option Value} : WP E c 230 62 [a0, a1] (st) ah Q = WP E c 230 81 [a0, a1] st ah Q := wp_s i230_62 rfl rfl rfl rfl
theorem i230_65 : insAt 230 65 = some (.iload 1, 66) := by decide +kernel
theorem r230_65 {E : aEnv} {c : Nat} {ah : aHp} {st : List Value} {Q : Option Value → aHp → Prop} {a0 : Option Value} {x : Int32} : WP E c 230 65 [a0, some (.int x)] (st) ah Q = WP E c 230 66 [a0, some (.int x)] (.int x :: st) ah Q := wp_s i230_65 rfl rfl rfl rfl
theorem i230_66 : insAt 230 66 = some (.iconst 2, 67) := by decide +kernel
theorem r230_66 {E : aEnv} {c : Nat} {ah : aHp} {st : List Value} {Q : Option Value → aHp → Prop} {a0 a1 : Option Value} : WP E c 230 66 [a0, a1] (st) ah Q = WP E c 230 67 [a0, a1] (.int (2) :: st) ah Q := wp_s i230_66 rfl rfl rfl rfl
theorem i230_67 : insAt 230 67 = some (.if_icmp .ne 77, 70) := by decide +kernel
theorem r230_67 {E : aEnv} {c : Nat} {ah : aHp} {st : List Value} {Q : Option Value → aHp → Prop} {a0 a1 : Option Value} {x y : Int32} : WP E c 230 67 [a0, a1] (.int y :: .int x :: st) ah Q = if ¬ x = y then WP E c 230 77 [a0, a1] st ah Q else WP E c 230 70 [a0, a1] st ah Q := wp_j i230_67 rfl rfl rfl rfl
theorem i230_70 : insAt 230 70 = some (.aload 0, 71) := by decide +kernel
theorem r230_70 {E : aEnv} {c : Nat} {ah : aHp} {st : List Value} {Q : Option Value → aHp → Prop} {a1 : Option Value} {x : Nat} : WP E c 230 70 [some (.ref x), a1] (st) ah Q = WP E c 230 71 [some (.ref x), a1] (.ref x :: st) ah Q := wp_s i230_70 rfl rfl rfl rfl
theorem i230_71 : insAt 230 71 = some (.getfield 11240, 74) := by decide +kernel
theorem r230_71 {E : aEnv} {c : Nat} {ah : aHp} {st : List Value} {Q : Option Value → aHp → Prop} {a0 a1 : Option Value} {a : Nat} : WP E c 230 71 [a0, a1] (.ref a :: st) ah Q = WPo (oGF (hg E ah a) 11 24) (fun v => WP E c 230 74 [a0, a1] (v :: st) ah Q) := wp_getf i230_71
theorem i230_74 : insAt 230 74 = some (.goto 81, 77) := by decide +kernel
theorem r230_74 {E : aEnv} {c : Nat} {ah : aHp} {st : List Value} {Q : Option Value → aHp → Prop} {a0 a1 : Option Value} : WP E c 230 74 [a0, a1] (st) ah Q = WP E c 230 81 [a0, a1] st ah Q := wp_s i230_74 rfl rfl rfl rfl
theorem i230_77 : insAt 230 77 = some (.aload 0, 78) := by decide +kernel
theorem r230_77 {E : aEnv} {c : Nat} {ah : aHp} {st : List Value} {Q : Option Value → aHp → Prop} {a1 : Option Value} {x : Nat} : WP E c 230 77 [some (.ref x), a1] (st) ah Q = WP E c 230 78 [some (.ref x), a1] (.ref x :: st) ah Q := wp_s i230_77 rfl rfl rfl rfl
theorem i230_78 : insAt 230 78 = some (.getfield 11250, 81) := by decide +kernel
theorem r230_78 {E : aEnv} {c : Nat} {ah : aHp} {st : List Value} {Q : Option Value → aHp → Prop} {a0 a1 : Option Value} {a : Nat} : WP E c 230 78 [a0, a1] (.ref a :: st) ah Q = WPo (oGF (hg E ah a) 11 25) (fun v => WP E c 230 81 [a0, a1] (v :: st) ah Q) := wp_getf i230_78
theorem i230_81 : insAt 230 81 = some (.ireturn, 82) := by decide +kernel
theorem r230_81 {E : aEnv} {c : Nat} {ah : aHp} {Q : Option Value → aHp → Prop} {a0 a1 : Option Value} {x : Int32} : WP E c 230 81 [a0, a1] ([.int x]) ah Q = Q (some (.int x)) ah := wp_rt i230_81 rfl
theorem e231 {E : aEnv} {c : Nat} {ah ahF : aHp} {r : Option Value} {p0 : Int32} (h : WP E c 231 0 [some (.int p0), none, none, none] [] ah (fun r1 x1 => r1 = r ∧ x1 = ahF)) : EV E c 231 [.int p0] ah r ahF := EV.of (by rw [mr231.2.1]; exact h)
theorem i231_0 : insAt 231 0 = some (.jsr_w 1, 1) := by decide +kernel
theorem r231_0 {E : aEnv} {c : Nat} {ah : aHp} {st : List Value} {Q : Option Value → aHp → Prop} {a0 a1 a2 a3 : Option Value} : WP E c 231 0 [a0, a1, a2, a3] (st) ah Q = WP E c 231 1 [a0, a1, a2, a3] (.long (1) :: st) ah Q := wp_s i231_0 rfl rfl rfl rfl
theorem i231_1 : insAt 231 1 = some (.lstore 1, 2) := by decide +kernel
theorem r231_1 {E : aEnv} {c : Nat} {ah : aHp} {st : List Value} {Q : Option Value → aHp → Prop} {a0 a1 a2 a3 : Option Value} {x : Int64} : WP E c 231 1 [a0, a1, a2, a3] (.long x :: st) ah Q = WP E c 231 2 [kil a0, some (.long x), none, a3] (st) ah Q := wp_s i231_1 rfl rfl rfl rfl
theorem i231_2 : insAt 231 2 = some (.iconst 0, 3) := by decide +kernel
theorem r231_2 {E : aEnv} {c : Nat} {ah : aHp} {st : List Value} {Q : Option Value → aHp → Prop} {a0 a1 a2 a3 : Option Value} : WP E c 231 2 [a0, a1, a2, a3] (st) ah Q = WP E c 231 3 [a0, a1, a2, a3] (.int (0) :: st) ah Q := wp_s i231_2 rfl rfl rfl rfl
theorem i231_3 : insAt 231 3 = some (.istore 3, 4) := by decide +kernel
theorem r231_3 {E : aEnv} {c : Nat} {ah : aHp} {st : List Value} {Q : Option Value → aHp → Prop} {a0 a1 a2 a3 : Option Value} {x : Int32} : WP E c 231 3 [a0, a1, a2, a3] (.int x :: st) ah Q = WP E c 231 4 [a0, a1, kil a2, some (.int x)] (st) ah Q := wp_s i231_3 rfl rfl rfl rfl
theorem i231_4 : insAt 231 4 = some (.iload 3, 5) := by decide +kernel
theorem r231_4 {E : aEnv} {c : Nat} {ah : aHp} {st : List Value} {Q : Option Value → aHp → Prop} {a0 a1 a2 : Option Value} {x : Int32} : WP E c 231 4 [a0, a1, a2, some (.int x)] (st) ah Q = WP E c 231 5 [a0, a1, a2, some (.int x)] (.int x :: st) ah Q := wp_s i231_4 rfl rfl rfl rfl
theorem i231_5 : insAt 231 5 = some (.iload 0, 6) := by decide +kernel
theorem r231_5 {E : aEnv} {c : Nat} {ah : aHp} {st : List Value} {Q : Option Value → aHp → Prop} {a1 a2 a3 : Option Value} {x : Int32} : WP E c 231 5 [some (.int x), a1, a2, a3] (st) ah Q = WP E c 231 6 [some (.int x), a1, a2, a3] (.int x :: st) ah Q := wp_s i231_5 rfl rfl rfl rfl
theorem i231_6 : insAt 231 6 = some (.if_icmp .ge 21, 9) := by decide +kernel
theorem r231_6 {E : aEnv} {c : Nat} {ah : aHp} {st : List Value} {Q : Option Value → aHp → Prop} {a0 a1 a2 a3 : Option Value} {x y : Int32} : WP E c 231 6 [a0, a1, a2, a3] (.int y :: .int x :: st) ah Q = if y ≤ x then WP E c 231 21 [a0, a1, a2, a3] st ah Q else WP E c 231 9 [a0, a1, a2, a3] st ah Q := wp_j i231_6 rfl rfl rfl rfl
theorem i231_9 : insAt 231 9 = some (.lload 1, 10) := by decide +kernel
theorem r231_9 {E : aEnv} {c : Nat} {ah : aHp} {st : List Value} {Q : Option Value → aHp → Prop} {a0 a2 a3 : Option Value} {x : Int64} : WP E c 231 9 [a0, some (.long x), a2, a3] (st) ah Q = WP E c 231 10 [a0, some (.long x), a2, a3] (.long x :: st) ah Q := wp_s i231_9 rfl rfl rfl rfl
theorem i231_10 : insAt 231 10 = some (.jsr_w 10, 13) := by decide +kernel
theorem r231_10 {E : aEnv} {c : Nat} {ah : aHp} {st : List Value} {Q : Option Value → aHp → Prop} {a0 a1 a2 a3 : Option Value} : WP E c 231 10 [a0, a1, a2, a3] (st) ah Q = WP E c 231 13 [a0, a1, a2, a3] (.long (10) :: st) ah Q := wp_s i231_10 rfl rfl rfl rfl
theorem i231_13 : insAt 231 13 = some (.lmul, 14) := by decide +kernel
theorem r231_13 {E : aEnv} {c : Nat} {ah : aHp} {st : List Value} {Q : Option Value → aHp → Prop} {a0 a1 a2 a3 : Option Value} {x y : Int64} : WP E c 231 13 [a0, a1, a2, a3] (.long y :: .long x :: st) ah Q = WP E c 231 14 [a0, a1, a2, a3] (.long (x * y) :: st) ah Q := wp_s i231_13 rfl rfl rfl rfl
theorem i231_14 : insAt 231 14 = some (.lstore 1, 15) := by decide +kernel
theorem r231_14 {E : aEnv} {c : Nat} {ah : aHp} {st : List Value} {Q : Option Value → aHp → Prop} {a0 a1 a2 a3 : Option Value} {x : Int64} : WP E c 231 14 [a0, a1, a2, a3] (.long x :: st) ah Q = WP E c 231 15 [kil a0, some (.long x), none, a3] (st) ah Q := wp_s i231_14 rfl rfl rfl rfl
theorem i231_15 : insAt 231 15 = some (.iinc 3 1, 18) := by decide +kernel
theorem r231_15 {E : aEnv} {c : Nat} {ah : aHp} {st : List Value} {Q : Option Value → aHp → Prop} {a0 a1 a2 : Option Value} {x : Int32} : WP E c 231 15 [a0, a1, a2, some (.int x)] (st) ah Q = WP E c 231 18 [a0, a1, kil a2, some (.int (x + 1))] (st) ah Q := wp_s i231_15 rfl rfl rfl rfl
theorem i231_18 : insAt 231 18 = some (.goto 4, 21) := by decide +kernel
theorem r231_18 {E : aEnv} {c : Nat} {ah : aHp} {st : List Value} {Q : Option Value → aHp → Prop} {a0 a1 a2 a3 : Option Value} : WP E c 231 18 [a0, a1, a2, a3] (st) ah Q = WP E c 231 4 [a0, a1, a2, a3] st ah Q := wp_s i231_18 rfl rfl rfl rfl
theorem i231_21 : insAt 231 21 = some (.lload 1, 22) := by decide +kernel
theorem r231_21 {E : aEnv} {c : Nat} {ah : aHp} {st : List Value} {Q : Option Value → aHp → Prop} {a0 a2 a3 : Option Value} {x : Int64} : WP E c 231 21 [a0, some (.long x), a2, a3] (st) ah Q = WP E c 231 22 [a0, some (.long x), a2, a3] (.long x :: st) ah Q := wp_s i231_21 rfl rfl rfl rfl
theorem i231_22 : insAt 231 22 = some (.lreturn, 23) := by decide +kernel
theorem r231_22 {E : aEnv} {c : Nat} {ah : aHp} {Q : Option Value → aHp → Prop} {a0 a1 a2 a3 : Option Value} {x : Int64} : WP E c 231 22 [a0, a1, a2, a3] ([.long x]) ah Q = Q (some (.long x)) ah := wp_rt i231_22 rfl
theorem e232 {E : aEnv} {c : Nat} {ah ahF : aHp} {r : Option Value} {p0 : Int64} {p1 : Int64} (h : WP E c 232 0 [some (.long p0), none, some (.long p1), none] [] ah (fun r1 x1 => r1 = r ∧ x1 = ahF)) : EV E c 232 [.long p0, .long p1] ah r ahF := EV.of (by rw [mr232.2.1]; exact h)
theorem i232_0 : insAt 232 0 = some (.jsr_w 2, 3) := by decide +kernel
theorem r232_0 {E : aEnv} {c : Nat} {ah : aHp} {st : List Value} {Q : Option Value → aHp → Prop} {a0 a1 a2 a3 : Option Value} : WP E c 232 0 [a0, a1, a2, a3] (st) ah Q = WP E c 232 3 [a0, a1, a2, a3] (.long (2) :: st) ah Q := wp_s i232_0 rfl rfl rfl rfl
theorem i232_3 : insAt 232 3 = some (.lload 0, 4) := by decide +kernel
theorem r232_3 {E : aEnv} {c : Nat} {ah : aHp} {st : List Value} {Q : Option Value → aHp → Prop} {a1 a2 a3 : Option Value} {x : Int64} : WP E c 232 3 [some (.long x), a1, a2, a3] (st) ah Q = WP E c 232 4 [some (.long x), a1, a2, a3] (.long x :: st) ah Q := wp_s i232_3 rfl rfl rfl rfl
theorem i232_4 : insAt 232 4 = some (.lmul, 5) := by decide +kernel
theorem r232_4 {E : aEnv} {c : Nat} {ah : aHp} {st : List Value} {Q : Option Value → aHp → Prop} {a0 a1 a2 a3 : Option Value} {x y : Int64} : WP E c 232 4 [a0, a1, a2, a3] (.long y :: .long x :: st) ah Q = WP E c 232 5 [a0, a1, a2, a3] (.long (x * y) :: st) ah Q := wp_s i232_4 rfl rfl rfl rfl
theorem i232_5 : insAt 232 5 = some (.lload 2, 6) := by decide +kernel
theorem r232_5 {E : aEnv} {c : Nat} {ah : aHp} {st : List Value} {Q : Option Value → aHp → Prop} {a0 a1 a3 : Option Value} {x : Int64} : WP E c 232 5 [a0, a1, some (.long x), a3] (st) ah Q = WP E c 232 6 [a0, a1, some (.long x), a3] (.long x :: st) ah Q := wp_s i232_5 rfl rfl rfl rfl
theorem i232_6 : insAt 232 6 = some (.ladd, 7) := by decide +kernel
theorem r232_6 {E : aEnv} {c : Nat} {ah : aHp} {st : List Value} {Q : Option Value → aHp → Prop} {a0 a1 a2 a3 : Option Value} {x y : Int64} : WP E c 232 6 [a0, a1, a2, a3] (.long y :: .long x :: st) ah Q = WP E c 232 7 [a0, a1, a2, a3] (.long (x + y) :: st) ah Q := wp_s i232_6 rfl rfl rfl rfl
theorem i232_7 : insAt 232 7 = some (.jsr_w 2, 10) := by decide +kernel
theorem r232_7 {E : aEnv} {c : Nat} {ah : aHp} {st : List Value} {Q : Option Value → aHp → Prop} {a0 a1 a2 a3 : Option Value} : WP E c 232 7 [a0, a1, a2, a3] (st) ah Q = WP E c 232 10 [a0, a1, a2, a3] (.long (2) :: st) ah Q := wp_s i232_7 rfl rfl rfl rfl
theorem i232_10 : insAt 232 10 = some (.lload 2, 11) := by decide +kernel
theorem r232_10 {E : aEnv} {c : Nat} {ah : aHp} {st : List Value} {Q : Option Value → aHp → Prop} {a0 a1 a3 : Option Value} {x : Int64} : WP E c 232 10 [a0, a1, some (.long x), a3] (st) ah Q = WP E c 232 11 [a0, a1, some (.long x), a3] (.long x :: st) ah Q := wp_s i232_10 rfl rfl rfl rfl
theorem i232_11 : insAt 232 11 = some (.lmul, 12) := by decide +kernel
theorem r232_11 {E : aEnv} {c : Nat} {ah : aHp} {st : List Value} {Q : Option Value → aHp → Prop} {a0 a1 a2 a3 : Option Value} {x y : Int64} : WP E c 232 11 [a0, a1, a2, a3] (.long y :: .long x :: st) ah Q = WP E c 232 12 [a0, a1, a2, a3] (.long (x * y) :: st) ah Q := wp_s i232_11 rfl rfl rfl rfl
theorem i232_12 : insAt 232 12 = some (.invokestatic 289, 15) := by decide +kernel
theorem r232_12 {E : aEnv} {c : Nat} {ah ah1 : aHp} {r : Option Value} {st : List Value} {Q : Option Value → aHp → Prop} {a0 a1 a2 a3 : Option Value} {p0 : Int64} {p1 : Int64} (h : EV E c 289 [.long p0, .long p1] ah r ah1) (h3 : wds st ≤ 8) : WP E (c + 1) 232 12 [a0, a1, a2, a3] (.long p1 :: .long p0 :: st) ah Q = WP E (c + 1) 232 15 [a0, a1, a2, a3] (r.toList ++ st) ah1 Q := wp_call (As := [.long p0, .long p1]) i232_12 (fun _ => rfl) rfl mr289.1 rfl h3 (by rw [mr289.2.1]; exact Nat.le_of_ble_eq_true rfl) h
theorem i232_15 : insAt 232 15 = some (.lreturn, 16) := by decide +kernel
theorem r232_15 {E : aEnv} {c : Nat} {ah : aHp} {Q : Option Value → aHp → Prop} {a0 a1 a2 a3 : Option Value} {x : Int64} : WP E c 232 15 [a0, a1, a2, a3] ([.long x]) ah Q = Q (some (.long x)) ah := wp_rt i232_15 rfl
theorem e233 {E : aEnv} {c : Nat} {ah ahF : aHp} {r : Option Value} {p0 : Nat} {p1 : Int32} {p2 : Int32} {p3 : Int32} (h : WP E c 233 0 [some (.ref p0), some (.int p1), some (.int p2), some (.int p3), none, none, none, none, none, none, none, none, none] [] ah (fun r1 x1 => r1 = r ∧ x1 = ahF)) : EV E c 233 [.ref p0, .int p1, .int p2, .int p3] ah r ahF := EV.of (by rw [mr233.2.1]; exact h)
theorem i233_0 : insAt 233 0 = some (.jsr_w 0, 1) := by decide +kernel
theorem r233_0 {E : aEnv} {c : Nat} {ah : aHp} {st : List Value} {Q : Option Value → aHp → Prop} {a0 a1 a2 a3 a4 a5 a6 a7 a8 a9 a10 a11 a12 : Option Value} : WP E c 233 0 [a0, a1, a2, a3, a4, a5, a6, a7, a8, a9, a10, a11, a12] (st) ah Q = WP E c 233 1 [a0, a1, a2, a3, a4, a5, a6, a7, a8, a9, a10, a11, a12] (.long (0) :: st) ah Q := wp_s i233_0 rfl rfl rfl rfl
theorem i233_1 : insAt 233 1 = some (.lstore 4, 3) := by decide +kernel
theorem r233_1 {E : aEnv} {c : Nat} {ah : aHp} {st : List Value} {Q : Option Value → aHp → Prop} {a0 a1 a2 a3 a4 a5 a6 a7 a8 a9 a10 a11 a12 : Option Value} {x : Int64} : WP E c 233 1 [a0, a1, a2, a3, a4, a5, a6, a7, a8, a9, a10, a11, a12] (.long x :: st) ah Q = WP E c 233 3 [a0, a1, a2, kil a3, some (.long x), none, a6, a7, a8, a9, a10, a11, a12] (st) ah Q := wp_s i233_1 rfl rfl rfl rfl
theorem i233_3 : insAt 233 3 = some (.jsr_w 1, 4) := by decide +kernel
theorem r233_3 {E : aEnv} {c : Nat} {ah : aHp} {st : List Value} {Q : Option Value → aHp → Prop} {a0 a1 a2 a3 a4 a5 a6 a7 a8 a9 a10 a11 a12 : Option Value} : WP E c 233 3 [a0, a1, a2, a3, a4, a5, a6, a7, a8, a9, a10, a11, a12] (st) ah Q = WP E c 233 4 [a0, a1, a2, a3, a4, a5, a6, a7, a8, a9, a10, a11, a12] (.long (1) :: st) ah Q := wp_s i233_3 rfl rfl rfl rfl
theorem i233_4 : insAt 233 4 = some (.lstore 6, 6) := by decide +kernel
theorem r233_4 {E : aEnv} {c : Nat} {ah : aHp} {st : List Value} {Q : Option Value → aHp → Prop} {a0 a1 a2 a3 a4 a5 a6 a7 a8 a9 a10 a11 a12 : Option Value} {x : Int64} : WP E c 233 4 [a0, a1, a2, a3, a4, a5, a6, a7, a8, a9, a10, a11, a12] (.long x :: st) ah Q = WP E c 233 6 [a0, a1, a2, a3, a4, kil a5, some (.long x), none, a8, a9, a10, a11, a12] (st) ah Q := wp_s i233_4 rfl rfl rfl rfl
theorem i233_6 : insAt 233 6 = some (.jsr_w 1, 7) := by decide +kernel
theorem r233_6 {E : aEnv} {c : Nat} {ah : aHp} {st : List Value} {Q : Option Value → aHp → Prop} {a0 a1 a2 a3 a4 a5 a6 a7 a8 a9 a10 a11 a12 : Option Value} : WP E c 233 6 [a0, a1, a2, a3, a4, a5, a6, a7, a8, a9, a10, a11, a12] (st) ah Q = WP E c 233 7 [a0, a1, a2, a3, a4, a5, a6, a7, a8, a9, a10, a11, a12] (.long (1) :: st) ah Q := wp_s i233_6 rfl rfl rfl rfl
theorem i233_7 : insAt 233 7 = some (.lstore 8, 9) := by decide +kernel
theorem r233_7 {E : aEnv} {c : Nat} {ah : aHp} {st : List Value} {Q : Option Value → aHp → Prop} {a0 a1 a2 a3 a4 a5 a6 a7 a8 a9 a10 a11 a12 : Option Value} {x : Int64} : WP E c 233 7 [a0, a1, a2, a3, a4, a5, a6, a7, a8, a9, a10, a11, a12] (.long x :: st) ah Q = WP E c 233 9 [a0, a1, a2, a3, a4, a5, a6, kil a7, some (.long x), none, a10, a11, a12] (st) ah Q := wp_s i233_7 rfl rfl rfl rfl
theorem i233_9 : insAt 233 9 = some (.iconst 0, 10) := by decide +kernel
theorem r233_9 {E : aEnv} {c : Nat} {ah : aHp} {st : List Value} {Q : Option Value → aHp → Prop} {a0 a1 a2 a3 a4 a5 a6 a7 a8 a9 a10 a11 a12 : Option Value} : WP E c 233 9 [a0, a1, a2, a3, a4, a5, a6, a7, a8, a9, a10, a11, a12] (st) ah Q = WP E c 233 10 [a0, a1, a2, a3, a4, a5, a6, a7, a8, a9, a10, a11, a12] (.int (0) :: st) ah Q := wp_s i233_9 rfl rfl rfl rfl
theorem i233_10 : insAt 233 10 = some (.istore 10, 12) := by decide +kernel
theorem r233_10 {E : aEnv} {c : Nat} {ah : aHp} {st : List Value} {Q : Option Value → aHp → Prop} {a0 a1 a2 a3 a4 a5 a6 a7 a8 a9 a10 a11 a12 : Option Value} {x : Int32} : WP E c 233 10 [a0, a1, a2, a3, a4, a5, a6, a7, a8, a9, a10, a11, a12] (.int x :: st) ah Q = WP E c 233 12 [a0, a1, a2, a3, a4, a5, a6, a7, a8, kil a9, some (.int x), a11, a12] (st) ah Q := wp_s i233_10 rfl rfl rfl rfl
theorem i233_12 : insAt 233 12 = some (.iload 10, 14) := by decide +kernel
theorem r233_12 {E : aEnv} {c : Nat} {ah : aHp} {st : List Value} {Q : Option Value → aHp → Prop} {a0 a1 a2 a3 a4 a5 a6 a7 a8 a9 a11 a12 : Option Value} {x : Int32} : WP E c 233 12 [a0, a1, a2, a3, a4, a5, a6, a7, a8, a9, some (.int x), a11, a12] (st) ah Q = WP E c 233 14 [a0, a1, a2, a3, a4, a5, a6, a7, a8, a9, some (.int x), a11, a12] (.int x :: st) ah Q := wp_s i233_12 rfl rfl rfl rfl
theorem i233_14 : insAt 233 14 = some (.iload 1, 15) := by decide +kernel
theorem r233_14 {E : aEnv} {c : Nat} {ah : aHp} {st : List Value} {Q : Option Value → aHp → Prop} {a0 a2 a3 a4 a5 a6 a7 a8 a9 a10 a11 a12 : Option Value} {x : Int32} : WP E c 233 14 [a0, some (.int x), a2, a3, a4, a5, a6, a7, a8, a9, a10, a11, a12] (st) ah Q = WP E c 233 15 [a0, some (.int x), a2, a3, a4, a5, a6, a7, a8, a9, a10, a11, a12] (.int x :: st) ah Q := wp_s i233_14 rfl rfl rfl rfl
theorem i233_15 : insAt 233 15 = some (.if_icmp .ge 37, 18) := by decide +kernel
theorem r233_15 {E : aEnv} {c : Nat} {ah : aHp} {st : List Value} {Q : Option Value → aHp → Prop} {a0 a1 a2 a3 a4 a5 a6 a7 a8 a9 a10 a11 a12 : Option Value} {x y : Int32} : WP E c 233 15 [a0, a1, a2, a3, a4, a5, a6, a7, a8, a9, a10, a11, a12] (.int y :: .int x :: st) ah Q = if y ≤ x then WP E c 233 37 [a0, a1, a2, a3, a4, a5, a6, a7, a8, a9, a10, a11, a12] st ah Q else WP E c 233 18 [a0, a1, a2, a3, a4, a5, a6, a7, a8, a9, a10, a11, a12] st ah Q := wp_j i233_15 rfl rfl rfl rfl
theorem i233_18 : insAt 233 18 = some (.lload 8, 20) := by decide +kernel
theorem r233_18 {E : aEnv} {c : Nat} {ah : aHp} {st : List Value} {Q : Option Value → aHp → Prop} {a0 a1 a2 a3 a4 a5 a6 a7 a9 a10 a11 a12 : Option Value} {x : Int64} : WP E c 233 18 [a0, a1, a2, a3, a4, a5, a6, a7, some (.long x), a9, a10, a11, a12] (st) ah Q = WP E c 233 20 [a0, a1, a2, a3, a4, a5, a6, a7, some (.long x), a9, a10, a11, a12] (.long x :: st) ah Q := wp_s i233_18 rfl rfl rfl rfl
theorem i233_20 : insAt 233 20 = some (.iload 2, 21) := by decide +kernel
theorem r233_20 {E : aEnv} {c : Nat} {ah : aHp} {st : List Value} {Q : Option Value → aHp → Prop} {a0 a1 a3 a4 a5 a6 a7 a8 a9 a10 a11 a12 : Option Value} {x : Int32} : WP E c 233 20 [a0, a1, some (.int x), a3, a4, a5, a6, a7, a8, a9, a10, a11, a12] (st) ah Q = WP E c 233 21 [a0, a1, some (.int x), a3, a4, a5, a6, a7, a8, a9, a10, a11, a12] (.int x :: st) ah Q := wp_s i233_20 rfl rfl rfl rfl
theorem i233_21 : insAt 233 21 = some (.i2l, 22) := by decide +kernel
theorem r233_21 {E : aEnv} {c : Nat} {ah : aHp} {st : List Value} {Q : Option Value → aHp → Prop} {a0 a1 a2 a3 a4 a5 a6 a7 a8 a9 a10 a11 a12 : Option Value} {x : Int32} : WP E c 233 21 [a0, a1, a2, a3, a4, a5, a6, a7, a8, a9, a10, a11, a12] (.int x :: st) ah Q = WP E c 233 22 [a0, a1, a2, a3, a4, a5, a6, a7, a8, a9, a10, a11, a12] (.long x.toInt64 :: st) ah Q := wp_s i233_21 rfl rfl rfl rfl
theorem i233_22 : insAt 233 22 = some (.iload 10, 24) := by decide +kernel
theorem r233_22 {E : aEnv} {c : Nat} {ah : aHp} {st : List Value} {Q : Option Value → aHp → Prop} {a0 a1 a2 a3 a4 a5 a6 a7 a8 a9 a11 a12 : Option Value} {x : Int32} : WP E c 233 22 [a0, a1, a2, a3, a4, a5, a6, a7, a8, a9, some (.int x), a11, a12] (st) ah Q = WP E c 233 24 [a0, a1, a2, a3, a4, a5, a6, a7, a8, a9, some (.int x), a11, a12] (.int x :: st) ah Q := wp_s i233_22 rfl rfl rfl rfl
theorem i233_24 : insAt 233 24 = some (.iconst 1, 25) := by decide +kernel
theorem r233_24 {E : aEnv} {c : Nat} {ah : aHp} {st : List Value} {Q : Option Value → aHp → Prop} {a0 a1 a2 a3 a4 a5 a6 a7 a8 a9 a10 a11 a12 : Option Value} : WP E c 233 24 [a0, a1, a2, a3, a4, a5, a6, a7, a8, a9, a10, a11, a12] (st) ah Q = WP E c 233 25 [a0, a1, a2, a3, a4, a5, a6, a7, a8, a9, a10, a11, a12] (.int (1) :: st) ah Q := wp_s i233_24 rfl rfl rfl rfl
theorem i233_25 : insAt 233 25 = some (.iadd, 26) := by decide +kernel
theorem r233_25 {E : aEnv} {c : Nat} {ah : aHp} {st : List Value} {Q : Option Value → aHp → Prop} {a0 a1 a2 a3 a4 a5 a6 a7 a8 a9 a10 a11 a12 : Option Value} {x y : Int32} : WP E c 233 25 [a0, a1, a2, a3, a4, a5, a6, a7, a8, a9, a10, a11, a12] (.int y :: .int x :: st) ah Q = WP E c 233 26 [a0, a1, a2, a3, a4, a5, a6, a7, a8, a9, a10, a11, a12] (.int (x + y) :: st) ah Q := wp_s i233_25 rfl rfl rfl rfl
theorem i233_26 : insAt 233 26 = some (.i2l, 27) := by decide +kernel
theorem r233_26 {E : aEnv} {c : Nat} {ah : aHp} {st : List Value} {Q : Option Value → aHp → Prop} {a0 a1 a2 a3 a4 a5 a6 a7 a8 a9 a10 a11 a12 : Option Value} {x : Int32} : WP E c 233 26 [a0, a1, a2, a3, a4, a5, a6, a7, a8, a9, a10, a11, a12] (.int x :: st) ah Q = WP E c 233 27 [a0, a1, a2, a3, a4, a5, a6, a7, a8, a9, a10, a11, a12] (.long x.toInt64 :: st) ah Q := wp_s i233_26 rfl rfl rfl rfl
theorem i233_27 : insAt 233 27 = some (.lmul, 28) := by decide +kernel
theorem r233_27 {E : aEnv} {c : Nat} {ah : aHp} {st : List Value} {Q : Option Value → aHp → Prop} {a0 a1 a2 a3 a4 a5 a6 a7 a8 a9 a10 a11 a12 : Option Value} {x y : Int64} : WP E c 233 27 [a0, a1, a2, a3, a4, a5, a6, a7, a8, a9, a10, a11, a12] (.long y :: .long x :: st) ah Q = WP E c 233 28 [a0, a1, a2, a3, a4, a5, a6, a7, a8, a9, a10, a11, a12] (.long (x * y) :: st) ah Q := wp_s i233_27 rfl rfl rfl rfl
theorem i233_28 : insAt 233 28 = some (.lmul, 29) := by decide +kernel
theorem r233_28 {E : aEnv} {c : Nat} {ah : aHp} {st : List Value} {Q : Option Value → aHp → Prop} {a0 a1 a2 a3 a4 a5 a6 a7 a8 a9 a10 a11 a12 : Option Value} {x y : Int64} : WP E c 233 28 [a0, a1, a2, a3, a4, a5, a6, a7, a8, a9, a10, a11, a12] (.long y :: .long x :: st) ah Q = WP E c 233 29 [a0, a1, a2, a3, a4, a5, a6, a7, a8, a9, a10, a11, a12] (.long (x * y) :: st) ah Q := wp_s i233_28 rfl rfl rfl rfl
theorem i233_29 : insAt 233 29 = some (.lstore 8, 31) := by decide +kernel
theorem r233_29 {E : aEnv} {c : Nat} {ah : aHp} {st : List Value} {Q : Option Value → aHp → Prop} {a0 a1 a2 a3 a4 a5 a6 a7 a8 a9 a10 a11 a12 : Option Value} {x : Int64} : WP E c 233 29 [a0, a1, a2, a3, a4, a5, a6, a7, a8, a9, a10, a11, a12] (.long x :: st) ah Q = WP E c 233 31 [a0, a1, a2, a3, a4, a5, a6, kil a7, some (.long x), none, a10, a11, a12] (st) ah Q := wp_s i233_29 rfl rfl rfl rfl
theorem i233_31 : insAt 233 31 = some (.iinc 10 1, 34) := by decide +kernel
theorem r233_31 {E : aEnv} {c : Nat} {ah : aHp} {st : List Value} {Q : Option Value → aHp → Prop} {a0 a1 a2 a3 a4 a5 a6 a7 a8 a9 a11 a12 : Option Value} {x : Int32} : WP E c 233 31 [a0, a1, a2, a3, a4, a5, a6, a7, a8, a9, some (.int x), a11, a12] (st) ah Q = WP E c 233 34 [a0, a1, a2, a3, a4, a5, a6, a7, a8, kil a9, some (.int (x + 1)), a11, a12] (st) ah Q := wp_s i233_31 rfl rfl rfl rfl
theorem i233_34 : insAt 233 34 = some (.goto 12, 37) := by decide +kernel
theorem r233_34 {E : aEnv} {c : Nat} {ah : aHp} {st : List Value} {Q : Option Value → aHp → Prop} {a0 a1 a2 a3 a4 a5 a6 a7 a8 a9 a10 a11 a12 : Option Value} : WP E c 233 34 [a0, a1, a2, a3, a4, a5, a6, a7, a8, a9, a10, a11, a12] (st) ah Q = WP E c 233 12 [a0, a1, a2, a3, a4, a5, a6, a7, a8, a9, a10, a11, a12] st ah Q := wp_s i233_34 rfl rfl rfl rfl
theorem i233_37 : insAt 233 37 = some (.lload 8, 39) := by decide +kernel
theorem r233_37 {E : aEnv} {c : Nat} {ah : aHp} {st : List Value} {Q : Option Value → aHp → Prop} {a0 a1 a2 a3 a4 a5 a6 a7 a9 a10 a11 a12 : Option Value} {x : Int64} : WP E c 233 37 [a0, a1, a2, a3, a4, a5, a6, a7, some (.long x), a9, a10, a11, a12] (st) ah Q = WP E c 233 39 [a0, a1, a2, a3, a4, a5, a6, a7, some (.long x), a9, a10, a11, a12] (.long x :: st) ah Q := wp_s i233_37 rfl rfl rfl rfl
theorem i233_39 : insAt 233 39 = some (.lstore 10, 41) := by decide +kernel
theorem r233_39 {E : aEnv} {c : Nat} {ah : aHp} {st : List Value} {Q : Option Value → aHp → Prop} {a0 a1 a2 a3 a4 a5 a6 a7 a8 a9 a10 a11 a12 : Option Value} {x : Int64} : WP E c 233 39 [a0, a1, a2, a3, a4, a5, a6, a7, a8, a9, a10, a11, a12] (.long x :: st) ah Q = WP E c 233 41 [a0, a1, a2, a3, a4, a5, a6, a7, a8, kil a9, some (.long x), none, a12] (st) ah Q := wp_s i233_39 rfl rfl rfl rfl
theorem i233_41 : insAt 233 41 = some (.iconst 0, 42) := by decide +kernel
theorem r233_41 {E : aEnv} {c : Nat} {ah : aHp} {st : List Value} {Q : Option Value → aHp → Prop} {a0 a1 a2 a3 a4 a5 a6 a7 a8 a9 a10 a11 a12 : Option Value} : WP E c 233 41 [a0, a1, a2, a3, a4, a5, a6, a7, a8, a9, a10, a11, a12] (st) ah Q = WP E c 233 42 [a0, a1, a2, a3, a4, a5, a6, a7, a8, a9, a10, a11, a12] (.int (0) :: st) ah Q := wp_s i233_41 rfl rfl rfl rfl
theorem i233_42 : insAt 233 42 = some (.istore 12, 44) := by decide +kernel
theorem r233_42 {E : aEnv} {c : Nat} {ah : aHp} {st : List Value} {Q : Option Value → aHp → Prop} {a0 a1 a2 a3 a4 a5 a6 a7 a8 a9 a10 a11 a12 : Option Value} {x : Int32} : WP E c 233 42 [a0, a1, a2, a3, a4, a5, a6, a7, a8, a9, a10, a11, a12] (.int x :: st) ah Q = WP E c 233 44 [a0, a1, a2, a3, a4, a5, a6, a7, a8, a9, a10, kil a11, some (.int x)] (st) ah Q := wp_s i233_42 rfl rfl rfl rfl
theorem i233_44 : insAt 233 44 = some (.iload 12, 46) := by decide +kernel
theorem r233_44 {E : aEnv} {c : Nat} {ah : aHp} {st : List Value} {Q : Option Value → aHp → Prop} {a0 a1 a2 a3 a4 a5 a6 a7 a8 a9 a10 a11 : Option Value} {x : Int32} : WP E c 233 44 [a0, a1, a2, a3, a4, a5, a6, a7, a8, a9, a10, a11, some (.int x)] (st) ah Q = WP E c 233 46 [a0, a1, a2, a3, a4, a5, a6, a7, a8, a9, a10, a11, some (.int x)] (.int x :: st) ah Q := wp_s i233_44 rfl rfl rfl rfl
theorem i233_46 : insAt 233 46 = some (.iload 1, 47) := by decide +kernel
theorem r233_46 {E : aEnv} {c : Nat} {ah : aHp} {st : List Value} {Q : Option Value → aHp → Prop} {a0 a2 a3 a4 a5 a6 a7 a8 a9 a10 a11 a12 : Option Value} {x : Int32} : WP E c 233 46 [a0, some (.int x), a2, a3, a4, a5, a6, a7, a8, a9, a10, a11, a12] (st) ah Q = WP E c 233 47 [a0, some (.int x), a2, a3, a4, a5, a6, a7, a8, a9, a10, a11, a12] (.int x :: st) ah Q := wp_s i233_46 rfl rfl rfl rfl
theorem i233_47 : insAt 233 47 = some (.if_icmp .gt 112, 50) := by decide +kernel
theorem r233_47 {E : aEnv} {c : Nat} {ah : aHp} {st : List Value} {Q : Option Value → aHp → Prop} {a0 a1 a2 a3 a4 a5 a6 a7 a8 a9 a10 a11 a12 : Option Value} {x y : Int32} : WP E c 233 47 [a0, a1, a2, a3, a4, a5, a6, a7, a8, a9, a10, a11, a12] (.int y :: .int x :: st) ah Q = if y < x then WP E c 233 112 [a0, a1, a2, a3, a4, a5, a6, a7, a8, a9, a10, a11, a12] st ah Q else WP E c 233 50 [a0, a1, a2, a3, a4, a5, a6, a7, a8, a9, a10, a11, a12] st ah Q := wp_j i233_47 rfl rfl rfl rfl
theorem i233_50 : insAt 233 50 = some (.lload 4, 52) := by decide +kernel
theorem r233_50 {E : aEnv} {c : Nat} {ah : aHp} {st : List Value} {Q : Option Value → aHp → Prop} {a0 a1 a2 a3 a5 a6 a7 a8 a9 a10 a11 a12 : Option Value} {x : Int64} : WP E c 233 50 [a0, a1, a2, a3, some (.long x), a5, a6, a7, a8, a9, a10, a11, a12] (st) ah Q = WP E c 233 52 [a0, a1, a2, a3, some (.long x), a5, a6, a7, a8, a9, a10, a11, a12] (.long x :: st) ah Q := wp_s i233_50 rfl rfl rfl rfl
theorem i233_52 : insAt 233 52 = some (.aload 0, 53) := by decide +kernel
theorem r233_52 {E : aEnv} {c : Nat} {ah : aHp} {st : List Value} {Q : Option Value → aHp → Prop} {a1 a2 a3 a4 a5 a6 a7 a8 a9 a10 a11 a12 : Option Value} {x : Nat} : WP E c 233 52 [some (.ref x), a1, a2, a3, a4, a5, a6, a7, a8, a9, a10, a11, a12] (st) ah Q = WP E c 233 53 [some (.ref x), a1, a2, a3, a4, a5, a6, a7, a8, a9, a10, a11, a12] (.ref x :: st) ah Q := wp_s i233_52 rfl rfl rfl rfl
theorem i233_53 : insAt 233 53 = some (.getfield 11962, 56) := by decide +kernel
theorem r233_53 {E : aEnv} {c : Nat} {ah : aHp} {st : List Value} {Q : Option Value → aHp → Prop} {a0 a1 a2 a3 a4 a5 a6 a7 a8 a9 a10 a11 a12 : Option Value} {a : Nat} : WP E c 233 53 [a0, a1, a2, a3, a4, a5, a6, a7, a8, a9, a10, a11, a12] (.ref a :: st) ah Q = WPo (oGF (hg E ah a) 11 96) (fun v => WP E c 233 56 [a0, a1, a2, a3, a4, a5, a6, a7, a8, a9, a10, a11, a12] (v :: st) ah Q) := wp_getf i233_53
theorem i233_56 : insAt 233 56 = some (.iload 12, 58) := by decide +kernel
theorem r233_56 {E : aEnv} {c : Nat} {ah : aHp} {st : List Value} {Q : Option Value → aHp → Prop} {a0 a1 a2 a3 a4 a5 a6 a7 a8 a9 a10 a11 : Option Value} {x : Int32} : WP E c 233 56 [a0, a1, a2, a3, a4, a5, a6, a7, a8, a9, a10, a11, some (.int x)] (st) ah Q = WP E c 233 58 [a0, a1, a2, a3, a4, a5, a6, a7, a8, a9, a10, a11, some (.int x)] (.int x :: st) ah Q := wp_s i233_56 rfl rfl rfl rfl
theorem i233_58 : insAt 233 58 = some (.laload, 59) := by decide +kernel
theorem r233_58 {E : aEnv} {c : Nat} {ah : aHp} {st : List Value} {Q : Option Value → aHp → Prop} {a0 a1 a2 a3 a4 a5 a6 a7 a8 a9 a10 a11 a12 : Option Value} {i : Int32} {a : Nat} : WP E c 233 58 [a0, a1, a2, a3, a4, a5, a6, a7, a8, a9, a10, a11, a12] (.int i :: .ref a :: st) ah Q = WPo (gL E ah (.int i :: .ref a :: st)) (fun s9 => WP E c 233 59 [a0, a1, a2, a3, a4, a5, a6, a7, a8, a9, a10, a11, a12] s9 ah Q) := wp_hr i233_58 rfl rfl rfl rfl rfl rfl rfl rfl
theorem i233_59 : insAt 233 59 = some (.lload 6, 61) := by decide +kernel
theorem r233_59 {E : aEnv} {c : Nat} {ah : aHp} {st : List Value} {Q : Option Value → aHp → Prop} {a0 a1 a2 a3 a4 a5 a7 a8 a9 a10 a11 a12 : Option Value} {x : Int64} : WP E c 233 59 [a0, a1, a2, a3, a4, a5, some (.long x), a7, a8, a9, a10, a11, a12] (st) ah Q = WP E c 233 61 [a0, a1, a2, a3, a4, a5, some (.long x), a7, a8, a9, a10, a11, a12] (.long x :: st) ah Q := wp_s i233_59 rfl rfl rfl rfl
theorem i233_61 : insAt 233 61 = some (.lmul, 62) := by decide +kernel
theorem r233_61 {E : aEnv} {c : Nat} {ah : aHp} {st : List Value} {Q : Option Value → aHp → Prop} {a0 a1 a2 a3 a4 a5 a6 a7 a8 a9 a10 a11 a12 : Option Value} {x y : Int64} : WP E c 233 61 [a0, a1, a2, a3, a4, a5, a6, a7, a8, a9, a10, a11, a12] (.long y :: .long x :: st) ah Q = WP E c 233 62 [a0, a1, a2, a3, a4, a5, a6, a7, a8, a9, a10, a11, a12] (.long (x * y) :: st) ah Q := wp_s i233_61 rfl rfl rfl rfl
theorem i233_62 : insAt 233 62 = some (.lload 10, 64) := by decide +kernel
theorem r233_62 {E : aEnv} {c : Nat} {ah : aHp} {st : List Value} {Q : Option Value → aHp → Prop} {a0 a1 a2 a3 a4 a5 a6 a7 a8 a9 a11 a12 : Option Value} {x : Int64} : WP E c 233 62 [a0, a1, a2, a3, a4, a5, a6, a7, a8, a9, some (.long x), a11, a12] (st) ah Q = WP E c 233 64 [a0, a1, a2, a3, a4, a5, a6, a7, a8, a9, some (.long x), a11, a12] (.long x :: st) ah Q := wp_s i233_62 rfl rfl rfl rfl
theorem i233_64 : insAt 233 64 = some (.lmul, 65) := by decide +kernel
theorem r233_64 {E : aEnv} {c : Nat} {ah : aHp} {st : List Value} {Q : Option Value → aHp → Prop} {a0 a1 a2 a3 a4 a5 a6 a7 a8 a9 a10 a11 a12 : Option Value} {x y : Int64} : WP E c 233 64 [a0, a1, a2, a3, a4, a5, a6, a7, a8, a9, a10, a11, a12] (.long y :: .long x :: st) ah Q = WP E c 233 65 [a0, a1, a2, a3, a4, a5, a6, a7, a8, a9, a10, a11, a12] (.long (x * y) :: st) ah Q := wp_s i233_64 rfl rfl rfl rfl
theorem i233_65 : insAt 233 65 = some (.ladd, 66) := by decide +kernel
theorem r233_65 {E : aEnv} {c : Nat} {ah : aHp} {st : List Value} {Q : Option Value → aHp → Prop} {a0 a1 a2 a3 a4 a5 a6 a7 a8 a9 a10 a11 a12 : Option Value} {x y : Int64} : WP E c 233 65 [a0, a1, a2, a3, a4, a5, a6, a7, a8, a9, a10, a11, a12] (.long y :: .long x :: st) ah Q = WP E c 233 66 [a0, a1, a2, a3, a4, a5, a6, a7, a8, a9, a10, a11, a12] (.long (x + y) :: st) ah Q := wp_s i233_65 rfl rfl rfl rfl
theorem i233_66 : insAt 233 66 = some (.lstore 4, 68) := by decide +kernel
theorem r233_66 {E : aEnv} {c : Nat} {ah : aHp} {st : List Value} {Q : Option Value → aHp → Prop} {a0 a1 a2 a3 a4 a5 a6 a7 a8 a9 a10 a11 a12 : Option Value} {x : Int64} : WP E c 233 66 [a0, a1, a2, a3, a4, a5, a6, a7, a8, a9, a10, a11, a12] (.long x :: st) ah Q = WP E c 233 68 [a0, a1, a2, kil a3, some (.long x), none, a6, a7, a8, a9, a10, a11, a12] (st) ah Q := wp_s i233_66 rfl rfl rfl rfl
theorem i233_68 : insAt 233 68 = some (.lload 6, 70) := by decide +kernel
theorem r233_68 {E : aEnv} {c : Nat} {ah : aHp} {st : List Value} {Q : Option Value → aHp → Prop} {a0 a1 a2 a3 a4 a5 a7 a8 a9 a10 a11 a12 : Option Value} {x : Int64} : WP E c 233 68 [a0, a1, a2, a3, a4, a5, some (.long x), a7, a8, a9, a10, a11, a12] (st) ah Q = WP E c 233 70 [a0, a1, a2, a3, a4, a5, some (.long x), a7, a8, a9, a10, a11, a12] (.long x :: st) ah Q := wp_s i233_68 rfl rfl rfl rfl
theorem i233_70 : insAt 233 70 = some (.iload 3, 71) := by decide +kernel
theorem r233_70 {E : aEnv} {c : Nat} {ah : aHp} {st : List Value} {Q : Option Value → aHp → Prop} {a0 a1 a2 a4 a5 a6 a7 a8 a9 a10 a11 a12 : Option Value} {x : Int32} : WP E c 233 70 [a0, a1, a2, some (.int x), a4, a5, a6, a7, a8, a9, a10, a11, a12] (st) ah Q = WP E c 233 71 [a0, a1, a2, some (.int x), a4, a5, a6, a7, a8, a9, a10, a11, a12] (.int x :: st) ah Q := wp_s i233_70 rfl rfl rfl rfl
theorem i233_71 : insAt 233 71 = some (.i2l, 72) := by decide +kernel
theorem r233_71 {E : aEnv} {c : Nat} {ah : aHp} {st : List Value} {Q : Option Value → aHp → Prop} {a0 a1 a2 a3 a4 a5 a6 a7 a8 a9 a10 a11 a12 : Option Value} {x : Int32} : WP E c 233 71 [a0, a1, a2, a3, a4, a5, a6, a7, a8, a9, a10, a11, a12] (.int x :: st) ah Q = WP E c 233 72 [a0, a1, a2, a3, a4, a5, a6, a7, a8, a9, a10, a11, a12] (.long x.toInt64 :: st) ah Q := wp_s i233_71 rfl rfl rfl rfl
theorem i233_72 : insAt 233 72 = some (.iload 12, 74) := by decide +kernel
theorem r233_72 {E : aEnv} {c : Nat} {ah : aHp} {st : List Value} {Q : Option Value → aHp → Prop} {a0 a1 a2 a3 a4 a5 a6 a7 a8 a9 a10 a11 : Option Value} {x : Int32} : WP E c 233 72 [a0, a1, a2, a3, a4, a5, a6, a7, a8, a9, a10, a11, some (.int x)] (st) ah Q = WP E c 233 74 [a0, a1, a2, a3, a4, a5, a6, a7, a8, a9, a10, a11, some (.int x)] (.int x :: st) ah Q := wp_s i233_72 rfl rfl rfl rfl
theorem i233_74 : insAt 233 74 = some (.i2l, 75) := by decide +kernel
theorem r233_74 {E : aEnv} {c : Nat} {ah : aHp} {st : List Value} {Q : Option Value → aHp → Prop} {a0 a1 a2 a3 a4 a5 a6 a7 a8 a9 a10 a11 a12 : Option Value} {x : Int32} : WP E c 233 74 [a0, a1, a2, a3, a4, a5, a6, a7, a8, a9, a10, a11, a12] (.int x :: st) ah Q = WP E c 233 75 [a0, a1, a2, a3, a4, a5, a6, a7, a8, a9, a10, a11, a12] (.long x.toInt64 :: st) ah Q := wp_s i233_74 rfl rfl rfl rfl
theorem i233_75 : insAt 233 75 = some (.iload 2, 76) := by decide +kernel
theorem r233_75 {E : aEnv} {c : Nat} {ah : aHp} {st : List Value} {Q : Option Value → aHp → Prop} {a0 a1 a3 a4 a5 a6 a7 a8 a9 a10 a11 a12 : Option Value} {x : Int32} : WP E c 233 75 [a0, a1, some (.int x), a3, a4, a5, a6, a7, a8, a9, a10, a11, a12] (st) ah Q = WP E c 233 76 [a0, a1, some (.int x), a3, a4, a5, a6, a7, a8, a9, a10, a11, a12] (.int x :: st) ah Q := wp_s i233_75 rfl rfl rfl rfl
theorem i233_76 : insAt 233 76 = some (.i2l, 77) := by decide +kernel
theorem r233_76 {E : aEnv} {c : Nat} {ah : aHp} {st : List Value} {Q : Option Value → aHp → Prop} {a0 a1 a2 a3 a4 a5 a6 a7 a8 a9 a10 a11 a12 : Option Value} {x : Int32} : WP E c 233 76 [a0, a1, a2, a3, a4, a5, a6, a7, a8, a9, a10, a11, a12] (.int x :: st) ah Q = WP E c 233 77 [a0, a1, a2, a3, a4, a5, a6, a7, a8, a9, a10, a11, a12] (.long x.toInt64 :: st) ah Q := wp_s i233_76 rfl rfl rfl rfl
theorem i233_77 : insAt 233 77 = some (.lmul, 78) := by decide +kernel
theorem r233_77 {E : aEnv} {c : Nat} {ah : aHp} {st : List Value} {Q : Option Value → aHp → Prop} {a0 a1 a2 a3 a4 a5 a6 a7 a8 a9 a10 a11 a12 : Option Value} {x y : Int64} : WP E c 233 77 [a0, a1, a2, a3, a4, a5, a6, a7, a8, a9, a10, a11, a12] (.long y :: .long x :: st) ah Q = WP E c 233 78 [a0, a1, a2, a3, a4, a5, a6, a7, a8, a9, a10, a11, a12] (.long (x * y) :: st) ah Q := wp_s i233_77 rfl rfl rfl rfl
theorem i233_78 : insAt 233 78 = some (.lsub, 79) := by decide +kernel
theorem r233_78 {E : aEnv} {c : Nat} {ah : aHp} {st : List Value} {Q : Option Value → aHp → Prop} {a0 a1 a2 a3 a4 a5 a6 a7 a8 a9 a10 a11 a12 : Option Value} {x y : Int64} : WP E c 233 78 [a0, a1, a2, a3, a4, a5, a6, a7, a8, a9, a10, a11, a12] (.long y :: .long x :: st) ah Q = WP E c 233 79 [a0, a1, a2, a3, a4, a5, a6, a7, a8, a9, a10, a11, a12] (.long (x - y) :: st) ah Q := wp_s i233_78 rfl rfl rfl rfl
theorem i233_79 : insAt 233 79 = some (.lmul, 80) := by decide +kernel
theorem r233_79 {E : aEnv} {c : Nat} {ah : aHp} {st : List Value} {Q : Option Value → aHp → Prop} {a0 a1 a2 a3 a4 a5 a6 a7 a8 a9 a10 a11 a12 : Option Value} {x y : Int64} : WP E c 233 79 [a0, a1, a2, a3, a4, a5, a6, a7, a8, a9, a10, a11, a12] (.long y :: .long x :: st) ah Q = WP E c 233 80 [a0, a1, a2, a3, a4, a5, a6, a7, a8, a9, a10, a11, a12] (.long (x * y) :: st) ah Q := wp_s i233_79 rfl rfl rfl rfl
theorem i233_80 : insAt 233 80 = some (.lstore 6, 82) := by decide +kernel
theorem r233_80 {E : aEnv} {c : Nat} {ah : aHp} {st : List Value} {Q : Option Value → aHp → Prop} {a0 a1 a2 a3 a4 a5 a6 a7 a8 a9 a10 a11 a12 : Option Value} {x : Int64} : WP E c 233 80 [a0, a1, a2, a3, a4, a5, a6, a7, a8, a9, a10, a11, a12] (.long x :: st) ah Q = WP E c 233 82 [a0, a1, a2, a3, a4, kil a5, some (.long x), none, a8, a9, a10, a11, a12] (st) ah Q := wp_s i233_80 rfl rfl rfl rfl
theorem i233_82 : insAt 233 82 = some (.iload 12, 84) := by decide +kernel
theorem r233_82 {E : aEnv} {c : Nat} {ah : aHp} {st : List Value} {Q : Option Value → aHp → Prop} {a0 a1 a2 a3 a4 a5 a6 a7 a8 a9 a10 a11 : Option Value} {x : Int32} : WP E c 233 82 [a0, a1, a2, a3, a4, a5, a6, a7, a8, a9, a10, a11, some (.int x)] (st) ah Q = WP E c 233 84 [a0, a1, a2, a3, a4, a5, a6, a7, a8, a9, a10, a11, some (.int x)] (.int x :: st) ah Q := wp_s i233_82 rfl rfl rfl rfl
theorem i233_84 : insAt 233 84 = some (.iload 1, 85) := by decide +kernel
theorem r233_84 {E : aEnv} {c : Nat} {ah : aHp} {st : List Value} {Q : Option Value → aHp → Prop} {a0 a2 a3 a4 a5 a6 a7 a8 a9 a10 a11 a12 : Option Value} {x : Int32} : WP E c 233 84 [a0, some (.int x), a2, a3, a4, a5, a6, a7, a8, a9, a10, a11, a12] (st) ah Q = WP E c 233 85 [a0, some (.int x), a2, a3, a4, a5, a6, a7, a8, a9, a10, a11, a12] (.int x :: st) ah Q := wp_s i233_84 rfl rfl rfl rfl
theorem i233_85 : insAt 233 85 = some (.if_icmp .ge 102, 88) := by decide +kernel
theorem r233_85 {E : aEnv} {c : Nat} {ah : aHp} {st : List Value} {Q : Option Value → aHp → Prop} {a0 a1 a2 a3 a4 a5 a6 a7 a8 a9 a10 a11 a12 : Option Value} {x y : Int32} : WP E c 233 85 [a0, a1, a2, a3, a4, a5, a6, a7, a8, a9, a10, a11, a12] (.int y :: .int x :: st) ah Q = if y ≤ x then WP E c 233 102 [a0, a1, a2, a3, a4, a5, a6, a7, a8, a9, a10, a11, a12] st ah Q else WP E c 233 88 [a0, a1, a2, a3, a4, a5, a6, a7, a8, a9, a10, a11, a12] st ah Q := wp_j i233_85 rfl rfl rfl rfl
theorem i233_88 : insAt 233 88 = some (.lload 10, 90) := by decide +kernel
theorem r233_88 {E : aEnv} {c : Nat} {ah : aHp} {st : List Value} {Q : Option Value → aHp → Prop} {a0 a1 a2 a3 a4 a5 a6 a7 a8 a9 a11 a12 : Option Value} {x : Int64} : WP E c 233 88 [a0, a1, a2, a3, a4, a5, a6, a7, a8, a9, some (.long x), a11, a12] (st) ah Q = WP E c 233 90 [a0, a1, a2, a3, a4, a5, a6, a7, a8, a9, some (.long x), a11, a12] (.long x :: st) ah Q := wp_s i233_88 rfl rfl rfl rfl
theorem i233_90 : insAt 233 90 = some (.iload 2, 91) := by decide +kernel
theorem r233_90 {E : aEnv} {c : Nat} {ah : aHp} {st : List Value} {Q : Option Value → aHp → Prop} {a0 a1 a3 a4 a5 a6 a7 a8 a9 a10 a11 a12 : Option Value} {x : Int32} : WP E c 233 90 [a0, a1, some (.int x), a3, a4, a5, a6, a7, a8, a9, a10, a11, a12] (st) ah Q = WP E c 233 91 [a0, a1, some (.int x), a3, a4, a5, a6, a7, a8, a9, a10, a11, a12] (.int x :: st) ah Q := wp_s i233_90 rfl rfl rfl rfl
theorem i233_91 : insAt 233 91 = some (.i2l, 92) := by decide +kernel
theorem r233_91 {E : aEnv} {c : Nat} {ah : aHp} {st : List Value} {Q : Option Value → aHp → Prop} {a0 a1 a2 a3 a4 a5 a6 a7 a8 a9 a10 a11 a12 : Option Value} {x : Int32} : WP E c 233 91 [a0, a1, a2, a3, a4, a5, a6, a7, a8, a9, a10, a11, a12] (.int x :: st) ah Q = WP E c 233 92 [a0, a1, a2, a3, a4, a5, a6, a7, a8, a9, a10, a11, a12] (.long x.toInt64 :: st) ah Q := wp_s i233_91 rfl rfl rfl rfl
theorem i233_92 : insAt 233 92 = some (.iload 12, 94) := by decide +kernel
theorem r233_92 {E : aEnv} {c : Nat} {ah : aHp} {st : List Value} {Q : Option Value → aHp → Prop} {a0 a1 a2 a3 a4 a5 a6 a7 a8 a9 a10 a11 : Option Value} {x : Int32} : WP E c 233 92 [a0, a1, a2, a3, a4, a5, a6, a7, a8, a9, a10, a11, some (.int x)] (st) ah Q = WP E c 233 94 [a0, a1, a2, a3, a4, a5, a6, a7, a8, a9, a10, a11, some (.int x)] (.int x :: st) ah Q := wp_s i233_92 rfl rfl rfl rfl
theorem i233_94 : insAt 233 94 = some (.iconst 1, 95) := by decide +kernel
theorem r233_94 {E : aEnv} {c : Nat} {ah : aHp} {st : List Value} {Q : Option Value → aHp → Prop} {a0 a1 a2 a3 a4 a5 a6 a7 a8 a9 a10 a11 a12 : Option Value} : WP E c 233 94 [a0, a1, a2, a3, a4, a5, a6, a7, a8, a9, a10, a11, a12] (st) ah Q = WP E c 233 95 [a0, a1, a2, a3, a4, a5, a6, a7, a8, a9, a10, a11, a12] (.int (1) :: st) ah Q := wp_s i233_94 rfl rfl rfl rfl
theorem i233_95 : insAt 233 95 = some (.iadd, 96) := by decide +kernel
theorem r233_95 {E : aEnv} {c : Nat} {ah : aHp} {st : List Value} {Q : Option Value → aHp → Prop} {a0 a1 a2 a3 a4 a5 a6 a7 a8 a9 a10 a11 a12 : Option Value} {x y : Int32} : WP E c 233 95 [a0, a1, a2, a3, a4, a5, a6, a7, a8, a9, a10, a11, a12] (.int y :: .int x :: st) ah Q = WP E c 233 96 [a0, a1, a2, a3, a4, a5, a6, a7, a8, a9, a10, a11, a12] (.int (x + y) :: st) ah Q := wp_s i233_95 rfl rfl rfl rfl
theorem i233_96 : insAt 233 96 = some (.i2l, 97) := by decide +kernel
theorem r233_96 {E : aEnv} {c : Nat} {ah : aHp} {st : List Value} {Q : Option Value → aHp → Prop} {a0 a1 a2 a3 a4 a5 a6 a7 a8 a9 a10 a11 a12 : Option Value} {x : Int32} : WP E c 233 96 [a0, a1, a2, a3, a4, a5, a6, a7, a8, a9, a10, a11, a12] (.int x :: st) ah Q = WP E c 233 97 [a0, a1, a2, a3, a4, a5, a6, a7, a8, a9, a10, a11, a12] (.long x.toInt64 :: st) ah Q := wp_s i233_96 rfl rfl rfl rfl
theorem i233_97 : insAt 233 97 = some (.lmul, 98) := by decide +kernel
theorem r233_97 {E : aEnv} {c : Nat} {ah : aHp} {st : List Value} {Q : Option Value → aHp → Prop} {a0 a1 a2 a3 a4 a5 a6 a7 a8 a9 a10 a11 a12 : Option Value} {x y : Int64} : WP E c 233 97 [a0, a1, a2, a3, a4, a5, a6, a7, a8, a9, a10, a11, a12] (.long y :: .long x :: st) ah Q = WP E c 233 98 [a0, a1, a2, a3, a4, a5, a6, a7, a8, a9, a10, a11, a12] (.long (x * y) :: st) ah Q := wp_s i233_97 rfl rfl rfl rfl
theorem i233_98 : insAt 233 98 = some (.ldiv, 99) := by decide +kernel
theorem r233_98 {E : aEnv} {c : Nat} {ah : aHp} {st : List Value} {Q : Option Value → aHp → Prop} {a0 a1 a2 a3 a4 a5 a6 a7 a8 a9 a10 a11 a12 : Option Value} {x y : Int64} (hy : ¬ y = 0) : WP E c 233 98 [a0, a1, a2, a3, a4, a5, a6, a7, a8, a9, a10, a11, a12] (.long y :: .long x :: st) ah Q = WP E c 233 99 [a0, a1, a2, a3, a4, a5, a6, a7, a8, a9, a10, a11, a12] (.long (x / y) :: st) ah Q := wp_st (z := (99, [a0, a1, a2, a3, a4, a5, a6, a7, a8, a9, a10, a11, a12], .long (x / y) :: st, ah)) i233_98 rfl rfl rfl (by simp [st1, skA, tD, hy])
theorem i233_99 : insAt 233 99 = some (.goto 104, 102) := by decide +kernel
theorem r233_99 {E : aEnv} {c : Nat} {ah : aHp} {st : List Value} {Q : Option Value → aHp → Prop} {a0 a1 a2 a3 a4 a5 a6 a7 a8 a9 a10 a11 a12 : Option Value} : WP E c 233 99 [a0, a1, a2, a3, a4, a5, a6, a7, a8, a9, a10, a11, a12] (st) ah Q = WP E c 233 104 [a0, a1, a2, a3, a4, a5, a6, a7, a8, a9, a10, a11, a12] st ah Q := wp_s i233_99 rfl rfl rfl rfl
theorem i233_102 : insAt 233 102 = some (.lload 10, 104) := by decide +kernel
theorem r233_102 {E : aEnv} {c : Nat} {ah : aHp} {st : List Value} {Q : Option Value → aHp → Prop} {a0 a1 a2 a3 a4 a5 a6 a7 a8 a9 a11 a12 : Option Value} {x : Int64} : WP E c 233 102 [a0, a1, a2, a3, a4, a5, a6, a7, a8, a9, some (.long x), a11, a12] (st) ah Q = WP E c 233 104 [a0, a1, a2, a3, a4, a5, a6, a7, a8, a9, some (.long x), a11, a12] (.long x :: st) ah Q := wp_s i233_102 rfl rfl rfl rfl
theorem i233_104 : insAt 233 104 = some (.lstore 10, 106) := by decide +kernel
theorem r233_104 {E : aEnv} {c : Nat} {ah : aHp} {st : List Value} {Q : Option Value → aHp → Prop} {a0 a1 a2 a3 a4 a5 a6 a7 a8 a9 a10 a11 a12 : Option Value} {x : Int64} : WP E c 233 104 [a0, a1, a2, a3, a4, a5, a6, a7, a8, a9, a10, a11, a12] (.long x :: st) ah Q = WP E c 233 106 [a0, a1, a2, a3, a4, a5, a6, a7, a8, kil a9, some (.long x), none, a12] (st) ah Q := wp_s i233_104 rfl rfl rfl rfl
theorem i233_106 : insAt 233 106 = some (.iinc 12 1, 109) := by decide +kernel
theorem r233_106 {E : aEnv} {c : Nat} {ah : aHp} {st : List Value} {Q : Option Value → aHp → Prop} {a0 a1 a2 a3 a4 a5 a6 a7 a8 a9 a10 a11 : Option Value} {x : Int32} : WP E c 233 106 [a0, a1, a2, a3, a4, a5, a6, a7, a8, a9, a10, a11, some (.int x)] (st) ah Q = WP E c 233 109 [a0, a1, a2, a3, a4, a5, a6, a7, a8, a9, a10, kil a11, some (.int (x + 1))] (st) ah Q := wp_s i233_106 rfl rfl rfl rfl
theorem i233_109 : insAt 233 109 = some (.goto 44, 112) := by decide +kernel
theorem r233_109 {E : aEnv} {c : Nat} {ah : aHp} {st : List Value} {Q : Option Value → aHp → Prop} {a0 a1 a2 a3 a4 a5 a6 a7 a8 a9 a10 a11 a12 : Option Value} : WP E c 233 109 [a0, a1, a2, a3, a4, a5, a6, a7, a8, a9, a10, a11, a12] (st) ah Q = WP E c 233 44 [a0, a1, a2, a3, a4, a5, a6, a7, a8, a9, a10, a11, a12] st ah Q := wp_s i233_109 rfl rfl rfl rfl
theorem i233_112 : insAt 233 112 = some (.lload 4, 114) := by decide +kernel
theorem r233_112 {E : aEnv} {c : Nat} {ah : aHp} {st : List Value} {Q : Option Value → aHp → Prop} {a0 a1 a2 a3 a5 a6 a7 a8 a9 a10 a11 a12 : Option Value} {x : Int64} : WP E c 233 112 [a0, a1, a2, a3, some (.long x), a5, a6, a7, a8, a9, a10, a11, a12] (st) ah Q = WP E c 233 114 [a0, a1, a2, a3, some (.long x), a5, a6, a7, a8, a9, a10, a11, a12] (.long x :: st) ah Q := wp_s i233_112 rfl rfl rfl rfl
theorem i233_114 : insAt 233 114 = some (.lreturn, 115) := by decide +kernel
theorem r233_114 {E : aEnv} {c : Nat} {ah : aHp} {Q : Option Value → aHp → Prop} {a0 a1 a2 a3 a4 a5 a6 a7 a8 a9 a10 a11 a12 : Option Value} {x : Int64} : WP E c 233 114 [a0, a1, a2, a3, a4, a5, a6, a7, a8, a9, a10, a11, a12] ([.long x]) ah Q = Q (some (.long x)) ah := wp_rt i233_114 rfl
theorem e234 {E : aEnv} {c : Nat} {ah ahF : aHp} {r : Option Value} {p0 : Nat} {p1 : Int32} {p2 : Int32} {p3 : Int32} {p4 : Int32} (h : WP E c 234 0 [some (.ref p0), some (.int p1), some (.int p2), some (.int p3), some (.int p4), none, none, none] [] ah (fun r1 x1 => r1 = r ∧ x1 = ahF)) : EV E c 234 [.ref p0, .int p1, .int p2, .int p3, .int p4] ah r ahF := EV.of (by rw [mr234.2.1]; exact h)
theorem i234_0 : insAt 234 0 = some (.aload 0, 1) := by decide +kernel
theorem r234_0 {E : aEnv} {c : Nat} {ah : aHp} {st : List Value} {Q : Option Value → aHp → Prop} {a1 a2 a3 a4 a5 a6 a7 : Option Value} {x : Nat} : WP E c 234 0 [some (.ref x), a1, a2, a3, a4, a5, a6, a7] (st) ah Q = WP E c 234 1 [some (.ref x), a1, a2, a3, a4, a5, a6, a7] (.ref x :: st) ah Q := wp_s i234_0 rfl rfl rfl rfl
theorem i234_1 : insAt 234 1 = some (.iconst 0, 2) := by decide +kernel
theorem r234_1 {E : aEnv} {c : Nat} {ah : aHp} {st : List Value} {Q : Option Value → aHp → Prop} {a0 a1 a2 a3 a4 a5 a6 a7 : Option Value} : WP E c 234 1 [a0, a1, a2, a3, a4, a5, a6, a7] (st) ah Q = WP E c 234 2 [a0, a1, a2, a3, a4, a5, a6, a7] (.int (0) :: st) ah Q := wp_s i234_1 rfl rfl rfl rfl
theorem i234_2 : insAt 234 2 = some (.putfield 11010, 5) := by decide +kernel
theorem r234_2 {E : aEnv} {c : Nat} {ah : aHp} {st : List Value} {Q : Option Value → aHp → Prop} {a0 a1 a2 a3 a4 a5 a6 a7 : Option Value} {a : Nat} {v : Value} : WP E c 234 2 [a0, a1, a2, a3, a4, a5, a6, a7] (v :: .ref a :: st) ah Q = WPo (oPF (hg E ah a) 11010 v) (fun e => WP E c 234 5 [a0, a1, a2, a3, a4, a5, a6, a7] st (hs E ah a e) Q) := wp_putf i234_2
theorem i234_5 : insAt 234 5 = some (.aload 0, 6) := by decide +kernel
theorem r234_5 {E : aEnv} {c : Nat} {ah : aHp} {st : List Value} {Q : Option Value → aHp → Prop} {a1 a2 a3 a4 a5 a6 a7 : Option Value} {x : Nat} : WP E c 234 5 [some (.ref x), a1, a2, a3, a4, a5, a6, a7] (st) ah Q = WP E c 234 6 [some (.ref x), a1, a2, a3, a4, a5, a6, a7] (.ref x :: st) ah Q := wp_s i234_5 rfl rfl rfl rfl
theorem i234_6 : insAt 234 6 = some (.aload 0, 7) := by decide +kernel
theorem r234_6 {E : aEnv} {c : Nat} {ah : aHp} {st : List Value} {Q : Option Value → aHp → Prop} {a1 a2 a3 a4 a5 a6 a7 : Option Value} {x : Nat} : WP E c 234 6 [some (.ref x), a1, a2, a3, a4, a5, a6, a7] (st) ah Q = WP E c 234 7 [some (.ref x), a1, a2, a3, a4, a5, a6, a7] (.ref x :: st) ah Q := wp_s i234_6 rfl rfl rfl rfl
theorem i234_7 : insAt 234 7 = some (.iload 1, 8) := by decide +kernel
theorem r234_7 {E : aEnv} {c : Nat} {ah : aHp} {st : List Value} {Q : Option Value → aHp → Prop} {a0 a2 a3 a4 a5 a6 a7 : Option Value} {x : Int32} : WP E c 234 7 [a0, some (.int x), a2, a3, a4, a5, a6, a7] (st) ah Q = WP E c 234 8 [a0, some (.int x), a2, a3, a4, a5, a6, a7] (.int x :: st) ah Q := wp_s i234_7 rfl rfl rfl rfl
theorem i234_8 : insAt 234 8 = some (.invokevirtual 202, 11) := by decide +kernel
theorem r234_8 {E : aEnv} {c : Nat} {ah ah1 : aHp} {r : Option Value} {st : List Value} {Q : Option Value → aHp → Prop} {a0 a1 a2 a3 a4 a5 a6 a7 : Option Value} {p0 : Nat} {p1 : Int32} (h : EV E c 202 [.ref p0, .int p1] ah r ah1) (h2 : oCI (hg E ah p0) = 11) (h3 : wds st ≤ 8) : WP E (c + 1) 234 8 [a0, a1, a2, a3, a4, a5, a6, a7] (.int p1 :: .ref p0 :: st) ah Q = WP E (c + 1) 234 11 [a0, a1, a2, a3, a4, a5, a6, a7] (r.toList ++ st) ah1 Q := wp_call (As := [.ref p0, .int p1]) i234_8 (fun _ => rfl) rfl mr202.1 (rcv_1 h2 mr202.2.2 (by decide)) h3 (by rw [mr202.2.1]; exact Nat.le_of_ble_eq_true rfl) h
theorem i234_11 : insAt 234 11 = some (.putfield 11000, 14) := by decide +kernel
theorem r234_11 {E : aEnv} {c : Nat} {ah : aHp} {st : List Value} {Q : Option Value → aHp → Prop} {a0 a1 a2 a3 a4 a5 a6 a7 : Option Value} {a : Nat} {v : Value} : WP E c 234 11 [a0, a1, a2, a3, a4, a5, a6, a7] (v :: .ref a :: st) ah Q = WPo (oPF (hg E ah a) 11000 v) (fun e => WP E c 234 14 [a0, a1, a2, a3, a4, a5, a6, a7] st (hs E ah a e) Q) := wp_putf i234_11
theorem i234_14 : insAt 234 14 = some (.aload 0, 15) := by decide +kernel
theorem r234_14 {E : aEnv} {c : Nat} {ah : aHp} {st : List Value} {Q : Option Value → aHp → Prop} {a1 a2 a3 a4 a5 a6 a7 : Option Value} {x : Nat} : WP E c 234 14 [some (.ref x), a1, a2, a3, a4, a5, a6, a7] (st) ah Q = WP E c 234 15 [some (.ref x), a1, a2, a3, a4, a5, a6, a7] (.ref x :: st) ah Q := wp_s i234_14 rfl rfl rfl rfl
theorem i234_15 : insAt 234 15 = some (.getfield 11000, 18) := by decide +kernel
theorem r234_15 {E : aEnv} {c : Nat} {ah : aHp} {st : List Value} {Q : Option Value → aHp → Prop} {a0 a1 a2 a3 a4 a5 a6 a7 : Option Value} {a : Nat} : WP E c 234 15 [a0, a1, a2, a3, a4, a5, a6, a7] (.ref a :: st) ah Q = WPo (oGF (hg E ah a) 11 0) (fun v => WP E c 234 18 [a0, a1, a2, a3, a4, a5, a6, a7] (v :: st) ah Q) := wp_getf i234_15
theorem i234_18 : insAt 234 18 = some (.ifCond .le 23, 21) := by decide +kernel
theorem r234_18 {E : aEnv} {c : Nat} {ah : aHp} {st : List Value} {Q : Option Value → aHp → Prop} {a0 a1 a2 a3 a4 a5 a6 a7 : Option Value} {x : Int32} : WP E c 234 18 [a0, a1, a2, a3, a4, a5, a6, a7] (.int x :: st) ah Q = if x ≤ 0 then WP E c 234 23 [a0, a1, a2, a3, a4, a5, a6, a7] st ah Q else WP E c 234 21 [a0, a1, a2, a3, a4, a5, a6, a7] st ah Q := wp_j i234_18 rfl rfl rfl rfl
theorem i234_21 : insAt 234 21 = some (.iconst (-1), 22) := by decide +kernel
theorem r234_21 {E : aEnv} {c : Nat} {ah : aHp} {st : List Value} {Q : Option Value → aHp → Prop} {a0 a1 a2 a3 a4 a5 a6 a7 : Option Value} : WP E c 234 21 [a0, a1, a2, a3, a4, a5, a6, a7] (st) ah Q = WP E c 234 22 [a0, a1, a2, a3, a4, a5, a6, a7] (.int ((-1)) :: st) ah Q := wp_s i234_21 rfl rfl rfl rfl
theorem i234_22 : insAt 234 22 = some (.ireturn, 23) := by decide +kernel
theorem r234_22 {E : aEnv} {c : Nat} {ah : aHp} {Q : Option Value → aHp → Prop} {a0 a1 a2 a3 a4 a5 a6 a7 : Option Value} {x : Int32} : WP E c 234 22 [a0, a1, a2, a3, a4, a5, a6, a7] ([.int x]) ah Q = Q (some (.int x)) ah := wp_rt i234_22 rfl
theorem i234_23 : insAt 234 23 = some (.iload 2, 24) := by decide +kernel
theorem r234_23 {E : aEnv} {c : Nat} {ah : aHp} {st : List Value} {Q : Option Value → aHp → Prop} {a0 a1 a3 a4 a5 a6 a7 : Option Value} {x : Int32} : WP E c 234 23 [a0, a1, some (.int x), a3, a4, a5, a6, a7] (st) ah Q = WP E c 234 24 [a0, a1, some (.int x), a3, a4, a5, a6, a7] (.int x :: st) ah Q := wp_s i234_23 rfl rfl rfl rfl
theorem i234_24 : insAt 234 24 = some (.i2l, 25) := by decide +kernel
theorem r234_24 {E : aEnv} {c : Nat} {ah : aHp} {st : List Value} {Q : Option Value → aHp → Prop} {a0 a1 a2 a3 a4 a5 a6 a7 : Option Value} {x : Int32} : WP E c 234 24 [a0, a1, a2, a3, a4, a5, a6, a7] (.int x :: st) ah Q = WP E c 234 25 [a0, a1, a2, a3, a4, a5, a6, a7] (.long x.toInt64 :: st) ah Q := wp_s i234_24 rfl rfl rfl rfl
theorem i234_25 : insAt 234 25 = some (.jsr_w 1, 26) := by decide +kernel
theorem r234_25 {E : aEnv} {c : Nat} {ah : aHp} {st : List Value} {Q : Option Value → aHp → Prop} {a0 a1 a2 a3 a4 a5 a6 a7 : Option Value} : WP E c 234 25 [a0, a1, a2, a3, a4, a5, a6, a7] (st) ah Q = WP E c 234 26 [a0, a1, a2, a3, a4, a5, a6, a7] (.long (1) :: st) ah Q := wp_s i234_25 rfl rfl rfl rfl
theorem i234_26 : insAt 234 26 = some (.jsr_w 4, 29) := by decide +kernel
theorem r234_26 {E : aEnv} {c : Nat} {ah : aHp} {st : List Value} {Q : Option Value → aHp → Prop} {a0 a1 a2 a3 a4 a5 a6 a7 : Option Value} : WP E c 234 26 [a0, a1, a2, a3, a4, a5, a6, a7] (st) ah Q = WP E c 234 29 [a0, a1, a2, a3, a4, a5, a6, a7] (.long (4) :: st) ah Q := wp_s i234_26 rfl rfl rfl rfl
theorem i234_29 : insAt 234 29 = some (.invokestatic 199, 32) := by decide +kernel
theorem r234_29 {E : aEnv} {c : Nat} {ah ah1 : aHp} {r : Option Value} {st : List Value} {Q : Option Value → aHp → Prop} {a0 a1 a2 a3 a4 a5 a6 a7 : Option Value} {p0 : Int64} {p1 : Int64} {p2 : Int64} (h : EV E c 199 [.long p0, .long p1, .long p2] ah r ah1) (h3 : wds st ≤ 8) : WP E (c + 1) 234 29 [a0, a1, a2, a3, a4, a5, a6, a7] (.long p2 :: .long p1 :: .long p0 :: st) ah Q = WP E (c + 1) 234 32 [a0, a1, a2, a3, a4, a5, a6, a7] (r.toList ++ st) ah1 Q := wp_call (As := [.long p0, .long p1, .long p2]) i234_29 (fun _ => rfl) rfl mr199.1 rfl h3 (by rw [mr199.2.1]; exact Nat.le_of_ble_eq_true rfl) h
theorem i234_32 : insAt 234 32 = some (.ifCond .eq 62, 35) := by decide +kernel
theorem r234_32 {E : aEnv} {c : Nat} {ah : aHp} {st : List Value} {Q : Option Value → aHp → Prop} {a0 a1 a2 a3 a4 a5 a6 a7 : Option Value} {x : Int32} : WP E c 234 32 [a0, a1, a2, a3, a4, a5, a6, a7] (.int x :: st) ah Q = if x = 0 then WP E c 234 62 [a0, a1, a2, a3, a4, a5, a6, a7] st ah Q else WP E c 234 35 [a0, a1, a2, a3, a4, a5, a6, a7] st ah Q := wp_j i234_32 rfl rfl rfl rfl
theorem i234_35 : insAt 234 35 = some (.iload 3, 36) := by decide +kernel
theorem r234_35 {E : aEnv} {c : Nat} {ah : aHp} {st : List Value} {Q : Option Value → aHp → Prop} {a0 a1 a2 a4 a5 a6 a7 : Option Value} {x : Int32} : WP E c 234 35 [a0, a1, a2, some (.int x), a4, a5, a6, a7] (st) ah Q = WP E c 234 36 [a0, a1, a2, some (.int x), a4, a5, a6, a7] (.int x :: st) ah Q := wp_s i234_35 rfl rfl rfl rfl
theorem i234_36 : insAt 234 36 = some (.i2l, 37) := by decide +kernel
theorem r234_36 {E : aEnv} {c : Nat} {ah : aHp} {st : List Value} {Q : Option Value → aHp → Prop} {a0 a1 a2 a3 a4 a5 a6 a7 : Option Value} {x : Int32} : WP E c 234 36 [a0, a1, a2, a3, a4, a5, a6, a7] (.int x :: st) ah Q = WP E c 234 37 [a0, a1, a2, a3, a4, a5, a6, a7] (.long x.toInt64 :: st) ah Q := wp_s i234_36 rfl rfl rfl rfl
theorem i234_37 : insAt 234 37 = some (.jsr_w 2, 40) := by decide +kernel
theorem r234_37 {E : aEnv} {c : Nat} {ah : aHp} {st : List Value} {Q : Option Value → aHp → Prop} {a0 a1 a2 a3 a4 a5 a6 a7 : Option Value} : WP E c 234 37 [a0, a1, a2, a3, a4, a5, a6, a7] (st) ah Q = WP E c 234 40 [a0, a1, a2, a3, a4, a5, a6, a7] (.long (2) :: st) ah Q := wp_s i234_37 rfl rfl rfl rfl
theorem i234_40 : insAt 234 40 = some (.jsr_w 20, 43) := by decide +kernel
theorem r234_40 {E : aEnv} {c : Nat} {ah : aHp} {st : List Value} {Q : Option Value → aHp → Prop} {a0 a1 a2 a3 a4 a5 a6 a7 : Option Value} : WP E c 234 40 [a0, a1, a2, a3, a4, a5, a6, a7] (st) ah Q = WP E c 234 43 [a0, a1, a2, a3, a4, a5, a6, a7] (.long (20) :: st) ah Q := wp_s i234_40 rfl rfl rfl rfl
theorem i234_43 : insAt 234 43 = some (.invokestatic 199, 46) := by decide +kernel
theorem r234_43 {E : aEnv} {c : Nat} {ah ah1 : aHp} {r : Option Value} {st : List Value} {Q : Option Value → aHp → Prop} {a0 a1 a2 a3 a4 a5 a6 a7 : Option Value} {p0 : Int64} {p1 : Int64} {p2 : Int64} (h : EV E c 199 [.long p0, .long p1, .long p2] ah r ah1) (h3 : wds st ≤ 8) : WP E (c + 1) 234 43 [a0, a1, a2, a3, a4, a5, a6, a7] (.long p2 :: .long p1 :: .long p0 :: st) ah Q = WP E (c + 1) 234 46 [a0, a1, a2, a3, a4, a5, a6, a7] (r.toList ++ st) ah1 Q := wp_call (As := [.long p0, .long p1, .long p2]) i234_43 (fun _ => rfl) rfl mr199.1 rfl h3 (by rw [mr199.2.1]; exact Nat.le_of_ble_eq_true rfl) h
theorem i234_46 : insAt 234 46 = some (.ifCond .eq 62, 49) := by decide +kernel
theorem r234_46 {E : aEnv} {c : Nat} {ah : aHp} {st : List Value} {Q : Option Value → aHp → Prop} {a0 a1 a2 a3 a4 a5 a6 a7 : Option Value} {x : Int32} : WP E c 234 46 [a0, a1, a2, a3, a4, a5, a6, a7] (.int x :: st) ah Q = if x = 0 then WP E c 234 62 [a0, a1, a2, a3, a4, a5, a6, a7] st ah Q else WP E c 234 49 [a0, a1, a2, a3, a4, a5, a6, a7] st ah Q := wp_j i234_46 rfl rfl rfl rfl
theorem i234_49 : insAt 234 49 = some (.iload 4, 51) := by decide +kernel
theorem r234_49 {E : aEnv} {c : Nat} {ah : aHp} {st : List Value} {Q : Option Value → aHp → Prop} {a0 a1 a2 a3 a5 a6 a7 : Option Value} {x : Int32} : WP E c 234 49 [a0, a1, a2, a3, some (.int x), a5, a6, a7] (st) ah Q = WP E c 234 51 [a0, a1, a2, a3, some (.int x), a5, a6, a7] (.int x :: st) ah Q := wp_s i234_49 rfl rfl rfl rfl
theorem i234_51 : insAt 234 51 = some (.i2l, 52) := by decide +kernel
theorem r234_51 {E : aEnv} {c : Nat} {ah : aHp} {st : List Value} {Q : Option Value → aHp → Prop} {a0 a1 a2 a3 a4 a5 a6 a7 : Option Value} {x : Int32} : WP E c 234 51 [a0, a1, a2, a3, a4, a5, a6, a7] (.int x :: st) ah Q = WP E c 234 52 [a0, a1, a2, a3, a4, a5, a6, a7] (.long x.toInt64 :: st) ah Q := wp_s i234_51 rfl rfl rfl rfl
theorem i234_52 : insAt 234 52 = some (.jsr_w 1, 53) := by decide +kernel
theorem r234_52 {E : aEnv} {c : Nat} {ah : aHp} {st : List Value} {Q : Option Value → aHp → Prop} {a0 a1 a2 a3 a4 a5 a6 a7 : Option Value} : WP E c 234 52 [a0, a1, a2, a3, a4, a5, a6, a7] (st) ah Q = WP E c 234 53 [a0, a1, a2, a3, a4, a5, a6, a7] (.long (1) :: st) ah Q := wp_s i234_52 rfl rfl rfl rfl
theorem i234_53 : insAt 234 53 = some (.jsr_w 60, 56) := by decide +kernel
theorem r234_53 {E : aEnv} {c : Nat} {ah : aHp} {st : List Value} {Q : Option Value → aHp → Prop} {a0 a1 a2 a3 a4 a5 a6 a7 : Option Value} : WP E c 234 53 [a0, a1, a2, a3, a4, a5, a6, a7] (st) ah Q = WP E c 234 56 [a0, a1, a2, a3, a4, a5, a6, a7] (.long (60) :: st) ah Q := wp_s i234_53 rfl rfl rfl rfl
theorem i234_56 : insAt 234 56 = some (.invokestatic 199, 59) := by decide +kernel
theorem r234_56 {E : aEnv} {c : Nat} {ah ah1 : aHp} {r : Option Value} {st : List Value} {Q : Option Value → aHp → Prop} {a0 a1 a2 a3 a4 a5 a6 a7 : Option Value} {p0 : Int64} {p1 : Int64} {p2 : Int64} (h : EV E c 199 [.long p0, .long p1, .long p2] ah r ah1) (h3 : wds st ≤ 8) : WP E (c + 1) 234 56 [a0, a1, a2, a3, a4, a5, a6, a7] (.long p2 :: .long p1 :: .long p0 :: st) ah Q = WP E (c + 1) 234 59 [a0, a1, a2, a3, a4, a5, a6, a7] (r.toList ++ st) ah1 Q := wp_call (As := [.long p0, .long p1, .long p2]) i234_56 (fun _ => rfl) rfl mr199.1 rfl h3 (by rw [mr199.2.1]; exact Nat.le_of_ble_eq_true rfl) h
theorem i234_59 : insAt 234 59 = some (.ifCond .ne 68, 62) := by decide +kernel
theorem r234_59 {E : aEnv} {c : Nat} {ah : aHp} {st : List Value} {Q : Option Value → aHp → Prop} {a0 a1 a2 a3 a4 a5 a6 a7 : Option Value} {x : Int32} : WP E c 234 59 [a0, a1, a2, a3, a4, a5, a6, a7] (.int x :: st) ah Q = if ¬ x = 0 then WP E c 234 68 [a0, a1, a2, a3, a4, a5, a6, a7] st ah Q else WP E c 234 62 [a0, a1, a2, a3, a4, a5, a6, a7] st ah Q := wp_j i234_59 rfl rfl rfl rfl
theorem i234_62 : insAt 234 62 = some (.aload 0, 63) := by decide +kernel
theorem r234_62 {E : aEnv} {c : Nat} {ah : aHp} {st : List Value} {Q : Option Value → aHp → Prop} {a1 a2 a3 a4 a5 a6 a7 : Option Value} {x : Nat} : WP E c 234 62 [some (.ref x), a1, a2, a3, a4, a5, a6, a7] (st) ah Q = WP E c 234 63 [some (.ref x), a1, a2, a3, a4, a5, a6, a7] (.ref x :: st) ah Q := wp_s i234_62 rfl rfl rfl rfl
theorem i234_63 : insAt 234 63 = some (.iconst 5, 64) := by decide +kernel
theorem r234_63 {E : aEnv} {c : Nat} {ah : aHp} {st : List Value} {Q : Option Value → aHp → Prop} {a0 a1 a2 a3 a4 a5 a6 a7 : Option Value} : WP E c 234 63 [a0, a1, a2, a3, a4, a5, a6, a7] (st) ah Q = WP E c 234 64 [a0, a1, a2, a3, a4, a5, a6, a7] (.int (5) :: st) ah Q := wp_s i234_63 rfl rfl rfl rfl
theorem i234_64 : insAt 234 64 = some (.invokevirtual 197, 67) := by decide +kernel
theorem r234_64 {E : aEnv} {c : Nat} {ah ah1 : aHp} {r : Option Value} {st : List Value} {Q : Option Value → aHp → Prop} {a0 a1 a2 a3 a4 a5 a6 a7 : Option Value} {p0 : Nat} {p1 : Int32} (h : EV E c 197 [.ref p0, .int p1] ah r ah1) (h2 : oCI (hg E ah p0) = 11) (h3 : wds st ≤ 8) : WP E (c + 1) 234 64 [a0, a1, a2, a3, a4, a5, a6, a7] (.int p1 :: .ref p0 :: st) ah Q = WP E (c + 1) 234 67 [a0, a1, a2, a3, a4, a5, a6, a7] (r.toList ++ st) ah1 Q := wp_call (As := [.ref p0, .int p1]) i234_64 (fun _ => rfl) rfl mr197.1 (rcv_1 h2 mr197.2.2 (by decide)) h3 (by rw [mr197.2.1]; exact Nat.le_of_ble_eq_true rfl) h
theorem i234_67 : insAt 234 67 = some (.ireturn, 68) := by decide +kernel
theorem r234_67 {E : aEnv} {c : Nat} {ah : aHp} {Q : Option Value → aHp → Prop} {a0 a1 a2 a3 a4 a5 a6 a7 : Option Value} {x : Int32} : WP E c 234 67 [a0, a1, a2, a3, a4, a5, a6, a7] ([.int x]) ah Q = Q (some (.int x)) ah := wp_rt i234_67 rfl
theorem i234_68 : insAt 234 68 = some (.aload 0, 69) := by decide +kernel
theorem r234_68 {E : aEnv} {c : Nat} {ah : aHp} {st : List Value} {Q : Option Value → aHp → Prop} {a1 a2 a3 a4 a5 a6 a7 : Option Value} {x : Nat} : WP E c 234 68 [some (.ref x), a1, a2, a3, a4, a5, a6, a7] (st) ah Q = WP E c 234 69 [some (.ref x), a1, a2, a3, a4, a5, a6, a7] (.ref x :: st) ah Q := wp_s i234_68 rfl rfl rfl rfl
theorem i234_69 : insAt 234 69 = some (.getfield 11032, 72) := by decide +kernel
theorem r234_69 {E : aEnv} {c : Nat} {ah : aHp} {st : List Value} {Q : Option Value → aHp → Prop} {a0 a1 a2 a3 a4 a5 a6 a7 : Option Value} {a : Nat} : WP E c 234 69 [a0, a1, a2, a3, a4, a5, a6, a7] (.ref a :: st) ah Q = WPo (oGF (hg E ah a) 11 3) (fun v => WP E c 234 72 [a0, a1, a2, a3, a4, a5, a6, a7] (v :: st) ah Q) := wp_getf i234_69
theorem i234_72 : insAt 234 72 = some (.iload 1, 73) := by decide +kernel
theorem r234_72 {E : aEnv} {c : Nat} {ah : aHp} {st : List Value} {Q : Option Value → aHp → Prop} {a0 a2 a3 a4 a5 a6 a7 : Option Value} {x : Int32} : WP E c 234 72 [a0, some (.int x), a2, a3, a4, a5, a6, a7] (st) ah Q = WP E c 234 73 [a0, some (.int x), a2, a3, a4, a5, a6, a7] (.int x :: st) ah Q := wp_s i234_72 rfl rfl rfl rfl
theorem i234_73 : insAt 234 73 = some (.iaload, 74) := by decide +kernel
theorem r234_73 {E : aEnv} {c : Nat} {ah : aHp} {st : List Value} {Q : Option Value → aHp → Prop} {a0 a1 a2 a3 a4 a5 a6 a7 : Option Value} {i : Int32} {a : Nat} : WP E c 234 73 [a0, a1, a2, a3, a4, a5, a6, a7] (.int i :: .ref a :: st) ah Q = WPo (gI E ah (.int i :: .ref a :: st)) (fun s9 => WP E c 234 74 [a0, a1, a2, a3, a4, a5, a6, a7] s9 ah Q) := wp_hr i234_73 rfl rfl rfl rfl rfl rfl rfl rfl
theorem i234_74 : insAt 234 74 = some (.iload 2, 75) := by decide +kernel
theorem r234_74 {E : aEnv} {c : Nat} {ah : aHp} {st : List Value} {Q : Option Value → aHp → Prop} {a0 a1 a3 a4 a5 a6 a7 : Option Value} {x : Int32} : WP E c 234 74 [a0, a1, some (.int x), a3, a4, a5, a6, a7] (st) ah Q = WP E c 234 75 [a0, a1, some (.int x), a3, a4, a5, a6, a7] (.int x :: st) ah Q := wp_s i234_74 rfl rfl rfl rfl
theorem i234_75 : insAt 234 75 = some (.iconst 1, 76) := by decide +kernel
theorem r234_75 {E : aEnv} {c : Nat} {ah : aHp} {st : List Value} {Q : Option Value → aHp → Prop} {a0 a1 a2 a3 a4 a5 a6 a7 : Option Value} : WP E c 234 75 [a0, a1, a2, a3, a4, a5, a6, a7] (st) ah Q = WP E c 234 76 [a0, a1, a2, a3, a4, a5, a6, a7] (.int (1) :: st) ah Q := wp_s i234_75 rfl rfl rfl rfl
theorem i234_76 : insAt 234 76 = some (.iadd, 77) := by decide +kernel
theorem r234_76 {E : aEnv} {c : Nat} {ah : aHp} {st : List Value} {Q : Option Value → aHp → Prop} {a0 a1 a2 a3 a4 a5 a6 a7 : Option Value} {x y : Int32} : WP E c 234 76 [a0, a1, a2, a3, a4, a5, a6, a7] (.int y :: .int x :: st) ah Q = WP E c 234 77 [a0, a1, a2, a3, a4, a5, a6, a7] (.int (x + y) :: st) ah Q := wp_s i234_76 rfl rfl rfl rfl
theorem i234_77 : insAt 234 77 = some (.if_icmp .ge 86, 80) := by decide +kernel
theorem r234_77 {E : aEnv} {c : Nat} {ah : aHp} {st : List Value} {Q : Option Value → aHp → Prop} {a0 a1 a2 a3 a4 a5 a6 a7 : Option Value} {x y : Int32} : WP E c 234 77 [a0, a1, a2, a3, a4, a5, a6, a7] (.int y :: .int x :: st) ah Q = if y ≤ x then WP E c 234 86 [a0, a1, a2, a3, a4, a5, a6, a7] st ah Q else WP E c 234 80 [a0, a1, a2, a3, a4, a5, a6, a7] st ah Q := wp_j i234_77 rfl rfl rfl rfl
theorem i234_80 : insAt 234 80 = some (.aload 0, 81) := by decide +kernel
theorem r234_80 {E : aEnv} {c : Nat} {ah : aHp} {st : List Value} {Q : Option Value → aHp → Prop} {a1 a2 a3 a4 a5 a6 a7 : Option Value} {x : Nat} : WP E c 234 80 [some (.ref x), a1, a2, a3, a4, a5, a6, a7] (st) ah Q = WP E c 234 81 [some (.ref x), a1, a2, a3, a4, a5, a6, a7] (.ref x :: st) ah Q := wp_s i234_80 rfl rfl rfl rfl
theorem i234_81 : insAt 234 81 = some (.iconst 4, 82) := by decide +kernel
theorem r234_81 {E : aEnv} {c : Nat} {ah : aHp} {st : List Value} {Q : Option Value → aHp → Prop} {a0 a1 a2 a3 a4 a5 a6 a7 : Option Value} : WP E c 234 81 [a0, a1, a2, a3, a4, a5, a6, a7] (st) ah Q = WP E c 234 82 [a0, a1, a2, a3, a4, a5, a6, a7] (.int (4) :: st) ah Q := wp_s i234_81 rfl rfl rfl rfl
theorem i234_82 : insAt 234 82 = some (.invokevirtual 197, 85) := by decide +kernel
theorem r234_82 {E : aEnv} {c : Nat} {ah ah1 : aHp} {r : Option Value} {st : List Value} {Q : Option Value → aHp → Prop} {a0 a1 a2 a3 a4 a5 a6 a7 : Option Value} {p0 : Nat} {p1 : Int32} (h : EV E c 197 [.ref p0, .int p1] ah r ah1) (h2 : oCI (hg E ah p0) = 11) (h3 : wds st ≤ 8) : WP E (c + 1) 234 82 [a0, a1, a2, a3, a4, a5, a6, a7] (.int p1 :: .ref p0 :: st) ah Q = WP E (c + 1) 234 85 [a0, a1, a2, a3, a4, a5, a6, a7] (r.toList ++ st) ah1 Q := wp_call (As := [.ref p0, .int p1]) i234_82 (fun _ => rfl) rfl mr197.1 (rcv_1 h2 mr197.2.2 (by decide)) h3 (by rw [mr197.2.1]; exact Nat.le_of_ble_eq_true rfl) h
theorem i234_85 : insAt 234 85 = some (.ireturn, 86) := by decide +kernel
theorem r234_85 {E : aEnv} {c : Nat} {ah : aHp} {Q : Option Value → aHp → Prop} {a0 a1 a2 a3 a4 a5 a6 a7 : Option Value} {x : Int32} : WP E c 234 85 [a0, a1, a2, a3, a4, a5, a6, a7] ([.int x]) ah Q = Q (some (.int x)) ah := wp_rt i234_85 rfl
theorem i234_86 : insAt 234 86 = some (.iconst 0, 87) := by decide +kernel
theorem r234_86 {E : aEnv} {c : Nat} {ah : aHp} {st : List Value} {Q : Option Value → aHp → Prop} {a0 a1 a2 a3 a4 a5 a6 a7 : Option Value} : WP E c 234 86 [a0, a1, a2, a3, a4, a5, a6, a7] (st) ah Q = WP E c 234 87 [a0, a1, a2, a3, a4, a5, a6, a7] (.int (0) :: st) ah Q := wp_s i234_86 rfl rfl rfl rfl
theorem i234_87 : insAt 234 87 = some (.istore 5, 89) := by decide +kernel
theorem r234_87 {E : aEnv} {c : Nat} {ah : aHp} {st : List Value} {Q : Option Value → aHp → Prop} {a0 a1 a2 a3 a4 a5 a6 a7 : Option Value} {x : Int32} : WP E c 234 87 [a0, a1, a2, a3, a4, a5, a6, a7] (.int x :: st) ah Q = WP E c 234 89 [a0, a1, a2, a3, kil a4, some (.int x), a6, a7] (st) ah Q := wp_s i234_87 rfl rfl rfl rfl
theorem i234_89 : insAt 234 89 = some (.iload 5, 91) := by decide +kernel
theorem r234_89 {E : aEnv} {c : Nat} {ah : aHp} {st : List Value} {Q : Option Value → aHp → Prop} {a0 a1 a2 a3 a4 a6 a7 : Option Value} {x : Int32} : WP E c 234 89 [a0, a1, a2, a3, a4, some (.int x), a6, a7] (st) ah Q = WP E c 234 91 [a0, a1, a2, a3, a4, some (.int x), a6, a7] (.int x :: st) ah Q := wp_s i234_89 rfl rfl rfl rfl
theorem i234_91 : insAt 234 91 = some (.iload 2, 92) := by decide +kernel
theorem r234_91 {E : aEnv} {c : Nat} {ah : aHp} {st : List Value} {Q : Option Value → aHp → Prop} {a0 a1 a3 a4 a5 a6 a7 : Option Value} {x : Int32} : WP E c 234 91 [a0, a1, some (.int x), a3, a4, a5, a6, a7] (st) ah Q = WP E c 234 92 [a0, a1, some (.int x), a3, a4, a5, a6, a7] (.int x :: st) ah Q := wp_s i234_91 rfl rfl rfl rfl
theorem i234_92 : insAt 234 92 = some (.if_icmp .gt 126, 95) := by decide +kernel
theorem r234_92 {E : aEnv} {c : Nat} {ah : aHp} {st : List Value} {Q : Option Value → aHp → Prop} {a0 a1 a2 a3 a4 a5 a6 a7 : Option Value} {x y : Int32} : WP E c 234 92 [a0, a1, a2, a3, a4, a5, a6, a7] (.int y :: .int x :: st) ah Q = if y < x then WP E c 234 126 [a0, a1, a2, a3, a4, a5, a6, a7] st ah Q else WP E c 234 95 [a0, a1, a2, a3, a4, a5, a6, a7] st ah Q := wp_j i234_92 rfl rfl rfl rfl
theorem i234_95 : insAt 234 95 = some (.aload 0, 96) := by decide +kernel
theorem r234_95 {E : aEnv} {c : Nat} {ah : aHp} {st : List Value} {Q : Option Value → aHp → Prop} {a1 a2 a3 a4 a5 a6 a7 : Option Value} {x : Nat} : WP E c 234 95 [some (.ref x), a1, a2, a3, a4, a5, a6, a7] (st) ah Q = WP E c 234 96 [some (.ref x), a1, a2, a3, a4, a5, a6, a7] (.ref x :: st) ah Q := wp_s i234_95 rfl rfl rfl rfl
theorem i234_96 : insAt 234 96 = some (.iload 1, 97) := by decide +kernel
theorem r234_96 {E : aEnv} {c : Nat} {ah : aHp} {st : List Value} {Q : Option Value → aHp → Prop} {a0 a2 a3 a4 a5 a6 a7 : Option Value} {x : Int32} : WP E c 234 96 [a0, some (.int x), a2, a3, a4, a5, a6, a7] (st) ah Q = WP E c 234 97 [a0, some (.int x), a2, a3, a4, a5, a6, a7] (.int x :: st) ah Q := wp_s i234_96 rfl rfl rfl rfl
theorem i234_97 : insAt 234 97 = some (.iload 5, 99) := by decide +kernel
theorem r234_97 {E : aEnv} {c : Nat} {ah : aHp} {st : List Value} {Q : Option Value → aHp → Prop} {a0 a1 a2 a3 a4 a6 a7 : Option Value} {x : Int32} : WP E c 234 97 [a0, a1, a2, a3, a4, some (.int x), a6, a7] (st) ah Q = WP E c 234 99 [a0, a1, a2, a3, a4, some (.int x), a6, a7] (.int x :: st) ah Q := wp_s i234_97 rfl rfl rfl rfl
theorem i234_99 : insAt 234 99 = some (.invokevirtual 210, 102) := by decide +kernel
theorem r234_99 {E : aEnv} {c : Nat} {ah ah1 : aHp} {r : Option Value} {st : List Value} {Q : Option Value → aHp → Prop} {a0 a1 a2 a3 a4 a5 a6 a7 : Option Value} {p0 : Nat} {p1 : Int32} {p2 : Int32} (h : EV E c 210 [.ref p0, .int p1, .int p2] ah r ah1) (h2 : oCI (hg E ah p0) = 11) (h3 : wds st ≤ 8) : WP E (c + 1) 234 99 [a0, a1, a2, a3, a4, a5, a6, a7] (.int p2 :: .int p1 :: .ref p0 :: st) ah Q = WP E (c + 1) 234 102 [a0, a1, a2, a3, a4, a5, a6, a7] (r.toList ++ st) ah1 Q := wp_call (As := [.ref p0, .int p1, .int p2]) i234_99 (fun _ => rfl) rfl mr210.1 (rcv_1 h2 mr210.2.2 (by decide)) h3 (by rw [mr210.2.1]; exact Nat.le_of_ble_eq_true rfl) h
theorem i234_102 : insAt 234 102 = some (.jsr_w (-10000), 105) := by decide +kernel
theorem r234_102 {E : aEnv} {c : Nat} {ah : aHp} {st : List Value} {Q : Option Value → aHp → Prop} {a0 a1 a2 a3 a4 a5 a6 a7 : Option Value} : WP E c 234 102 [a0, a1, a2, a3, a4, a5, a6, a7] (st) ah Q = WP E c 234 105 [a0, a1, a2, a3, a4, a5, a6, a7] (.long ((-10000)) :: st) ah Q := wp_s i234_102 rfl rfl rfl rfl
theorem i234_105 : insAt 234 105 = some (.jsr_w 10000, 108) := by decide +kernel
theorem r234_105 {E : aEnv} {c : Nat} {ah : aHp} {st : List Value} {Q : Option Value → aHp → Prop} {a0 a1 a2 a3 a4 a5 a6 a7 : Option Value} : WP E c 234 105 [a0, a1, a2, a3, a4, a5, a6, a7] (st) ah Q = WP E c 234 108 [a0, a1, a2, a3, a4, a5, a6, a7] (.long (10000) :: st) ah Q := wp_s i234_105 rfl rfl rfl rfl
theorem i234_108 : insAt 234 108 = some (.invokestatic 199, 111) := by decide +kernel
theorem r234_108 {E : aEnv} {c : Nat} {ah ah1 : aHp} {r : Option Value} {st : List Value} {Q : Option Value → aHp → Prop} {a0 a1 a2 a3 a4 a5 a6 a7 : Option Value} {p0 : Int64} {p1 : Int64} {p2 : Int64} (h : EV E c 199 [.long p0, .long p1, .long p2] ah r ah1) (h3 : wds st ≤ 8) : WP E (c + 1) 234 108 [a0, a1, a2, a3, a4, a5, a6, a7] (.long p2 :: .long p1 :: .long p0 :: st) ah Q = WP E (c + 1) 234 111 [a0, a1, a2, a3, a4, a5, a6, a7] (r.toList ++ st) ah1 Q := wp_call (As := [.long p0, .long p1, .long p2]) i234_108 (fun _ => rfl) rfl mr199.1 rfl h3 (by rw [mr199.2.1]; exact Nat.le_of_ble_eq_true rfl) h
theorem i234_111 : insAt 234 111 = some (.ifCond .ne 120, 114) := by decide +kernel
theorem r234_111 {E : aEnv} {c : Nat} {ah : aHp} {st : List Value} {Q : Option Value → aHp → Prop} {a0 a1 a2 a3 a4 a5 a6 a7 : Option Value} {x : Int32} : WP E c 234 111 [a0, a1, a2, a3, a4, a5, a6, a7] (.int x :: st) ah Q = if ¬ x = 0 then WP E c 234 120 [a0, a1, a2, a3, a4, a5, a6, a7] st ah Q else WP E c 234 114 [a0, a1, a2, a3, a4, a5, a6, a7] st ah Q := wp_j i234_111 rfl rfl rfl rfl
theorem i234_114 : insAt 234 114 = some (.aload 0, 115) := by decide +kernel
theorem r234_114 {E : aEnv} {c : Nat} {ah : aHp} {st : List Value} {Q : Option Value → aHp → Prop} {a1 a2 a3 a4 a5 a6 a7 : Option Value} {x : Nat} : WP E c 234 114 [some (.ref x), a1, a2, a3, a4, a5, a6, a7] (st) ah Q = WP E c 234 115 [some (.ref x), a1, a2, a3, a4, a5, a6, a7] (.ref x :: st) ah Q := wp_s i234_114 rfl rfl rfl rfl
theorem i234_115 : insAt 234 115 = some (.iconst 5, 116) := by decide +kernel
theorem r234_115 {E : aEnv} {c : Nat} {ah : aHp} {st : List Value} {Q : Option Value → aHp → Prop} {a0 a1 a2 a3 a4 a5 a6 a7 : Option Value} : WP E c 234 115 [a0, a1, a2, a3, a4, a5, a6, a7] (st) ah Q = WP E c 234 116 [a0, a1, a2, a3, a4, a5, a6, a7] (.int (5) :: st) ah Q := wp_s i234_115 rfl rfl rfl rfl
theorem i234_116 : insAt 234 116 = some (.invokevirtual 197, 119) := by decide +kernel
theorem r234_116 {E : aEnv} {c : Nat} {ah ah1 : aHp} {r : Option Value} {st : List Value} {Q : Option Value → aHp → Prop} {a0 a1 a2 a3 a4 a5 a6 a7 : Option Value} {p0 : Nat} {p1 : Int32} (h : EV E c 197 [.ref p0, .int p1] ah r ah1) (h2 : oCI (hg E ah p0) = 11) (h3 : wds st ≤ 8) : WP E (c + 1) 234 116 [a0, a1, a2, a3, a4, a5, a6, a7] (.int p1 :: .ref p0 :: st) ah Q = WP E (c + 1) 234 119 [a0, a1, a2, a3, a4, a5, a6, a7] (r.toList ++ st) ah1 Q := wp_call (As := [.ref p0, .int p1]) i234_116 (fun _ => rfl) rfl mr197.1 (rcv_1 h2 mr197.2.2 (by decide)) h3 (by rw [mr197.2.1]; exact Nat.le_of_ble_eq_true rfl) h
theorem i234_119 : insAt 234 119 = some (.ireturn, 120) := by decide +kernel
theorem r234_119 {E : aEnv} {c : Nat} {ah : aHp} {Q : Option Value → aHp → Prop} {a0 a1 a2 a3 a4 a5 a6 a7 : Option Value} {x : Int32} : WP E c 234 119 [a0, a1, a2, a3, a4, a5, a6, a7] ([.int x]) ah Q = Q (some (.int x)) ah := wp_rt i234_119 rfl
theorem i234_120 : insAt 234 120 = some (.iinc 5 1, 123) := by decide +kernel
theorem r234_120 {E : aEnv} {c : Nat} {ah : aHp} {st : List Value} {Q : Option Value → aHp → Prop} {a0 a1 a2 a3 a4 a6 a7 : Option Value} {x : Int32} : WP E c 234 120 [a0, a1, a2, a3, a4, some (.int x), a6, a7] (st) ah Q = WP E c 234 123 [a0, a1, a2, a3, kil a4, some (.int (x + 1)), a6, a7] (st) ah Q := wp_s i234_120 rfl rfl rfl rfl
theorem i234_123 : insAt 234 123 = some (.goto 89, 126) := by decide +kernel
theorem r234_123 {E : aEnv} {c : Nat} {ah : aHp} {st : List Value} {Q : Option Value → aHp → Prop} {a0 a1 a2 a3 a4 a5 a6 a7 : Option Value} : WP E c 234 123 [a0, a1, a2, a3, a4, a5, a6, a7] (st) ah Q = WP E c 234 89 [a0, a1, a2, a3, a4, a5, a6, a7] st ah Q := wp_s i234_123 rfl rfl rfl rfl
theorem i234_126 : insAt 234 126 = some (.iconst 0, 127) := by decide +kernel
theorem r234_126 {E : aEnv} {c : Nat} {ah : aHp} {st : List Value} {Q : Option Value → aHp → Prop} {a0 a1 a2 a3 a4 a5 a6 a7 : Option Value} : WP E c 234 126 [a0, a1, a2, a3, a4, a5, a6, a7] (st) ah Q = WP E c 234 127 [a0, a1, a2, a3, a4, a5, a6, a7] (.int (0) :: st) ah Q := wp_s i234_126 rfl rfl rfl rfl
theorem i234_127 : insAt 234 127 = some (.istore 5, 129) := by decide +kernel
theorem r234_127 {E : aEnv} {c : Nat} {ah : aHp} {st : List Value} {Q : Option Value → aHp → Prop} {a0 a1 a2 a3 a4 a5 a6 a7 : Option Value} {x : Int32} : WP E c 234 127 [a0, a1, a2, a3, a4, a5, a6, a7] (.int x :: st) ah Q = WP E c 234 129 [a0, a1, a2, a3, kil a4, some (.int x), a6, a7] (st) ah Q := wp_s i234_127 rfl rfl rfl rfl
theorem i234_129 : insAt 234 129 = some (.iload 5, 131) := by decide +kernel
theorem r234_129 {E : aEnv} {c : Nat} {ah : aHp} {st : List Value} {Q : Option Value → aHp → Prop} {a0 a1 a2 a3 a4 a6 a7 : Option Value} {x : Int32} : WP E c 234 129 [a0, a1, a2, a3, a4, some (.int x), a6, a7] (st) ah Q = WP E c 234 131 [a0, a1, a2, a3, a4, some (.int x), a6, a7] (.int x :: st) ah Q := wp_s i234_129 rfl rfl rfl rfl
theorem i234_131 : insAt 234 131 = some (.iload 2, 132) := by decide +kernel
theorem r234_131 {E : aEnv} {c : Nat} {ah : aHp} {st : List Value} {Q : Option Value → aHp → Prop} {a0 a1 a3 a4 a5 a6 a7 : Option Value} {x : Int32} : WP E c 234 131 [a0, a1, some (.int x), a3, a4, a5, a6, a7] (st) ah Q = WP E c 234 132 [a0, a1, some (.int x), a3, a4, a5, a6, a7] (.int x :: st) ah Q := wp_s i234_131 rfl rfl rfl rfl
theorem i234_132 : insAt 234 132 = some (.if_icmp .gt 155, 135) := by decide +kernel
theorem r234_132 {E : aEnv} {c : Nat} {ah : aHp} {st : List Value} {Q : Option Value → aHp → Prop} {a0 a1 a2 a3 a4 a5 a6 a7 : Option Value} {x y : Int32} : WP E c 234 132 [a0, a1, a2, a3, a4, a5, a6, a7] (.int y :: .int x :: st) ah Q = if y < x then WP E c 234 155 [a0, a1, a2, a3, a4, a5, a6, a7] st ah Q else WP E c 234 135 [a0, a1, a2, a3, a4, a5, a6, a7] st ah Q := wp_j i234_132 rfl rfl rfl rfl
theorem i234_135 : insAt 234 135 = some (.aload 0, 136) := by decide +kernel
theorem r234_135 {E : aEnv} {c : Nat} {ah : aHp} {st : List Value} {Q : Option Value → aHp → Prop} {a1 a2 a3 a4 a5 a6 a7 : Option Value} {x : Nat} : WP E c 234 135 [some (.ref x), a1, a2, a3, a4, a5, a6, a7] (st) ah Q = WP E c 234 136 [some (.ref x), a1, a2, a3, a4, a5, a6, a7] (.ref x :: st) ah Q := wp_s i234_135 rfl rfl rfl rfl
theorem i234_136 : insAt 234 136 = some (.getfield 11962, 139) := by decide +kernel
theorem r234_136 {E : aEnv} {c : Nat} {ah : aHp} {st : List Value} {Q : Option Value → aHp → Prop} {a0 a1 a2 a3 a4 a5 a6 a7 : Option Value} {a : Nat} : WP E c 234 136 [a0, a1, a2, a3, a4, a5, a6, a7] (.ref a :: st) ah Q = WPo (oGF (hg E ah a) 11 96) (fun v => WP E c 234 139 [a0, a1, a2, a3, a4, a5, a6, a7] (v :: st) ah Q) := wp_getf i234_136
theorem i234_139 : insAt 234 139 = some (.iload 5, 141) := by decide +kernel
theorem r234_139 {E : aEnv} {c : Nat} {ah : aHp} {st : List Value} {Q : Option Value → aHp → Prop} {a0 a1 a2 a3 a4 a6 a7 : Option Value} {x : Int32} : WP E c 234 139 [a0, a1, a2, a3, a4, some (.int x), a6, a7] (st) ah Q = WP E c 234 141 [a0, a1, a2, a3, a4, some (.int x), a6, a7] (.int x :: st) ah Q := wp_s i234_139 rfl rfl rfl rfl
theorem i234_141 : insAt 234 141 = some (.aload 0, 142) := by decide +kernel
theorem r234_141 {E : aEnv} {c : Nat} {ah : aHp} {st : List Value} {Q : Option Value → aHp → Prop} {a1 a2 a3 a4 a5 a6 a7 : Option Value} {x : Nat} : WP E c 234 141 [some (.ref x), a1, a2, a3, a4, a5, a6, a7] (st) ah Q = WP E c 234 142 [some (.ref x), a1, a2, a3, a4, a5, a6, a7] (.ref x :: st) ah Q := wp_s i234_141 rfl rfl rfl rfl
theorem i234_142 : insAt 234 142 = some (.iload 1, 143) := by decide +kernel
theorem r234_142 {E : aEnv} {c : Nat} {ah : aHp} {st : List Value} {Q : Option Value → aHp → Prop} {a0 a2 a3 a4 a5 a6 a7 : Option Value} {x : Int32} : WP E c 234 142 [a0, some (.int x), a2, a3, a4, a5, a6, a7] (st) ah Q = WP E c 234 143 [a0, some (.int x), a2, a3, a4, a5, a6, a7] (.int x :: st) ah Q := wp_s i234_142 rfl rfl rfl rfl
theorem i234_143 : insAt 234 143 = some (.iload 5, 145) := by decide +kernel
theorem r234_143 {E : aEnv} {c : Nat} {ah : aHp} {st : List Value} {Q : Option Value → aHp → Prop} {a0 a1 a2 a3 a4 a6 a7 : Option Value} {x : Int32} : WP E c 234 143 [a0, a1, a2, a3, a4, some (.int x), a6, a7] (st) ah Q = WP E c 234 145 [a0, a1, a2, a3, a4, some (.int x), a6, a7] (.int x :: st) ah Q := wp_s i234_143 rfl rfl rfl rfl
theorem i234_145 : insAt 234 145 = some (.invokevirtual 210, 148) := by decide +kernel
theorem r234_145 {E : aEnv} {c : Nat} {ah ah1 : aHp} {r : Option Value} {st : List Value} {Q : Option Value → aHp → Prop} {a0 a1 a2 a3 a4 a5 a6 a7 : Option Value} {p0 : Nat} {p1 : Int32} {p2 : Int32} (h : EV E c 210 [.ref p0, .int p1, .int p2] ah r ah1) (h2 : oCI (hg E ah p0) = 11) (h3 : wds st ≤ 8) : WP E (c + 1) 234 145 [a0, a1, a2, a3, a4, a5, a6, a7] (.int p2 :: .int p1 :: .ref p0 :: st) ah Q = WP E (c + 1) 234 148 [a0, a1, a2, a3, a4, a5, a6, a7] (r.toList ++ st) ah1 Q := wp_call (As := [.ref p0, .int p1, .int p2]) i234_145 (fun _ => rfl) rfl mr210.1 (rcv_1 h2 mr210.2.2 (by decide)) h3 (by rw [mr210.2.1]; exact Nat.le_of_ble_eq_true rfl) h
theorem i234_148 : insAt 234 148 = some (.lastore, 149) := by decide +kernel
theorem r234_148 {E : aEnv} {c : Nat} {ah : aHp} {st : List Value} {Q : Option Value → aHp → Prop} {a0 a1 a2 a3 a4 a5 a6 a7 : Option Value} {x : Int64} {i : Int32} {a : Nat} : WP E c 234 148 [a0, a1, a2, a3, a4, a5, a6, a7] (.long x :: .int i :: .ref a :: st) ah Q = WPo (pL E ah (.long x :: .int i :: .ref a :: st)) (fun q9 => WP E c 234 149 [a0, a1, a2, a3, a4, a5, a6, a7] q9.1 q9.2 Q) := wp_hw i234_148 rfl rfl rfl rfl rfl rfl rfl rfl
theorem i234_149 : insAt 234 149 = some (.iinc 5 1, 152) := by decide +kernel
theorem r234_149 {E : aEnv} {c : Nat} {ah : aHp} {st : List Value} {Q : Option Value → aHp → Prop} {a0 a1 a2 a3 a4 a6 a7 : Option Value} {x : Int32} : WP E c 234 149 [a0, a1, a2, a3, a4, some (.int x), a6, a7] (st) ah Q = WP E c 234 152 [a0, a1, a2, a3, kil a4, some (.int (x + 1)), a6, a7] (st) ah Q := wp_s i234_149 rfl rfl rfl rfl
theorem i234_152 : insAt 234 152 = some (.goto 129, 155) := by decide +kernel
theorem r234_152 {E : aEnv} {c : Nat} {ah : aHp} {st : List Value} {Q : Option Value → aHp → Prop} {a0 a1 a2 a3 a4 a5 a6 a7 : Option Value} : WP E c 234 152 [a0, a1, a2, a3, a4, a5, a6, a7] (st) ah Q = WP E c 234 129 [a0, a1, a2, a3, a4, a5, a6, a7] st ah Q := wp_s i234_152 rfl rfl rfl rfl
theorem i234_155 : insAt 234 155 = some (.iconst 1, 156) := by decide +kernel
theorem r234_155 {E : aEnv} {c : Nat} {ah : aHp} {st : List Value} {Q : Option Value → aHp → Prop} {a0 a1 a2 a3 a4 a5 a6 a7 : Option Value} : WP E c 234 155 [a0, a1, a2, a3, a4, a5, a6, a7] (st) ah Q = WP E c 234 156 [a0, a1, a2, a3, a4, a5, a6, a7] (.int (1) :: st) ah Q := wp_s i234_155 rfl rfl rfl rfl
theorem i234_156 : insAt 234 156 = some (.istore 5, 158) := by decide +kernel
theorem r234_156 {E : aEnv} {c : Nat} {ah : aHp} {st : List Value} {Q : Option Value → aHp → Prop} {a0 a1 a2 a3 a4 a5 a6 a7 : Option Value} {x : Int32} : WP E c 234 156 [a0, a1, a2, a3, a4, a5, a6, a7] (.int x :: st) ah Q = WP E c 234 158 [a0, a1, a2, a3, kil a4, some (.int x), a6, a7] (st) ah Q := wp_s i234_156 rfl rfl rfl rfl
theorem i234_158 : insAt 234 158 = some (.iload 5, 160) := by decide +kernel
theorem r234_158 {E : aEnv} {c : Nat} {ah : aHp} {st : List Value} {Q : Option Value → aHp → Prop} {a0 a1 a2 a3 a4 a6 a7 : Option Value} {x : Int32} : WP E c 234 158 [a0, a1, a2, a3, a4, some (.int x), a6, a7] (st) ah Q = WP E c 234 160 [a0, a1, a2, a3, a4, some (.int x), a6, a7] (.int x :: st) ah Q := wp_s i234_158 rfl rfl rfl rfl
theorem i234_160 : insAt 234 160 = some (.iload 2, 161) := by decide +kernel
theorem r234_160 {E : aEnv} {c : Nat} {ah : aHp} {st : List Value} {Q : Option Value → aHp → Prop} {a0 a1 a3 a4 a5 a6 a7 : Option Value} {x : Int32} : WP E c 234 160 [a0, a1, some (.int x), a3, a4, a5, a6, a7] (st) ah Q = WP E c 234 161 [a0, a1, some (.int x), a3, a4, a5, a6, a7] (.int x :: st) ah Q := wp_s i234_160 rfl rfl rfl rfl
theorem i234_161 : insAt 234 161 = some (.if_icmp .gt 205, 164) := by decide +kernel
theorem r234_161 {E : aEnv} {c : Nat} {ah : aHp} {st : List Value} {Q : Option Value → aHp → Prop} {a0 a1 a2 a3 a4 a5 a6 a7 : Option Value} {x y : Int32} : WP E c 234 161 [a0, a1, a2, a3, a4, a5, a6, a7] (.int y :: .int x :: st) ah Q = if y < x then WP E c 234 205 [a0, a1, a2, a3, a4, a5, a6, a7] st ah Q else WP E c 234 164 [a0, a1, a2, a3, a4, a5, a6, a7] st ah Q := wp_j i234_161 rfl rfl rfl rfl
theorem i234_164 : insAt 234 164 = some (.iload 2, 165) := by decide +kernel
theorem r234_164 {E : aEnv} {c : Nat} {ah : aHp} {st : List Value} {Q : Option Value → aHp → Prop} {a0 a1 a3 a4 a5 a6 a7 : Option Value} {x : Int32} : WP E c 234 164 [a0, a1, some (.int x), a3, a4, a5, a6, a7] (st) ah Q = WP E c 234 165 [a0, a1, some (.int x), a3, a4, a5, a6, a7] (.int x :: st) ah Q := wp_s i234_164 rfl rfl rfl rfl
theorem i234_165 : insAt 234 165 = some (.istore 6, 167) := by decide +kernel
theorem r234_165 {E : aEnv} {c : Nat} {ah : aHp} {st : List Value} {Q : Option Value → aHp → Prop} {a0 a1 a2 a3 a4 a5 a6 a7 : Option Value} {x : Int32} : WP E c 234 165 [a0, a1, a2, a3, a4, a5, a6, a7] (.int x :: st) ah Q = WP E c 234 167 [a0, a1, a2, a3, a4, kil a5, some (.int x), a7] (st) ah Q := wp_s i234_165 rfl rfl rfl rfl
theorem i234_167 : insAt 234 167 = some (.iload 6, 169) := by decide +kernel
theorem r234_167 {E : aEnv} {c : Nat} {ah : aHp} {st : List Value} {Q : Option Value → aHp → Prop} {a0 a1 a2 a3 a4 a5 a7 : Option Value} {x : Int32} : WP E c 234 167 [a0, a1, a2, a3, a4, a5, some (.int x), a7] (st) ah Q = WP E c 234 169 [a0, a1, a2, a3, a4, a5, some (.int x), a7] (.int x :: st) ah Q := wp_s i234_167 rfl rfl rfl rfl
theorem i234_169 : insAt 234 169 = some (.iload 5, 171) := by decide +kernel
theorem r234_169 {E : aEnv} {c : Nat} {ah : aHp} {st : List Value} {Q : Option Value → aHp → Prop} {a0 a1 a2 a3 a4 a6 a7 : Option Value} {x : Int32} : WP E c 234 169 [a0, a1, a2, a3, a4, some (.int x), a6, a7] (st) ah Q = WP E c 234 171 [a0, a1, a2, a3, a4, some (.int x), a6, a7] (.int x :: st) ah Q := wp_s i234_169 rfl rfl rfl rfl
theorem i234_171 : insAt 234 171 = some (.if_icmp .lt 199, 174) := by decide +kernel
theorem r234_171 {E : aEnv} {c : Nat} {ah : aHp} {st : List Value} {Q : Option Value → aHp → Prop} {a0 a1 a2 a3 a4 a5 a6 a7 : Option Value} {x y : Int32} : WP E c 234 171 [a0, a1, a2, a3, a4, a5, a6, a7] (.int y :: .int x :: st) ah Q = if x < y then WP E c 234 199 [a0, a1, a2, a3, a4, a5, a6, a7] st ah Q else WP E c 234 174 [a0, a1, a2, a3, a4, a5, a6, a7] st ah Q := wp_j i234_171 rfl rfl rfl rfl
theorem i234_174 : insAt 234 174 = some (.aload 0, 175) := by decide +kernel
theorem r234_174 {E : aEnv} {c : Nat} {ah : aHp} {st : List Value} {Q : Option Value → aHp → Prop} {a1 a2 a3 a4 a5 a6 a7 : Option Value} {x : Nat} : WP E c 234 174 [some (.ref x), a1, a2, a3, a4, a5, a6, a7] (st) ah Q = WP E c 234 175 [some (.ref x), a1, a2, a3, a4, a5, a6, a7] (.ref x :: st) ah Q := wp_s i234_174 rfl rfl rfl rfl
theorem i234_175 : insAt 234 175 = some (.getfield 11962, 178) := by decide +kernel
theorem r234_175 {E : aEnv} {c : Nat} {ah : aHp} {st : List Value} {Q : Option Value → aHp → Prop} {a0 a1 a2 a3 a4 a5 a6 a7 : Option Value} {a : Nat} : WP E c 234 175 [a0, a1, a2, a3, a4, a5, a6, a7] (.ref a :: st) ah Q = WPo (oGF (hg E ah a) 11 96) (fun v => WP E c 234 178 [a0, a1, a2, a3, a4, a5, a6, a7] (v :: st) ah Q) := wp_getf i234_175
theorem i234_178 : insAt 234 178 = some (.iload 6, 180) := by decide +kernel
theorem r234_178 {E : aEnv} {c : Nat} {ah : aHp} {st : List Value} {Q : Option Value → aHp → Prop} {a0 a1 a2 a3 a4 a5 a7 : Option Value} {x : Int32} : WP E c 234 178 [a0, a1, a2, a3, a4, a5, some (.int x), a7] (st) ah Q = WP E c 234 180 [a0, a1, a2, a3, a4, a5, some (.int x), a7] (.int x :: st) ah Q := wp_s i234_178 rfl rfl rfl rfl
theorem i234_180 : insAt 234 180 = some (.dup2, 181) := by decide +kernel
theorem r234_180 {E : aEnv} {c : Nat} {ah : aHp} {st : List Value} {Q : Option Value → aHp → Prop} {a0 a1 a2 a3 a4 a5 a6 a7 : Option Value} {x : Int32} {a : Nat} : WP E c 234 180 [a0, a1, a2, a3, a4, a5, a6, a7] (.int x :: .ref a :: st) ah Q = WP E c 234 181 [a0, a1, a2, a3, a4, a5, a6, a7] (.int x :: .ref a :: .int x :: .ref a :: st) ah Q := wp_s i234_180 rfl rfl rfl rfl
theorem r234_180l {E : aEnv} {c : Nat} {ah : aHp} {st : List Value} {Q : Option Value → aHp → Prop} {a0 a1 a2 a3 a4 a5 a6 a7 : Option Value} {x : Int64} : WP E c 234 180 [a0, a1, a2, a3, a4, a5, a6, a7] (.long x :: st) ah Q = WP E c 234 181 [a0, a1, a2, a3, a4, a5, a6, a7] (.long x :: .long x :: st) ah Q := wp_s i234_180 rfl rfl rfl rfl
theorem i234_181 : insAt 234 181 = some (.laload, 182) := by decide +kernel
theorem r234_181 {E : aEnv} {c : Nat} {ah : aHp} {st : List Value} {Q : Option Value → aHp → Prop} {a0 a1 a2 a3 a4 a5 a6 a7 : Option Value} {i : Int32} {a : Nat} : WP E c 234 181 [a0, a1, a2, a3, a4, a5, a6, a7] (.int i :: .ref a :: st) ah Q = WPo (gL E ah (.int i :: .ref a :: st)) (fun s9 => WP E c 234 182 [a0, a1, a2, a3, a4, a5, a6, a7] s9 ah Q) := wp_hr i234_181 rfl rfl rfl rfl rfl rfl rfl rfl
theorem i234_182 : insAt 234 182 = some (.aload 0, 183) := by decide +kernel
theorem r234_182 {E : aEnv} {c : Nat} {ah : aHp} {st : List Value} {Q : Option Value → aHp → Prop} {a1 a2 a3 a4 a5 a6 a7 : Option Value} {x : Nat} : WP E c 234 182 [some (.ref x), a1, a2, a3, a4, a5, a6, a7] (st) ah Q = WP E c 234 183 [some (.ref x), a1, a2, a3, a4, a5, a6, a7] (.ref x :: st) ah Q := wp_s i234_182 rfl rfl rfl rfl
theorem i234_183 : insAt 234 183 = some (.getfield 11962, 186) := by decide +kernel
theorem r234_183 {E : aEnv} {c : Nat} {ah : aHp} {st : List Value} {Q : Option Value → aHp → Prop} {a0 a1 a2 a3 a4 a5 a6 a7 : Option Value} {a : Nat} : WP E c 234 183 [a0, a1, a2, a3, a4, a5, a6, a7] (.ref a :: st) ah Q = WPo (oGF (hg E ah a) 11 96) (fun v => WP E c 234 186 [a0, a1, a2, a3, a4, a5, a6, a7] (v :: st) ah Q) := wp_getf i234_183
theorem i234_186 : insAt 234 186 = some (.iload 6, 188) := by decide +kernel
theorem r234_186 {E : aEnv} {c : Nat} {ah : aHp} {st : List Value} {Q : Option Value → aHp → Prop} {a0 a1 a2 a3 a4 a5 a7 : Option Value} {x : Int32} : WP E c 234 186 [a0, a1, a2, a3, a4, a5, some (.int x), a7] (st) ah Q = WP E c 234 188 [a0, a1, a2, a3, a4, a5, some (.int x), a7] (.int x :: st) ah Q := wp_s i234_186 rfl rfl rfl rfl
theorem i234_188 : insAt 234 188 = some (.iconst 1, 189) := by decide +kernel
theorem r234_188 {E : aEnv} {c : Nat} {ah : aHp} {st : List Value} {Q : Option Value → aHp → Prop} {a0 a1 a2 a3 a4 a5 a6 a7 : Option Value} : WP E c 234 188 [a0, a1, a2, a3, a4, a5, a6, a7] (st) ah Q = WP E c 234 189 [a0, a1, a2, a3, a4, a5, a6, a7] (.int (1) :: st) ah Q := wp_s i234_188 rfl rfl rfl rfl
theorem i234_189 : insAt 234 189 = some (.isub, 190) := by decide +kernel
theorem r234_189 {E : aEnv} {c : Nat} {ah : aHp} {st : List Value} {Q : Option Value → aHp → Prop} {a0 a1 a2 a3 a4 a5 a6 a7 : Option Value} {x y : Int32} : WP E c 234 189 [a0, a1, a2, a3, a4, a5, a6, a7] (.int y :: .int x :: st) ah Q = WP E c 234 190 [a0, a1, a2, a3, a4, a5, a6, a7] (.int (x - y) :: st) ah Q := wp_s i234_189 rfl rfl rfl rfl
theorem i234_190 : insAt 234 190 = some (.laload, 191) := by decide +kernel
theorem r234_190 {E : aEnv} {c : Nat} {ah : aHp} {st : List Value} {Q : Option Value → aHp → Prop} {a0 a1 a2 a3 a4 a5 a6 a7 : Option Value} {i : Int32} {a : Nat} : WP E c 234 190 [a0, a1, a2, a3, a4, a5, a6, a7] (.int i :: .ref a :: st) ah Q = WPo (gL E ah (.int i :: .ref a :: st)) (fun s9 => WP E c 234 191 [a0, a1, a2, a3, a4, a5, a6, a7] s9 ah Q) := wp_hr i234_190 rfl rfl rfl rfl rfl rfl rfl rfl
theorem i234_191 : insAt 234 191 = some (.lsub, 192) := by decide +kernel
theorem r234_191 {E : aEnv} {c : Nat} {ah : aHp} {st : List Value} {Q : Option Value → aHp → Prop} {a0 a1 a2 a3 a4 a5 a6 a7 : Option Value} {x y : Int64} : WP E c 234 191 [a0, a1, a2, a3, a4, a5, a6, a7] (.long y :: .long x :: st) ah Q = WP E c 234 192 [a0, a1, a2, a3, a4, a5, a6, a7] (.long (x - y) :: st) ah Q := wp_s i234_191 rfl rfl rfl rfl
theorem i234_192 : insAt 234 192 = some (.lastore, 193) := by decide +kernel
theorem r234_192 {E : aEnv} {c : Nat} {ah : aHp} {st : List Value} {Q : Option Value → aHp → Prop} {a0 a1 a2 a3 a4 a5 a6 a7 : Option Value} {x : Int64} {i : Int32} {a : Nat} : WP E c 234 192 [a0, a1, a2, a3, a4, a5, a6, a7] (.long x :: .int i :: .ref a :: st) ah Q = WPo (pL E ah (.long x :: .int i :: .ref a :: st)) (fun q9 => WP E c 234 193 [a0, a1, a2, a3, a4, a5, a6, a7] q9.1 q9.2 Q) := wp_hw i234_192 rfl rfl rfl rfl rfl rfl rfl rfl
theorem i234_193 : insAt 234 193 = some (.iinc 6 (-1), 196) := by decide +kernel
theorem r234_193 {E : aEnv} {c : Nat} {ah : aHp} {st : List Value} {Q : Option Value → aHp → Prop} {a0 a1 a2 a3 a4 a5 a7 : Option Value} {x : Int32} : WP E c 234 193 [a0, a1, a2, a3, a4, a5, some (.int x), a7] (st) ah Q = WP E c 234 196 [a0, a1, a2, a3, a4, kil a5, some (.int (x + (-1))), a7] (st) ah Q := wp_s i234_193 rfl rfl rfl rfl
theorem i234_196 : insAt 234 196 = some (.goto 167, 199) := by decide +kernel
theorem r234_196 {E : aEnv} {c : Nat} {ah : aHp} {st : List Value} {Q : Option Value → aHp → Prop} {a0 a1 a2 a3 a4 a5 a6 a7 : Option Value} : WP E c 234 196 [a0, a1, a2, a3, a4, a5, a6, a7] (st) ah Q = WP E c 234 167 [a0, a1, a2, a3, a4, a5, a6, a7] st ah Q := wp_s i234_196 rfl rfl rfl rfl
theorem i234_199 : insAt 234 199 = some (.iinc 5 1, 202) := by decide +kernel
theorem r234_199 {E : aEnv} {c : Nat} {ah : aHp} {st : List Value} {Q : Option Value → aHp → Prop} {a0 a1 a2 a3 a4 a6 a7 : Option Value} {x : Int32} : WP E c 234 199 [a0, a1, a2, a3, a4, some (.int x), a6, a7] (st) ah Q = WP E c 234 202 [a0, a1, a2, a3, kil a4, some (.int (x + 1)), a6, a7] (st) ah Q := wp_s i234_199 rfl rfl rfl rfl
theorem i234_202 : insAt 234 202 = some (.goto 158, 205) := by decide +kernel
theorem r234_202 {E : aEnv} {c : Nat} {ah : aHp} {st : List Value} {Q : Option Value → aHp → Prop} {a0 a1 a2 a3 a4 a5 a6 a7 : Option Value} : WP E c 234 202 [a0, a1, a2, a3, a4, a5, a6, a7] (st) ah Q = WP E c 234 158 [a0, a1, a2, a3, a4, a5, a6, a7] st ah Q := wp_s i234_202 rfl rfl rfl rfl
theorem i234_205 : insAt 234 205 = some (.jsr_w 1, 206) := by decide +kernel
theorem r234_205 {E : aEnv} {c : Nat} {ah : aHp} {st : List Value} {Q : Option Value → aHp → Prop} {a0 a1 a2 a3 a4 a5 a6 a7 : Option Value} : WP E c 234 205 [a0, a1, a2, a3, a4, a5, a6, a7] (st) ah Q = WP E c 234 206 [a0, a1, a2, a3, a4, a5, a6, a7] (.long (1) :: st) ah Q := wp_s i234_205 rfl rfl rfl rfl
theorem i234_206 : insAt 234 206 = some (.lstore 5, 208) := by decide +kernel
theorem r234_206 {E : aEnv} {c : Nat} {ah : aHp} {st : List Value} {Q : Option Value → aHp → Prop} {a0 a1 a2 a3 a4 a5 a6 a7 : Option Value} {x : Int64} : WP E c 234 206 [a0, a1, a2, a3, a4, a5, a6, a7] (.long x :: st) ah Q = WP E c 234 208 [a0, a1, a2, a3, kil a4, some (.long x), none, a7] (st) ah Q := wp_s i234_206 rfl rfl rfl rfl
theorem i234_208 : insAt 234 208 = some (.iconst 0, 209) := by decide +kernel
theorem r234_208 {E : aEnv} {c : Nat} {ah : aHp} {st : List Value} {Q : Option Value → aHp → Prop} {a0 a1 a2 a3 a4 a5 a6 a7 : Option Value} : WP E c 234 208 [a0, a1, a2, a3, a4, a5, a6, a7] (st) ah Q = WP E c 234 209 [a0, a1, a2, a3, a4, a5, a6, a7] (.int (0) :: st) ah Q := wp_s i234_208 rfl rfl rfl rfl
theorem i234_209 : insAt 234 209 = some (.istore 7, 211) := by decide +kernel
theorem r234_209 {E : aEnv} {c : Nat} {ah : aHp} {st : List Value} {Q : Option Value → aHp → Prop} {a0 a1 a2 a3 a4 a5 a6 a7 : Option Value} {x : Int32} : WP E c 234 209 [a0, a1, a2, a3, a4, a5, a6, a7] (.int x :: st) ah Q = WP E c 234 211 [a0, a1, a2, a3, a4, a5, kil a6, some (.int x)] (st) ah Q := wp_s i234_209 rfl rfl rfl rfl
theorem i234_211 : insAt 234 211 = some (.iload 7, 213) := by decide +kernel
theorem r234_211 {E : aEnv} {c : Nat} {ah : aHp} {st : List Value} {Q : Option Value → aHp → Prop} {a0 a1 a2 a3 a4 a5 a6 : Option Value} {x : Int32} : WP E c 234 211 [a0, a1, a2, a3, a4, a5, a6, some (.int x)] (st) ah Q = WP E c 234 213 [a0, a1, a2, a3, a4, a5, a6, some (.int x)] (.int x :: st) ah Q := wp_s i234_211 rfl rfl rfl rfl
theorem i234_213 : insAt 234 213 = some (.iload 2, 214) := by decide +kernel
theorem r234_213 {E : aEnv} {c : Nat} {ah : aHp} {st : List Value} {Q : Option Value → aHp → Prop} {a0 a1 a3 a4 a5 a6 a7 : Option Value} {x : Int32} : WP E c 234 213 [a0, a1, some (.int x), a3, a4, a5, a6, a7] (st) ah Q = WP E c 234 214 [a0, a1, some (.int x), a3, a4, a5, a6, a7] (.int x :: st) ah Q := wp_s i234_213 rfl rfl rfl rfl
theorem i234_214 : insAt 234 214 = some (.if_icmp .ge 236, 217) := by decide +kernel
theorem r234_214 {E : aEnv} {c : Nat} {ah : aHp} {st : List Value} {Q : Option Value → aHp → Prop} {a0 a1 a2 a3 a4 a5 a6 a7 : Option Value} {x y : Int32} : WP E c 234 214 [a0, a1, a2, a3, a4, a5, a6, a7] (.int y :: .int x :: st) ah Q = if y ≤ x then WP E c 234 236 [a0, a1, a2, a3, a4, a5, a6, a7] st ah Q else WP E c 234 217 [a0, a1, a2, a3, a4, a5, a6, a7] st ah Q := wp_j i234_214 rfl rfl rfl rfl
theorem i234_217 : insAt 234 217 = some (.lload 5, 219) := by decide +kernel
theorem r234_217 {E : aEnv} {c : Nat} {ah : aHp} {st : List Value} {Q : Option Value → aHp → Prop} {a0 a1 a2 a3 a4 a6 a7 : Option Value} {x : Int64} : WP E c 234 217 [a0, a1, a2, a3, a4, some (.long x), a6, a7] (st) ah Q = WP E c 234 219 [a0, a1, a2, a3, a4, some (.long x), a6, a7] (.long x :: st) ah Q := wp_s i234_217 rfl rfl rfl rfl
theorem i234_219 : insAt 234 219 = some (.iload 3, 220) := by decide +kernel
theorem r234_219 {E : aEnv} {c : Nat} {ah : aHp} {st : List Value} {Q : Option Value → aHp → Prop} {a0 a1 a2 a4 a5 a6 a7 : Option Value} {x : Int32} : WP E c 234 219 [a0, a1, a2, some (.int x), a4, a5, a6, a7] (st) ah Q = WP E c 234 220 [a0, a1, a2, some (.int x), a4, a5, a6, a7] (.int x :: st) ah Q := wp_s i234_219 rfl rfl rfl rfl
theorem i234_220 : insAt 234 220 = some (.i2l, 221) := by decide +kernel
theorem r234_220 {E : aEnv} {c : Nat} {ah : aHp} {st : List Value} {Q : Option Value → aHp → Prop} {a0 a1 a2 a3 a4 a5 a6 a7 : Option Value} {x : Int32} : WP E c 234 220 [a0, a1, a2, a3, a4, a5, a6, a7] (.int x :: st) ah Q = WP E c 234 221 [a0, a1, a2, a3, a4, a5, a6, a7] (.long x.toInt64 :: st) ah Q := wp_s i234_220 rfl rfl rfl rfl
theorem i234_221 : insAt 234 221 = some (.iload 7, 223) := by decide +kernel
theorem r234_221 {E : aEnv} {c : Nat} {ah : aHp} {st : List Value} {Q : Option Value → aHp → Prop} {a0 a1 a2 a3 a4 a5 a6 : Option Value} {x : Int32} : WP E c 234 221 [a0, a1, a2, a3, a4, a5, a6, some (.int x)] (st) ah Q = WP E c 234 223 [a0, a1, a2, a3, a4, a5, a6, some (.int x)] (.int x :: st) ah Q := wp_s i234_221 rfl rfl rfl rfl
theorem i234_223 : insAt 234 223 = some (.iconst 1, 224) := by decide +kernel
theorem r234_223 {E : aEnv} {c : Nat} {ah : aHp} {st : List Value} {Q : Option Value → aHp → Prop} {a0 a1 a2 a3 a4 a5 a6 a7 : Option Value} : WP E c 234 223 [a0, a1, a2, a3, a4, a5, a6, a7] (st) ah Q = WP E c 234 224 [a0, a1, a2, a3, a4, a5, a6, a7] (.int (1) :: st) ah Q := wp_s i234_223 rfl rfl rfl rfl
theorem i234_224 : insAt 234 224 = some (.iadd, 225) := by decide +kernel
theorem r234_224 {E : aEnv} {c : Nat} {ah : aHp} {st : List Value} {Q : Option Value → aHp → Prop} {a0 a1 a2 a3 a4 a5 a6 a7 : Option Value} {x y : Int32} : WP E c 234 224 [a0, a1, a2, a3, a4, a5, a6, a7] (.int y :: .int x :: st) ah Q = WP E c 234 225 [a0, a1, a2, a3, a4, a5, a6, a7] (.int (x + y) :: st) ah Q := wp_s i234_224 rfl rfl rfl rfl
theorem i234_225 : insAt 234 225 = some (.i2l, 226) := by decide +kernel
theorem r234_225 {E : aEnv} {c : Nat} {ah : aHp} {st : List Value} {Q : Option Value → aHp → Prop} {a0 a1 a2 a3 a4 a5 a6 a7 : Option Value} {x : Int32} : WP E c 234 225 [a0, a1, a2, a3, a4, a5, a6, a7] (.int x :: st) ah Q = WP E c 234 226 [a0, a1, a2, a3, a4, a5, a6, a7] (.long x.toInt64 :: st) ah Q := wp_s i234_225 rfl rfl rfl rfl
theorem i234_226 : insAt 234 226 = some (.lmul, 227) := by decide +kernel
theorem r234_226 {E : aEnv} {c : Nat} {ah : aHp} {st : List Value} {Q : Option Value → aHp → Prop} {a0 a1 a2 a3 a4 a5 a6 a7 : Option Value} {x y : Int64} : WP E c 234 226 [a0, a1, a2, a3, a4, a5, a6, a7] (.long y :: .long x :: st) ah Q = WP E c 234 227 [a0, a1, a2, a3, a4, a5, a6, a7] (.long (x * y) :: st) ah Q := wp_s i234_226 rfl rfl rfl rfl
theorem i234_227 : insAt 234 227 = some (.lmul, 228) := by decide +kernel
theorem r234_227 {E : aEnv} {c : Nat} {ah : aHp} {st : List Value} {Q : Option Value → aHp → Prop} {a0 a1 a2 a3 a4 a5 a6 a7 : Option Value} {x y : Int64} : WP E c 234 227 [a0, a1, a2, a3, a4, a5, a6, a7] (.long y :: .long x :: st) ah Q = WP E c 234 228 [a0, a1, a2, a3, a4, a5, a6, a7] (.long (x * y) :: st) ah Q := wp_s i234_227 rfl rfl rfl rfl
theorem i234_228 : insAt 234 228 = some (.lstore 5, 230) := by decide +kernel
theorem r234_228 {E : aEnv} {c : Nat} {ah : aHp} {st : List Value} {Q : Option Value → aHp → Prop} {a0 a1 a2 a3 a4 a5 a6 a7 : Option Value} {x : Int64} : WP E c 234 228 [a0, a1, a2, a3, a4, a5, a6, a7] (.long x :: st) ah Q = WP E c 234 230 [a0, a1, a2, a3, kil a4, some (.long x), none, a7] (st) ah Q := wp_s i234_228 rfl rfl rfl rfl
theorem i234_230 : insAt 234 230 = some (.iinc 7 1, 233) := by decide +kernel
theorem r234_230 {E : aEnv} {c : Nat} {ah : aHp} {st : List Value} {Q : Option Value → aHp → Prop} {a0 a1 a2 a3 a4 a5 a6 : Option Value} {x : Int32} : WP E c 234 230 [a0, a1, a2, a3, a4, a5, a6, some (.int x)] (st) ah Q = WP E c 234 233 [a0, a1, a2, a3, a4, a5, kil a6, some (.int (x + 1))] (st) ah Q := wp_s i234_230 rfl rfl rfl rfl
theorem i234_233 : insAt 234 233 = some (.goto 211, 236) := by decide +kernel
theorem r234_233 {E : aEnv} {c : Nat} {ah : aHp} {st : List Value} {Q : Option Value → aHp → Prop} {a0 a1 a2 a3 a4 a5 a6 a7 : Option Value} : WP E c 234 233 [a0, a1, a2, a3, a4, a5, a6, a7] (st) ah Q = WP E c 234 211 [a0, a1, a2, a3, a4, a5, a6, a7] st ah Q := wp_s i234_233 rfl rfl rfl rfl
theorem i234_236 : insAt 234 236 = some (.iconst 0, 237) := by decide +kernel
theorem r234_236 {E : aEnv} {c : Nat} {ah : aHp} {st : List Value} {Q : Option Value → aHp → Prop} {a0 a1 a2 a3 a4 a5 a6 a7 : Option Value} : WP E c 234 236 [a0, a1, a2, a3, a4, a5, a6, a7] (st) ah Q = WP E c 234 237 [a0, a1, a2, a3, a4, a5, a6, a7] (.int (0) :: st) ah Q := wp_s i234_236 rfl rfl rfl rfl
theorem i234_237 : insAt 234 237 = some (.istore 7, 239) := by decide +kernel
theorem r234_237 {E : aEnv} {c : Nat} {ah : aHp} {st : List Value} {Q : Option Value → aHp → Prop} {a0 a1 a2 a3 a4 a5 a6 a7 : Option Value} {x : Int32} : WP E c 234 237 [a0, a1, a2, a3, a4, a5, a6, a7] (.int x :: st) ah Q = WP E c 234 239 [a0, a1, a2, a3, a4, a5, kil a6, some (.int x)] (st) ah Q := wp_s i234_237 rfl rfl rfl rfl
theorem i234_239 : insAt 234 239 = some (.iload 7, 241) := by decide +kernel
theorem r234_239 {E : aEnv} {c : Nat} {ah : aHp} {st : List Value} {Q : Option Value → aHp → Prop} {a0 a1 a2 a3 a4 a5 a6 : Option Value} {x : Int32} : WP E c 234 239 [a0, a1, a2, a3, a4, a5, a6, some (.int x)] (st) ah Q = WP E c 234 241 [a0, a1, a2, a3, a4, a5, a6, some (.int x)] (.int x :: st) ah Q := wp_s i234_239 rfl rfl rfl rfl
theorem i234_241 : insAt 234 241 = some (.iconst 6, 243) := by decide +kernel
theorem r234_241 {E : aEnv} {c : Nat} {ah : aHp} {st : List Value} {Q : Option Value → aHp → Prop} {a0 a1 a2 a3 a4 a5 a6 a7 : Option Value} : WP E c 234 241 [a0, a1, a2, a3, a4, a5, a6, a7] (st) ah Q = WP E c 234 243 [a0, a1, a2, a3, a4, a5, a6, a7] (.int (6) :: st) ah Q := wp_s i234_241 rfl rfl rfl rfl
theorem i234_243 : insAt 234 243 = some (.if_icmp .gt 270, 246) := by decide +kernel
theorem r234_243 {E : aEnv} {c : Nat} {ah : aHp} {st : List Value} {Q : Option Value → aHp → Prop} {a0 a1 a2 a3 a4 a5 a6 a7 : Option Value} {x y : Int32} : WP E c 234 243 [a0, a1, a2, a3, a4, a5, a6, a7] (.int y :: .int x :: st) ah Q = if y < x then WP E c 234 270 [a0, a1, a2, a3, a4, a5, a6, a7] st ah Q else WP E c 234 246 [a0, a1, a2, a3, a4, a5, a6, a7] st ah Q := wp_j i234_243 rfl rfl rfl rfl
theorem i234_246 : insAt 234 246 = some (.aload 0, 247) := by decide +kernel
theorem r234_246 {E : aEnv} {c : Nat} {ah : aHp} {st : List Value} {Q : Option Value → aHp → Prop} {a1 a2 a3 a4 a5 a6 a7 : Option Value} {x : Nat} : WP E c 234 246 [some (.ref x), a1, a2, a3, a4, a5, a6, a7] (st) ah Q = WP E c 234 247 [some (.ref x), a1, a2, a3, a4, a5, a6, a7] (.ref x :: st) ah Q := wp_s i234_246 rfl rfl rfl rfl
theorem i234_247 : insAt 234 247 = some (.iload 2, 248) := by decide +kernel
theorem r234_247 {E : aEnv} {c : Nat} {ah : aHp} {st : List Value} {Q : Option Value → aHp → Prop} {a0 a1 a3 a4 a5 a6 a7 : Option Value} {x : Int32} : WP E c 234 247 [a0, a1, some (.int x), a3, a4, a5, a6, a7] (st) ah Q = WP E c 234 248 [a0, a1, some (.int x), a3, a4, a5, a6, a7] (.int x :: st) ah Q := wp_s i234_247 rfl rfl rfl rfl
theorem i234_248 : insAt 234 248 = some (.iload 3, 249) := by decide +kernel
theorem r234_248 {E : aEnv} {c : Nat} {ah : aHp} {st : List Value} {Q : Option Value → aHp → Prop} {a0 a1 a2 a4 a5 a6 a7 : Option Value} {x : Int32} : WP E c 234 248 [a0, a1, a2, some (.int x), a4, a5, a6, a7] (st) ah Q = WP E c 234 249 [a0, a1, a2, some (.int x), a4, a5, a6, a7] (.int x :: st) ah Q := wp_s i234_248 rfl rfl rfl rfl
theorem i234_249 : insAt 234 249 = some (.iload 4, 251) := by decide +kernel
theorem r234_249 {E : aEnv} {c : Nat} {ah : aHp} {st : List Value} {Q : Option Value → aHp → Prop} {a0 a1 a2 a3 a5 a6 a7 : Option Value} {x : Int32} : WP E c 234 249 [a0, a1, a2, a3, some (.int x), a5, a6, a7] (st) ah Q = WP E c 234 251 [a0, a1, a2, a3, some (.int x), a5, a6, a7] (.int x :: st) ah Q := wp_s i234_249 rfl rfl rfl rfl
theorem i234_251 : insAt 234 251 = some (.lload 5, 253) := by decide +kernel
theorem r234_251 {E : aEnv} {c : Nat} {ah : aHp} {st : List Value} {Q : Option Value → aHp → Prop} {a0 a1 a2 a3 a4 a6 a7 : Option Value} {x : Int64} : WP E c 234 251 [a0, a1, a2, a3, a4, some (.long x), a6, a7] (st) ah Q = WP E c 234 253 [a0, a1, a2, a3, a4, some (.long x), a6, a7] (.long x :: st) ah Q := wp_s i234_251 rfl rfl rfl rfl
theorem i234_253 : insAt 234 253 = some (.iload 7, 255) := by decide +kernel
theorem r234_253 {E : aEnv} {c : Nat} {ah : aHp} {st : List Value} {Q : Option Value → aHp → Prop} {a0 a1 a2 a3 a4 a5 a6 : Option Value} {x : Int32} : WP E c 234 253 [a0, a1, a2, a3, a4, a5, a6, some (.int x)] (st) ah Q = WP E c 234 255 [a0, a1, a2, a3, a4, a5, a6, some (.int x)] (.int x :: st) ah Q := wp_s i234_253 rfl rfl rfl rfl
theorem i234_255 : insAt 234 255 = some (.invokevirtual 235, 258) := by decide +kernel
theorem r234_255 {E : aEnv} {c : Nat} {ah ah1 : aHp} {r : Option Value} {st : List Value} {Q : Option Value → aHp → Prop} {a0 a1 a2 a3 a4 a5 a6 a7 : Option Value} {p0 : Nat} {p1 : Int32} {p2 : Int32} {p3 : Int32} {p4 : Int64} {p5 : Int32} (h : EV E c 235 [.ref p0, .int p1, .int p2, .int p3, .long p4, .int p5] ah r ah1) (h2 : oCI (hg E ah p0) = 11) (h3 : wds st ≤ 8) : WP E (c + 1) 234 255 [a0, a1, a2, a3, a4, a5, a6, a7] (.int p5 :: .long p4 :: .int p3 :: .int p2 :: .int p1 :: .ref p0 :: st) ah Q = WP E (c + 1) 234 258 [a0, a1, a2, a3, a4, a5, a6, a7] (r.toList ++ st) ah1 Q := wp_call (As := [.ref p0, .int p1, .int p2, .int p3, .long p4, .int p5]) i234_255 (fun _ => rfl) rfl mr235.1 (rcv_1 h2 mr235.2.2 (by decide)) h3 (by rw [mr235.2.1]; exact Nat.le_of_ble_eq_true rfl) h
theorem i234_258 : insAt 234 258 = some (.ifCond .eq 264, 261) := by decide +kernel
theorem r234_258 {E : aEnv} {c : Nat} {ah : aHp} {st : List Value} {Q : Option Value → aHp → Prop} {a0 a1 a2 a3 a4 a5 a6 a7 : Option Value} {x : Int32} : WP E c 234 258 [a0, a1, a2, a3, a4, a5, a6, a7] (.int x :: st) ah Q = if x = 0 then WP E c 234 264 [a0, a1, a2, a3, a4, a5, a6, a7] st ah Q else WP E c 234 261 [a0, a1, a2, a3, a4, a5, a6, a7] st ah Q := wp_j i234_258 rfl rfl rfl rfl
theorem i234_261 : insAt 234 261 = some (.iload 7, 263) := by decide +kernel
theorem r234_261 {E : aEnv} {c : Nat} {ah : aHp} {st : List Value} {Q : Option Value → aHp → Prop} {a0 a1 a2 a3 a4 a5 a6 : Option Value} {x : Int32} : WP E c 234 261 [a0, a1, a2, a3, a4, a5, a6, some (.int x)] (st) ah Q = WP E c 234 263 [a0, a1, a2, a3, a4, a5, a6, some (.int x)] (.int x :: st) ah Q := wp_s i234_261 rfl rfl rfl rfl
theorem i234_263 : insAt 234 263 = some (.ireturn, 264) := by decide +kernel
theorem r234_263 {E : aEnv} {c : Nat} {ah : aHp} {Q : Option Value → aHp → Prop} {a0 a1 a2 a3 a4 a5 a6 a7 : Option Value} {x : Int32} : WP E c 234 263 [a0, a1, a2, a3, a4, a5, a6, a7] ([.int x]) ah Q = Q (some (.int x)) ah := wp_rt i234_263 rfl
theorem i234_264 : insAt 234 264 = some (.iinc 7 1, 267) := by decide +kernel
theorem r234_264 {E : aEnv} {c : Nat} {ah : aHp} {st : List Value} {Q : Option Value → aHp → Prop} {a0 a1 a2 a3 a4 a5 a6 : Option Value} {x : Int32} : WP E c 234 264 [a0, a1, a2, a3, a4, a5, a6, some (.int x)] (st) ah Q = WP E c 234 267 [a0, a1, a2, a3, a4, a5, kil a6, some (.int (x + 1))] (st) ah Q := wp_s i234_264 rfl rfl rfl rfl
theorem i234_267 : insAt 234 267 = some (.goto 239, 270) := by decide +kernel
theorem r234_267 {E : aEnv} {c : Nat} {ah : aHp} {st : List Value} {Q : Option Value → aHp → Prop} {a0 a1 a2 a3 a4 a5 a6 a7 : Option Value} : WP E c 234 267 [a0, a1, a2, a3, a4, a5, a6, a7] (st) ah Q = WP E c 234 239 [a0, a1, a2, a3, a4, a5, a6, a7] st ah Q := wp_s i234_267 rfl rfl rfl rfl
theorem i234_270 : insAt 234 270 = some (.aload 0, 271) := by decide +kernel
theorem r234_270 {E : aEnv} {c : Nat} {ah : aHp} {st : List Value} {Q : Option Value → aHp → Prop} {a1 a2 a3 a4 a5 a6 a7 : Option Value} {x : Nat} : WP E c 234 270 [some (.ref x), a1, a2, a3, a4, a5, a6, a7] (st) ah Q = WP E c 234 271 [some (.ref x), a1, a2, a3, a4, a5, a6, a7] (.ref x :: st) ah Q := wp_s i234_270 rfl rfl rfl rfl
theorem i234_271 : insAt 234 271 = some (.iconst 8, 273) := by decide +kernel
theorem r234_271 {E : aEnv} {c : Nat} {ah : aHp} {st : List Value} {Q : Option Value → aHp → Prop} {a0 a1 a2 a3 a4 a5 a6 a7 : Option Value} : WP E c 234 271 [a0, a1, a2, a3, a4, a5, a6, a7] (st) ah Q = WP E c 234 273 [a0, a1, a2, a3, a4, a5, a6, a7] (.int (8) :: st) ah Q := wp_s i234_271 rfl rfl rfl rfl
theorem i234_273 : insAt 234 273 = some (.invokevirtual 197, 276) := by decide +kernel
theorem r234_273 {E : aEnv} {c : Nat} {ah ah1 : aHp} {r : Option Value} {st : List Value} {Q : Option Value → aHp → Prop} {a0 a1 a2 a3 a4 a5 a6 a7 : Option Value} {p0 : Nat} {p1 : Int32} (h : EV E c 197 [.ref p0, .int p1] ah r ah1) (h2 : oCI (hg E ah p0) = 11) (h3 : wds st ≤ 8) : WP E (c + 1) 234 273 [a0, a1, a2, a3, a4, a5, a6, a7] (.int p1 :: .ref p0 :: st) ah Q = WP E (c + 1) 234 276 [a0, a1, a2, a3, a4, a5, a6, a7] (r.toList ++ st) ah1 Q := wp_call (As := [.ref p0, .int p1]) i234_273 (fun _ => rfl) rfl mr197.1 (rcv_1 h2 mr197.2.2 (by decide)) h3 (by rw [mr197.2.1]; exact Nat.le_of_ble_eq_true rfl) h
theorem i234_276 : insAt 234 276 = some (.ireturn, 277) := by decide +kernel
theorem r234_276 {E : aEnv} {c : Nat} {ah : aHp} {Q : Option Value → aHp → Prop} {a0 a1 a2 a3 a4 a5 a6 a7 : Option Value} {x : Int32} : WP E c 234 276 [a0, a1, a2, a3, a4, a5, a6, a7] ([.int x]) ah Q = Q (some (.int x)) ah := wp_rt i234_276 rfl
theorem e235 {E : aEnv} {c : Nat} {ah ahF : aHp} {r : Option Value} {p0 : Nat} {p1 : Int32} {p2 : Int32} {p3 : Int32} {p4 : Int64} {p5 : Int32} (h : WP E c 235 0 [some (.ref p0), some (.int p1), some (.int p2), some (.int p3), some (.long p4), none, some (.int p5), none, none, none, none, none] [] ah (fun r1 x1 => r1 = r ∧ x1 = ahF)) : EV E c 235 [.ref p0, .int p1, .int p2, .int p3, .long p4, .int p5] ah r ahF := EV.of (by rw [mr235.2.1]; exact h)
theorem i235_0 : insAt 235 0 = some (.iload 6, 2) := by decide +kernel
theorem r235_0 {E : aEnv} {c : Nat} {ah : aHp} {st : List Value} {Q : Option Value → aHp → Prop} {a0 a1 a2 a3 a4 a5 a7 a8 a9 a10 a11 : Option Value} {x : Int32} : WP E c 235 0 [a0, a1, a2, a3, a4, a5, some (.int x), a7, a8, a9, a10, a11] (st) ah Q = WP E c 235 2 [a0, a1, a2, a3, a4, a5, some (.int x), a7, a8, a9, a10, a11] (.int x :: st) ah Q := wp_s i235_0 rfl rfl rfl rfl
theorem i235_2 : insAt 235 2 = some (.invokestatic 231, 5) := by decide +kernel
theorem r235_2 {E : aEnv} {c : Nat} {ah ah1 : aHp} {r : Option Value} {st : List Value} {Q : Option Value → aHp → Prop} {a0 a1 a2 a3 a4 a5 a6 a7 a8 a9 a10 a11 : Option Value} {p0 : Int32} (h : EV E c 231 [.int p0] ah r ah1) (h3 : wds st ≤ 8) : WP E (c + 1) 235 2 [a0, a1, a2, a3, a4, a5, a6, a7, a8, a9, a10, a11] (.int p0 :: st) ah Q = WP E (c + 1) 235 5 [a0, a1, a2, a3, a4, a5, a6, a7, a8, a9, a10, a11] (r.toList ++ st) ah1 Q := wp_call (As := [.int p0]) i235_2 (fun _ => rfl) rfl mr231.1 rfl h3 (by rw [mr231.2.1]; exact Nat.le_of_ble_eq_true rfl) h
theorem i235_5 : insAt 235 5 = some (.lstore 7, 7) := by decide +kernel
theorem r235_5 {E : aEnv} {c : Nat} {ah : aHp} {st : List Value} {Q : Option Value → aHp → Prop} {a0 a1 a2 a3 a4 a5 a6 a7 a8 a9 a10 a11 : Option Value} {x : Int64} : WP E c 235 5 [a0, a1, a2, a3, a4, a5, a6, a7, a8, a9, a10, a11] (.long x :: st) ah Q = WP E c 235 7 [a0, a1, a2, a3, a4, a5, kil a6, some (.long x), none, a9, a10, a11] (st) ah Q := wp_s i235_5 rfl rfl rfl rfl
theorem i235_7 : insAt 235 7 = some (.iconst 0, 8) := by decide +kernel
theorem r235_7 {E : aEnv} {c : Nat} {ah : aHp} {st : List Value} {Q : Option Value → aHp → Prop} {a0 a1 a2 a3 a4 a5 a6 a7 a8 a9 a10 a11 : Option Value} : WP E c 235 7 [a0, a1, a2, a3, a4, a5, a6, a7, a8, a9, a10, a11] (st) ah Q = WP E c 235 8 [a0, a1, a2, a3, a4, a5, a6, a7, a8, a9, a10, a11] (.int (0) :: st) ah Q := wp_s i235_7 rfl rfl rfl rfl
theorem i235_8 : insAt 235 8 = some (.istore 9, 10) := by decide +kernel
theorem r235_8 {E : aEnv} {c : Nat} {ah : aHp} {st : List Value} {Q : Option Value → aHp → Prop} {a0 a1 a2 a3 a4 a5 a6 a7 a8 a9 a10 a11 : Option Value} {x : Int32} : WP E c 235 8 [a0, a1, a2, a3, a4, a5, a6, a7, a8, a9, a10, a11] (.int x :: st) ah Q = WP E c 235 10 [a0, a1, a2, a3, a4, a5, a6, a7, kil a8, some (.int x), a10, a11] (st) ah Q := wp_s i235_8 rfl rfl rfl rfl
theorem i235_10 : insAt 235 10 = some (.iload 9, 12) := by decide +kernel
theorem r235_10 {E : aEnv} {c : Nat} {ah : aHp} {st : List Value} {Q : Option Value → aHp → Prop} {a0 a1 a2 a3 a4 a5 a6 a7 a8 a10 a11 : Option Value} {x : Int32} : WP E c 235 10 [a0, a1, a2, a3, a4, a5, a6, a7, a8, some (.int x), a10, a11] (st) ah Q = WP E c 235 12 [a0, a1, a2, a3, a4, a5, a6, a7, a8, some (.int x), a10, a11] (.int x :: st) ah Q := wp_s i235_10 rfl rfl rfl rfl
theorem i235_12 : insAt 235 12 = some (.iload 1, 13) := by decide +kernel
theorem r235_12 {E : aEnv} {c : Nat} {ah : aHp} {st : List Value} {Q : Option Value → aHp → Prop} {a0 a2 a3 a4 a5 a6 a7 a8 a9 a10 a11 : Option Value} {x : Int32} : WP E c 235 12 [a0, some (.int x), a2, a3, a4, a5, a6, a7, a8, a9, a10, a11] (st) ah Q = WP E c 235 13 [a0, some (.int x), a2, a3, a4, a5, a6, a7, a8, a9, a10, a11] (.int x :: st) ah Q := wp_s i235_12 rfl rfl rfl rfl
theorem i235_13 : insAt 235 13 = some (.if_icmp .gt 37, 16) := by decide +kernel
theorem r235_13 {E : aEnv} {c : Nat} {ah : aHp} {st : List Value} {Q : Option Value → aHp → Prop} {a0 a1 a2 a3 a4 a5 a6 a7 a8 a9 a10 a11 : Option Value} {x y : Int32} : WP E c 235 13 [a0, a1, a2, a3, a4, a5, a6, a7, a8, a9, a10, a11] (.int y :: .int x :: st) ah Q = if y < x then WP E c 235 37 [a0, a1, a2, a3, a4, a5, a6, a7, a8, a9, a10, a11] st ah Q else WP E c 235 16 [a0, a1, a2, a3, a4, a5, a6, a7, a8, a9, a10, a11] st ah Q := wp_j i235_13 rfl rfl rfl rfl
theorem i235_16 : insAt 235 16 = some (.aload 0, 17) := by decide +kernel
theorem r235_16 {E : aEnv} {c : Nat} {ah : aHp} {st : List Value} {Q : Option Value → aHp → Prop} {a1 a2 a3 a4 a5 a6 a7 a8 a9 a10 a11 : Option Value} {x : Nat} : WP E c 235 16 [some (.ref x), a1, a2, a3, a4, a5, a6, a7, a8, a9, a10, a11] (st) ah Q = WP E c 235 17 [some (.ref x), a1, a2, a3, a4, a5, a6, a7, a8, a9, a10, a11] (.ref x :: st) ah Q := wp_s i235_16 rfl rfl rfl rfl
theorem i235_17 : insAt 235 17 = some (.getfield 11262, 20) := by decide +kernel
theorem r235_17 {E : aEnv} {c : Nat} {ah : aHp} {st : List Value} {Q : Option Value → aHp → Prop} {a0 a1 a2 a3 a4 a5 a6 a7 a8 a9 a10 a11 : Option Value} {a : Nat} : WP E c 235 17 [a0, a1, a2, a3, a4, a5, a6, a7, a8, a9, a10, a11] (.ref a :: st) ah Q = WPo (oGF (hg E ah a) 11 26) (fun v => WP E c 235 20 [a0, a1, a2, a3, a4, a5, a6, a7, a8, a9, a10, a11] (v :: st) ah Q) := wp_getf i235_17
theorem i235_20 : insAt 235 20 = some (.iload 9, 22) := by decide +kernel
theorem r235_20 {E : aEnv} {c : Nat} {ah : aHp} {st : List Value} {Q : Option Value → aHp → Prop} {a0 a1 a2 a3 a4 a5 a6 a7 a8 a10 a11 : Option Value} {x : Int32} : WP E c 235 20 [a0, a1, a2, a3, a4, a5, a6, a7, a8, some (.int x), a10, a11] (st) ah Q = WP E c 235 22 [a0, a1, a2, a3, a4, a5, a6, a7, a8, some (.int x), a10, a11] (.int x :: st) ah Q := wp_s i235_20 rfl rfl rfl rfl
theorem i235_22 : insAt 235 22 = some (.aload 0, 23) := by decide +kernel
theorem r235_22 {E : aEnv} {c : Nat} {ah : aHp} {st : List Value} {Q : Option Value → aHp → Prop} {a1 a2 a3 a4 a5 a6 a7 a8 a9 a10 a11 : Option Value} {x : Nat} : WP E c 235 22 [some (.ref x), a1, a2, a3, a4, a5, a6, a7, a8, a9, a10, a11] (st) ah Q = WP E c 235 23 [some (.ref x), a1, a2, a3, a4, a5, a6, a7, a8, a9, a10, a11] (.ref x :: st) ah Q := wp_s i235_22 rfl rfl rfl rfl
theorem i235_23 : insAt 235 23 = some (.iload 1, 24) := by decide +kernel
theorem r235_23 {E : aEnv} {c : Nat} {ah : aHp} {st : List Value} {Q : Option Value → aHp → Prop} {a0 a2 a3 a4 a5 a6 a7 a8 a9 a10 a11 : Option Value} {x : Int32} : WP E c 235 23 [a0, some (.int x), a2, a3, a4, a5, a6, a7, a8, a9, a10, a11] (st) ah Q = WP E c 235 24 [a0, some (.int x), a2, a3, a4, a5, a6, a7, a8, a9, a10, a11] (.int x :: st) ah Q := wp_s i235_23 rfl rfl rfl rfl
theorem i235_24 : insAt 235 24 = some (.iload 2, 25) := by decide +kernel
theorem r235_24 {E : aEnv} {c : Nat} {ah : aHp} {st : List Value} {Q : Option Value → aHp → Prop} {a0 a1 a3 a4 a5 a6 a7 a8 a9 a10 a11 : Option Value} {x : Int32} : WP E c 235 24 [a0, a1, some (.int x), a3, a4, a5, a6, a7, a8, a9, a10, a11] (st) ah Q = WP E c 235 25 [a0, a1, some (.int x), a3, a4, a5, a6, a7, a8, a9, a10, a11] (.int x :: st) ah Q := wp_s i235_24 rfl rfl rfl rfl
theorem i235_25 : insAt 235 25 = some (.iload 9, 27) := by decide +kernel
theorem r235_25 {E : aEnv} {c : Nat} {ah : aHp} {st : List Value} {Q : Option Value → aHp → Prop} {a0 a1 a2 a3 a4 a5 a6 a7 a8 a10 a11 : Option Value} {x : Int32} : WP E c 235 25 [a0, a1, a2, a3, a4, a5, a6, a7, a8, some (.int x), a10, a11] (st) ah Q = WP E c 235 27 [a0, a1, a2, a3, a4, a5, a6, a7, a8, some (.int x), a10, a11] (.int x :: st) ah Q := wp_s i235_25 rfl rfl rfl rfl
theorem i235_27 : insAt 235 27 = some (.invokevirtual 233, 30) := by decide +kernel
theorem r235_27 {E : aEnv} {c : Nat} {ah ah1 : aHp} {r : Option Value} {st : List Value} {Q : Option Value → aHp → Prop} {a0 a1 a2 a3 a4 a5 a6 a7 a8 a9 a10 a11 : Option Value} {p0 : Nat} {p1 : Int32} {p2 : Int32} {p3 : Int32} (h : EV E c 233 [.ref p0, .int p1, .int p2, .int p3] ah r ah1) (h2 : oCI (hg E ah p0) = 11) (h3 : wds st ≤ 8) : WP E (c + 1) 235 27 [a0, a1, a2, a3, a4, a5, a6, a7, a8, a9, a10, a11] (.int p3 :: .int p2 :: .int p1 :: .ref p0 :: st) ah Q = WP E (c + 1) 235 30 [a0, a1, a2, a3, a4, a5, a6, a7, a8, a9, a10, a11] (r.toList ++ st) ah1 Q := wp_call (As := [.ref p0, .int p1, .int p2, .int p3]) i235_27 (fun _ => rfl) rfl mr233.1 (rcv_1 h2 mr233.2.2 (by decide)) h3 (by rw [mr233.2.1]; exact Nat.le_of_ble_eq_true rfl) h
theorem i235_30 : insAt 235 30 = some (.lastore, 31) := by decide +kernel
theorem r235_30 {E : aEnv} {c : Nat} {ah : aHp} {st : List Value} {Q : Option Value → aHp → Prop} {a0 a1 a2 a3 a4 a5 a6 a7 a8 a9 a10 a11 : Option Value} {x : Int64} {i : Int32} {a : Nat} : WP E c 235 30 [a0, a1, a2, a3, a4, a5, a6, a7, a8, a9, a10, a11] (.long x :: .int i :: .ref a :: st) ah Q = WPo (pL E ah (.long x :: .int i :: .ref a :: st)) (fun q9 => WP E c 235 31 [a0, a1, a2, a3, a4, a5, a6, a7, a8, a9, a10, a11] q9.1 q9.2 Q) := wp_hw i235_30 rfl rfl rfl rfl rfl rfl rfl rfl
theorem i235_31 : insAt 235 31 = some (.iinc 9 1, 34) := by decide +kernel
theorem r235_31 {E : aEnv} {c : Nat} {ah : aHp} {st : List Value} {Q : Option Value → aHp → Prop} {a0 a1 a2 a3 a4 a5 a6 a7 a8 a10 a11 : Option Value} {x : Int32} : WP E c 235 31 [a0, a1, a2, a3, a4, a5, a6, a7, a8, some (.int x), a10, a11] (st) ah Q = WP E c 235 34 [a0, a1, a2, a3, a4, a5, a6, a7, kil a8, some (.int (x + 1)), a10, a11] (st) ah Q := wp_s i235_31 rfl rfl rfl rfl
theorem i235_34 : insAt 235 34 = some (.goto 10, 37) := by decide +kernel
theorem r235_34 {E : aEnv} {c : Nat} {ah : aHp} {st : List Value} {Q : Option Value → aHp → Prop} {a0 a1 a2 a3 a4 a5 a6 a7 a8 a9 a10 a11 : Option Value} : WP E c 235 34 [a0, a1, a2, a3, a4, a5, a6, a7, a8, a9, a10, a11] (st) ah Q = WP E c 235 10 [a0, a1, a2, a3, a4, a5, a6, a7, a8, a9, a10, a11] st ah Q := wp_s i235_34 rfl rfl rfl rfl
theorem i235_37 : insAt 235 37 = some (.aload 0, 38) := by decide +kernel
theorem r235_37 {E : aEnv} {c : Nat} {ah : aHp} {st : List Value} {Q : Option Value → aHp → Prop} {a1 a2 a3 a4 a5 a6 a7 a8 a9 a10 a11 : Option Value} {x : Nat} : WP E c 235 37 [some (.ref x), a1, a2, a3, a4, a5, a6, a7, a8, a9, a10, a11] (st) ah Q = WP E c 235 38 [some (.ref x), a1, a2, a3, a4, a5, a6, a7, a8, a9, a10, a11] (.ref x :: st) ah Q := wp_s i235_37 rfl rfl rfl rfl
theorem i235_38 : insAt 235 38 = some (.iload 1, 39) := by decide +kernel
theorem r235_38 {E : aEnv} {c : Nat} {ah : aHp} {st : List Value} {Q : Option Value → aHp → Prop} {a0 a2 a3 a4 a5 a6 a7 a8 a9 a10 a11 : Option Value} {x : Int32} : WP E c 235 38 [a0, some (.int x), a2, a3, a4, a5, a6, a7, a8, a9, a10, a11] (st) ah Q = WP E c 235 39 [a0, some (.int x), a2, a3, a4, a5, a6, a7, a8, a9, a10, a11] (.int x :: st) ah Q := wp_s i235_38 rfl rfl rfl rfl
theorem i235_39 : insAt 235 39 = some (.iconst 1, 40) := by decide +kernel
theorem r235_39 {E : aEnv} {c : Nat} {ah : aHp} {st : List Value} {Q : Option Value → aHp → Prop} {a0 a1 a2 a3 a4 a5 a6 a7 a8 a9 a10 a11 : Option Value} : WP E c 235 39 [a0, a1, a2, a3, a4, a5, a6, a7, a8, a9, a10, a11] (st) ah Q = WP E c 235 40 [a0, a1, a2, a3, a4, a5, a6, a7, a8, a9, a10, a11] (.int (1) :: st) ah Q := wp_s i235_39 rfl rfl rfl rfl
theorem i235_40 : insAt 235 40 = some (.iadd, 41) := by decide +kernel
theorem r235_40 {E : aEnv} {c : Nat} {ah : aHp} {st : List Value} {Q : Option Value → aHp → Prop} {a0 a1 a2 a3 a4 a5 a6 a7 a8 a9 a10 a11 : Option Value} {x y : Int32} : WP E c 235 40 [a0, a1, a2, a3, a4, a5, a6, a7, a8, a9, a10, a11] (.int y :: .int x :: st) ah Q = WP E c 235 41 [a0, a1, a2, a3, a4, a5, a6, a7, a8, a9, a10, a11] (.int (x + y) :: st) ah Q := wp_s i235_40 rfl rfl rfl rfl
theorem i235_41 : insAt 235 41 = some (.invokevirtual 216, 44) := by decide +kernel
theorem r235_41 {E : aEnv} {c : Nat} {ah ah1 : aHp} {r : Option Value} {st : List Value} {Q : Option Value → aHp → Prop} {a0 a1 a2 a3 a4 a5 a6 a7 a8 a9 a10 a11 : Option Value} {p0 : Nat} {p1 : Int32} (h : EV E c 216 [.ref p0, .int p1] ah r ah1) (h2 : oCI (hg E ah p0) = 11) (h3 : wds st ≤ 8) : WP E (c + 1) 235 41 [a0, a1, a2, a3, a4, a5, a6, a7, a8, a9, a10, a11] (.int p1 :: .ref p0 :: st) ah Q = WP E (c + 1) 235 44 [a0, a1, a2, a3, a4, a5, a6, a7, a8, a9, a10, a11] (r.toList ++ st) ah1 Q := wp_call (As := [.ref p0, .int p1]) i235_41 (fun _ => rfl) rfl mr216.1 (rcv_1 h2 mr216.2.2 (by decide)) h3 (by rw [mr216.2.1]; exact Nat.le_of_ble_eq_true rfl) h
theorem i235_44 : insAt 235 44 = some (.iconst 0, 45) := by decide +kernel
theorem r235_44 {E : aEnv} {c : Nat} {ah : aHp} {st : List Value} {Q : Option Value → aHp → Prop} {a0 a1 a2 a3 a4 a5 a6 a7 a8 a9 a10 a11 : Option Value} : WP E c 235 44 [a0, a1, a2, a3, a4, a5, a6, a7, a8, a9, a10, a11] (st) ah Q = WP E c 235 45 [a0, a1, a2, a3, a4, a5, a6, a7, a8, a9, a10, a11] (.int (0) :: st) ah Q := wp_s i235_44 rfl rfl rfl rfl
theorem i235_45 : insAt 235 45 = some (.istore 9, 47) := by decide +kernel
theorem r235_45 {E : aEnv} {c : Nat} {ah : aHp} {st : List Value} {Q : Option Value → aHp → Prop} {a0 a1 a2 a3 a4 a5 a6 a7 a8 a9 a10 a11 : Option Value} {x : Int32} : WP E c 235 45 [a0, a1, a2, a3, a4, a5, a6, a7, a8, a9, a10, a11] (.int x :: st) ah Q = WP E c 235 47 [a0, a1, a2, a3, a4, a5, a6, a7, kil a8, some (.int x), a10, a11] (st) ah Q := wp_s i235_45 rfl rfl rfl rfl
theorem i235_47 : insAt 235 47 = some (.iload 9, 49) := by decide +kernel
theorem r235_47 {E : aEnv} {c : Nat} {ah : aHp} {st : List Value} {Q : Option Value → aHp → Prop} {a0 a1 a2 a3 a4 a5 a6 a7 a8 a10 a11 : Option Value} {x : Int32} : WP E c 235 47 [a0, a1, a2, a3, a4, a5, a6, a7, a8, some (.int x), a10, a11] (st) ah Q = WP E c 235 49 [a0, a1, a2, a3, a4, a5, a6, a7, a8, some (.int x), a10, a11] (.int x :: st) ah Q := wp_s i235_47 rfl rfl rfl rfl
theorem i235_49 : insAt 235 49 = some (.iload 1, 50) := by decide +kernel
theorem r235_49 {E : aEnv} {c : Nat} {ah : aHp} {st : List Value} {Q : Option Value → aHp → Prop} {a0 a2 a3 a4 a5 a6 a7 a8 a9 a10 a11 : Option Value} {x : Int32} : WP E c 235 49 [a0, some (.int x), a2, a3, a4, a5, a6, a7, a8, a9, a10, a11] (st) ah Q = WP E c 235 50 [a0, some (.int x), a2, a3, a4, a5, a6, a7, a8, a9, a10, a11] (.int x :: st) ah Q := wp_s i235_49 rfl rfl rfl rfl
theorem i235_50 : insAt 235 50 = some (.if_icmp .gt 107, 53) := by decide +kernel
theorem r235_50 {E : aEnv} {c : Nat} {ah : aHp} {st : List Value} {Q : Option Value → aHp → Prop} {a0 a1 a2 a3 a4 a5 a6 a7 a8 a9 a10 a11 : Option Value} {x y : Int32} : WP E c 235 50 [a0, a1, a2, a3, a4, a5, a6, a7, a8, a9, a10, a11] (.int y :: .int x :: st) ah Q = if y < x then WP E c 235 107 [a0, a1, a2, a3, a4, a5, a6, a7, a8, a9, a10, a11] st ah Q else WP E c 235 53 [a0, a1, a2, a3, a4, a5, a6, a7, a8, a9, a10, a11] st ah Q := wp_j i235_50 rfl rfl rfl rfl
theorem i235_53 : insAt 235 53 = some (.aload 0, 54) := by decide +kernel
theorem r235_53 {E : aEnv} {c : Nat} {ah : aHp} {st : List Value} {Q : Option Value → aHp → Prop} {a1 a2 a3 a4 a5 a6 a7 a8 a9 a10 a11 : Option Value} {x : Nat} : WP E c 235 53 [some (.ref x), a1, a2, a3, a4, a5, a6, a7, a8, a9, a10, a11] (st) ah Q = WP E c 235 54 [some (.ref x), a1, a2, a3, a4, a5, a6, a7, a8, a9, a10, a11] (.ref x :: st) ah Q := wp_s i235_53 rfl rfl rfl rfl
theorem i235_54 : insAt 235 54 = some (.getfield 11262, 57) := by decide +kernel
theorem r235_54 {E : aEnv} {c : Nat} {ah : aHp} {st : List Value} {Q : Option Value → aHp → Prop} {a0 a1 a2 a3 a4 a5 a6 a7 a8 a9 a10 a11 : Option Value} {a : Nat} : WP E c 235 54 [a0, a1, a2, a3, a4, a5, a6, a7, a8, a9, a10, a11] (.ref a :: st) ah Q = WPo (oGF (hg E ah a) 11 26) (fun v => WP E c 235 57 [a0, a1, a2, a3, a4, a5, a6, a7, a8, a9, a10, a11] (v :: st) ah Q) := wp_getf i235_54
theorem i235_57 : insAt 235 57 = some (.iload 9, 59) := by decide +kernel
theorem r235_57 {E : aEnv} {c : Nat} {ah : aHp} {st : List Value} {Q : Option Value → aHp → Prop} {a0 a1 a2 a3 a4 a5 a6 a7 a8 a10 a11 : Option Value} {x : Int32} : WP E c 235 57 [a0, a1, a2, a3, a4, a5, a6, a7, a8, some (.int x), a10, a11] (st) ah Q = WP E c 235 59 [a0, a1, a2, a3, a4, a5, a6, a7, a8, some (.int x), a10, a11] (.int x :: st) ah Q := wp_s i235_57 rfl rfl rfl rfl
theorem i235_59 : insAt 235 59 = some (.laload, 60) := by decide +kernel
theorem r235_59 {E : aEnv} {c : Nat} {ah : aHp} {st : List Value} {Q : Option Value → aHp → Prop} {a0 a1 a2 a3 a4 a5 a6 a7 a8 a9 a10 a11 : Option Value} {i : Int32} {a : Nat} : WP E c 235 59 [a0, a1, a2, a3, a4, a5, a6, a7, a8, a9, a10, a11] (.int i :: .ref a :: st) ah Q = WPo (gL E ah (.int i :: .ref a :: st)) (fun s9 => WP E c 235 60 [a0, a1, a2, a3, a4, a5, a6, a7, a8, a9, a10, a11] s9 ah Q) := wp_hr i235_59 rfl rfl rfl rfl rfl rfl rfl rfl
theorem i235_60 : insAt 235 60 = some (.lload 4, 62) := by decide +kernel
theorem r235_60 {E : aEnv} {c : Nat} {ah : aHp} {st : List Value} {Q : Option Value → aHp → Prop} {a0 a1 a2 a3 a5 a6 a7 a8 a9 a10 a11 : Option Value} {x : Int64} : WP E c 235 60 [a0, a1, a2, a3, some (.long x), a5, a6, a7, a8, a9, a10, a11] (st) ah Q = WP E c 235 62 [a0, a1, a2, a3, some (.long x), a5, a6, a7, a8, a9, a10, a11] (.long x :: st) ah Q := wp_s i235_60 rfl rfl rfl rfl
theorem i235_62 : insAt 235 62 = some (.invokestatic 289, 65) := by decide +kernel
theorem r235_62 {E : aEnv} {c : Nat} {ah ah1 : aHp} {r : Option Value} {st : List Value} {Q : Option Value → aHp → Prop} {a0 a1 a2 a3 a4 a5 a6 a7 a8 a9 a10 a11 : Option Value} {p0 : Int64} {p1 : Int64} (h : EV E c 289 [.long p0, .long p1] ah r ah1) (h3 : wds st ≤ 8) : WP E (c + 1) 235 62 [a0, a1, a2, a3, a4, a5, a6, a7, a8, a9, a10, a11] (.long p1 :: .long p0 :: st) ah Q = WP E (c + 1) 235 65 [a0, a1, a2, a3, a4, a5, a6, a7, a8, a9, a10, a11] (r.toList ++ st) ah1 Q := wp_call (As := [.long p0, .long p1]) i235_62 (fun _ => rfl) rfl mr289.1 rfl h3 (by rw [mr289.2.1]; exact Nat.le_of_ble_eq_true rfl) h
theorem i235_65 : insAt 235 65 = some (.lstore 10, 67) := by decide +kernel
theorem r235_65 {E : aEnv} {c : Nat} {ah : aHp} {st : List Value} {Q : Option Value → aHp → Prop} {a0 a1 a2 a3 a4 a5 a6 a7 a8 a9 a10 a11 : Option Value} {x : Int64} : WP E c 235 65 [a0, a1, a2, a3, a4, a5, a6, a7, a8, a9, a10, a11] (.long x :: st) ah Q = WP E c 235 67 [a0, a1, a2, a3, a4, a5, a6, a7, a8, kil a9, some (.long x), none] (st) ah Q := wp_s i235_65 rfl rfl rfl rfl
theorem i235_67 : insAt 235 67 = some (.aload 0, 68) := by decide +kernel
theorem r235_67 {E : aEnv} {c : Nat} {ah : aHp} {st : List Value} {Q : Option Value → aHp → Prop} {a1 a2 a3 a4 a5 a6 a7 a8 a9 a10 a11 : Option Value} {x : Nat} : WP E c 235 67 [some (.ref x), a1, a2, a3, a4, a5, a6, a7, a8, a9, a10, a11] (st) ah Q = WP E c 235 68 [some (.ref x), a1, a2, a3, a4, a5, a6, a7, a8, a9, a10, a11] (.ref x :: st) ah Q := wp_s i235_67 rfl rfl rfl rfl
theorem i235_68 : insAt 235 68 = some (.getfield 11262, 71) := by decide +kernel
theorem r235_68 {E : aEnv} {c : Nat} {ah : aHp} {st : List Value} {Q : Option Value → aHp → Prop} {a0 a1 a2 a3 a4 a5 a6 a7 a8 a9 a10 a11 : Option Value} {a : Nat} : WP E c 235 68 [a0, a1, a2, a3, a4, a5, a6, a7, a8, a9, a10, a11] (.ref a :: st) ah Q = WPo (oGF (hg E ah a) 11 26) (fun v => WP E c 235 71 [a0, a1, a2, a3, a4, a5, a6, a7, a8, a9, a10, a11] (v :: st) ah Q) := wp_getf i235_68
theorem i235_71 : insAt 235 71 = some (.iload 9, 73) := by decide +kernel
theorem r235_71 {E : aEnv} {c : Nat} {ah : aHp} {st : List Value} {Q : Option Value → aHp → Prop} {a0 a1 a2 a3 a4 a5 a6 a7 a8 a10 a11 : Option Value} {x : Int32} : WP E c 235 71 [a0, a1, a2, a3, a4, a5, a6, a7, a8, some (.int x), a10, a11] (st) ah Q = WP E c 235 73 [a0, a1, a2, a3, a4, a5, a6, a7, a8, some (.int x), a10, a11] (.int x :: st) ah Q := wp_s i235_71 rfl rfl rfl rfl
theorem i235_73 : insAt 235 73 = some (.lload 10, 75) := by decide +kernel
theorem r235_73 {E : aEnv} {c : Nat} {ah : aHp} {st : List Value} {Q : Option Value → aHp → Prop} {a0 a1 a2 a3 a4 a5 a6 a7 a8 a9 a11 : Option Value} {x : Int64} : WP E c 235 73 [a0, a1, a2, a3, a4, a5, a6, a7, a8, a9, some (.long x), a11] (st) ah Q = WP E c 235 75 [a0, a1, a2, a3, a4, a5, a6, a7, a8, a9, some (.long x), a11] (.long x :: st) ah Q := wp_s i235_73 rfl rfl rfl rfl
theorem i235_75 : insAt 235 75 = some (.lload 7, 77) := by decide +kernel
theorem r235_75 {E : aEnv} {c : Nat} {ah : aHp} {st : List Value} {Q : Option Value → aHp → Prop} {a0 a1 a2 a3 a4 a5 a6 a8 a9 a10 a11 : Option Value} {x : Int64} : WP E c 235 75 [a0, a1, a2, a3, a4, a5, a6, some (.long x), a8, a9, a10, a11] (st) ah Q = WP E c 235 77 [a0, a1, a2, a3, a4, a5, a6, some (.long x), a8, a9, a10, a11] (.long x :: st) ah Q := wp_s i235_75 rfl rfl rfl rfl
theorem i235_77 : insAt 235 77 = some (.lmul, 78) := by decide +kernel
theorem r235_77 {E : aEnv} {c : Nat} {ah : aHp} {st : List Value} {Q : Option Value → aHp → Prop} {a0 a1 a2 a3 a4 a5 a6 a7 a8 a9 a10 a11 : Option Value} {x y : Int64} : WP E c 235 77 [a0, a1, a2, a3, a4, a5, a6, a7, a8, a9, a10, a11] (.long y :: .long x :: st) ah Q = WP E c 235 78 [a0, a1, a2, a3, a4, a5, a6, a7, a8, a9, a10, a11] (.long (x * y) :: st) ah Q := wp_s i235_77 rfl rfl rfl rfl
theorem i235_78 : insAt 235 78 = some (.aload 0, 79) := by decide +kernel
theorem r235_78 {E : aEnv} {c : Nat} {ah : aHp} {st : List Value} {Q : Option Value → aHp → Prop} {a1 a2 a3 a4 a5 a6 a7 a8 a9 a10 a11 : Option Value} {x : Nat} : WP E c 235 78 [some (.ref x), a1, a2, a3, a4, a5, a6, a7, a8, a9, a10, a11] (st) ah Q = WP E c 235 79 [some (.ref x), a1, a2, a3, a4, a5, a6, a7, a8, a9, a10, a11] (.ref x :: st) ah Q := wp_s i235_78 rfl rfl rfl rfl
theorem i235_79 : insAt 235 79 = some (.getfield 11262, 82) := by decide +kernel
theorem r235_79 {E : aEnv} {c : Nat} {ah : aHp} {st : List Value} {Q : Option Value → aHp → Prop} {a0 a1 a2 a3 a4 a5 a6 a7 a8 a9 a10 a11 : Option Value} {a : Nat} : WP E c 235 79 [a0, a1, a2, a3, a4, a5, a6, a7, a8, a9, a10, a11] (.ref a :: st) ah Q = WPo (oGF (hg E ah a) 11 26) (fun v => WP E c 235 82 [a0, a1, a2, a3, a4, a5, a6, a7, a8, a9, a10, a11] (v :: st) ah Q) := wp_getf i235_79
theorem i235_82 : insAt 235 82 = some (.iload 9, 84) := by decide +kernel
theorem r235_82 {E : aEnv} {c : Nat} {ah : aHp} {st : List Value} {Q : Option Value → aHp → Prop} {a0 a1 a2 a3 a4 a5 a6 a7 a8 a10 a11 : Option Value} {x : Int32} : WP E c 235 82 [a0, a1, a2, a3, a4, a5, a6, a7, a8, some (.int x), a10, a11] (st) ah Q = WP E c 235 84 [a0, a1, a2, a3, a4, a5, a6, a7, a8, some (.int x), a10, a11] (.int x :: st) ah Q := wp_s i235_82 rfl rfl rfl rfl
theorem i235_84 : insAt 235 84 = some (.laload, 85) := by decide +kernel
theorem r235_84 {E : aEnv} {c : Nat} {ah : aHp} {st : List Value} {Q : Option Value → aHp → Prop} {a0 a1 a2 a3 a4 a5 a6 a7 a8 a9 a10 a11 : Option Value} {i : Int32} {a : Nat} : WP E c 235 84 [a0, a1, a2, a3, a4, a5, a6, a7, a8, a9, a10, a11] (.int i :: .ref a :: st) ah Q = WPo (gL E ah (.int i :: .ref a :: st)) (fun s9 => WP E c 235 85 [a0, a1, a2, a3, a4, a5, a6, a7, a8, a9, a10, a11] s9 ah Q) := wp_hr i235_84 rfl rfl rfl rfl rfl rfl rfl rfl
theorem i235_85 : insAt 235 85 = some (.lload 10, 87) := by decide +kernel
theorem r235_85 {E : aEnv} {c : Nat} {ah : aHp} {st : List Value} {Q : Option Value → aHp → Prop} {a0 a1 a2 a3 a4 a5 a6 a7 a8 a9 a11 : Option Value} {x : Int64} : WP E c 235 85 [a0, a1, a2, a3, a4, a5, a6, a7, a8, a9, some (.long x), a11] (st) ah Q = WP E c 235 87 [a0, a1, a2, a3, a4, a5, a6, a7, a8, a9, some (.long x), a11] (.long x :: st) ah Q := wp_s i235_85 rfl rfl rfl rfl
theorem i235_87 : insAt 235 87 = some (.lload 4, 89) := by decide +kernel
theorem r235_87 {E : aEnv} {c : Nat} {ah : aHp} {st : List Value} {Q : Option Value → aHp → Prop} {a0 a1 a2 a3 a5 a6 a7 a8 a9 a10 a11 : Option Value} {x : Int64} : WP E c 235 87 [a0, a1, a2, a3, some (.long x), a5, a6, a7, a8, a9, a10, a11] (st) ah Q = WP E c 235 89 [a0, a1, a2, a3, some (.long x), a5, a6, a7, a8, a9, a10, a11] (.long x :: st) ah Q := wp_s i235_87 rfl rfl rfl rfl
theorem i235_89 : insAt 235 89 = some (.lmul, 90) := by decide +kernel
theorem r235_89 {E : aEnv} {c : Nat} {ah : aHp} {st : List Value} {Q : Option Value → aHp → Prop} {a0 a1 a2 a3 a4 a5 a6 a7 a8 a9 a10 a11 : Option Value} {x y : Int64} : WP E c 235 89 [a0, a1, a2, a3, a4, a5, a6, a7, a8, a9, a10, a11] (.long y :: .long x :: st) ah Q = WP E c 235 90 [a0, a1, a2, a3, a4, a5, a6, a7, a8, a9, a10, a11] (.long (x * y) :: st) ah Q := wp_s i235_89 rfl rfl rfl rfl
theorem i235_90 : insAt 235 90 = some (.lsub, 91) := by decide +kernel
theorem r235_90 {E : aEnv} {c : Nat} {ah : aHp} {st : List Value} {Q : Option Value → aHp → Prop} {a0 a1 a2 a3 a4 a5 a6 a7 a8 a9 a10 a11 : Option Value} {x y : Int64} : WP E c 235 90 [a0, a1, a2, a3, a4, a5, a6, a7, a8, a9, a10, a11] (.long y :: .long x :: st) ah Q = WP E c 235 91 [a0, a1, a2, a3, a4, a5, a6, a7, a8, a9, a10, a11] (.long (x - y) :: st) ah Q := wp_s i235_90 rfl rfl rfl rfl
theorem i235_91 : insAt 235 91 = some (.lload 7, 93) := by decide +kernel
theorem r235_91 {E : aEnv} {c : Nat} {ah : aHp} {st : List Value} {Q : Option Value → aHp → Prop} {a0 a1 a2 a3 a4 a5 a6 a8 a9 a10 a11 : Option Value} {x : Int64} : WP E c 235 91 [a0, a1, a2, a3, a4, a5, a6, some (.long x), a8, a9, a10, a11] (st) ah Q = WP E c 235 93 [a0, a1, a2, a3, a4, a5, a6, some (.long x), a8, a9, a10, a11] (.long x :: st) ah Q := wp_s i235_91 rfl rfl rfl rfl
theorem i235_93 : insAt 235 93 = some (.lmul, 94) := by decide +kernel
theorem r235_93 {E : aEnv} {c : Nat} {ah : aHp} {st : List Value} {Q : Option Value → aHp → Prop} {a0 a1 a2 a3 a4 a5 a6 a7 a8 a9 a10 a11 : Option Value} {x y : Int64} : WP E c 235 93 [a0, a1, a2, a3, a4, a5, a6, a7, a8, a9, a10, a11] (.long y :: .long x :: st) ah Q = WP E c 235 94 [a0, a1, a2, a3, a4, a5, a6, a7, a8, a9, a10, a11] (.long (x * y) :: st) ah Q := wp_s i235_93 rfl rfl rfl rfl
theorem i235_94 : insAt 235 94 = some (.lload 4, 96) := by decide +kernel
theorem r235_94 {E : aEnv} {c : Nat} {ah : aHp} {st : List Value} {Q : Option Value → aHp → Prop} {a0 a1 a2 a3 a5 a6 a7 a8 a9 a10 a11 : Option Value} {x : Int64} : WP E c 235 94 [a0, a1, a2, a3, some (.long x), a5, a6, a7, a8, a9, a10, a11] (st) ah Q = WP E c 235 96 [a0, a1, a2, a3, some (.long x), a5, a6, a7, a8, a9, a10, a11] (.long x :: st) ah Q := wp_s i235_94 rfl rfl rfl rfl
theorem i235_96 : insAt 235 96 = some (.invokestatic 232, 99) := by decide +kernel
theorem r235_96 {E : aEnv} {c : Nat} {ah ah1 : aHp} {r : Option Value} {st : List Value} {Q : Option Value → aHp → Prop} {a0 a1 a2 a3 a4 a5 a6 a7 a8 a9 a10 a11 : Option Value} {p0 : Int64} {p1 : Int64} (h : EV E c 232 [.long p0, .long p1] ah r ah1) (h3 : wds st ≤ 8) : WP E (c + 1) 235 96 [a0, a1, a2, a3, a4, a5, a6, a7, a8, a9, a10, a11] (.long p1 :: .long p0 :: st) ah Q = WP E (c + 1) 235 99 [a0, a1, a2, a3, a4, a5, a6, a7, a8, a9, a10, a11] (r.toList ++ st) ah1 Q := wp_call (As := [.long p0, .long p1]) i235_96 (fun _ => rfl) rfl mr232.1 rfl h3 (by rw [mr232.2.1]; exact Nat.le_of_ble_eq_true rfl) h
theorem i235_99 : insAt 235 99 = some (.ladd, 100) := by decide +kernel
theorem r235_99 {E : aEnv} {c : Nat} {ah : aHp} {st : List Value} {Q : Option Value → aHp → Prop} {a0 a1 a2 a3 a4 a5 a6 a7 a8 a9 a10 a11 : Option Value} {x y : Int64} : WP E c 235 99 [a0, a1, a2, a3, a4, a5, a6, a7, a8, a9, a10, a11] (.long y :: .long x :: st) ah Q = WP E c 235 100 [a0, a1, a2, a3, a4, a5, a6, a7, a8, a9, a10, a11] (.long (x + y) :: st) ah Q := wp_s i235_99 rfl rfl rfl rfl
theorem i235_100 : insAt 235 100 = some (.lastore, 101) := by decide +kernel
theorem r235_100 {E : aEnv} {c : Nat} {ah : aHp} {st : List Value} {Q : Option Value → aHp → Prop} {a0 a1 a2 a3 a4 a5 a6 a7 a8 a9 a10 a11 : Option Value} {x : Int64} {i : Int32} {a : Nat} : WP E c 235 100 [a0, a1, a2, a3, a4, a5, a6, a7, a8, a9, a10, a11] (.long x :: .int i :: .ref a :: st) ah Q = WPo (pL E ah (.long x :: .int i :: .ref a :: st)) (fun q9 => WP E c 235 101 [a0, a1, a2, a3, a4, a5, a6, a7, a8, a9, a10, a11] q9.1 q9.2 Q) := wp_hw i235_100 rfl rfl rfl rfl rfl rfl rfl rfl
theorem i235_101 : insAt 235 101 = some (.iinc 9 1, 104) := by decide +kernel
theorem r235_101 {E : aEnv} {c : Nat} {ah : aHp} {st : List Value} {Q : Option Value → aHp → Prop} {a0 a1 a2 a3 a4 a5 a6 a7 a8 a10 a11 : Option Value} {x : Int32} : WP E c 235 101 [a0, a1, a2, a3, a4, a5, a6, a7, a8, some (.int x), a10, a11] (st) ah Q = WP E c 235 104 [a0, a1, a2, a3, a4, a5, a6, a7, kil a8, some (.int (x + 1)), a10, a11] (st) ah Q := wp_s i235_101 rfl rfl rfl rfl
theorem i235_104 : insAt 235 104 = some (.goto 47, 107) := by decide +kernel
theorem r235_104 {E : aEnv} {c : Nat} {ah : aHp} {st : List Value} {Q : Option Value → aHp → Prop} {a0 a1 a2 a3 a4 a5 a6 a7 a8 a9 a10 a11 : Option Value} : WP E c 235 104 [a0, a1, a2, a3, a4, a5, a6, a7, a8, a9, a10, a11] (st) ah Q = WP E c 235 47 [a0, a1, a2, a3, a4, a5, a6, a7, a8, a9, a10, a11] st ah Q := wp_s i235_104 rfl rfl rfl rfl
theorem i235_107 : insAt 235 107 = some (.iconst 0, 108) := by decide +kernel
theorem r235_107 {E : aEnv} {c : Nat} {ah : aHp} {st : List Value} {Q : Option Value → aHp → Prop} {a0 a1 a2 a3 a4 a5 a6 a7 a8 a9 a10 a11 : Option Value} : WP E c 235 107 [a0, a1, a2, a3, a4, a5, a6, a7, a8, a9, a10, a11] (st) ah Q = WP E c 235 108 [a0, a1, a2, a3, a4, a5, a6, a7, a8, a9, a10, a11] (.int (0) :: st) ah Q := wp_s i235_107 rfl rfl rfl rfl
theorem i235_108 : insAt 235 108 = some (.istore 9, 110) := by decide +kernel
theorem r235_108 {E : aEnv} {c : Nat} {ah : aHp} {st : List Value} {Q : Option Value → aHp → Prop} {a0 a1 a2 a3 a4 a5 a6 a7 a8 a9 a10 a11 : Option Value} {x : Int32} : WP E c 235 108 [a0, a1, a2, a3, a4, a5, a6, a7, a8, a9, a10, a11] (.int x :: st) ah Q = WP E c 235 110 [a0, a1, a2, a3, a4, a5, a6, a7, kil a8, some (.int x), a10, a11] (st) ah Q := wp_s i235_108 rfl rfl rfl rfl
theorem i235_110 : insAt 235 110 = some (.iload 9, 112) := by decide +kernel
theorem r235_110 {E : aEnv} {c : Nat} {ah : aHp} {st : List Value} {Q : Option Value → aHp → Prop} {a0 a1 a2 a3 a4 a5 a6 a7 a8 a10 a11 : Option Value} {x : Int32} : WP E c 235 110 [a0, a1, a2, a3, a4, a5, a6, a7, a8, some (.int x), a10, a11] (st) ah Q = WP E c 235 112 [a0, a1, a2, a3, a4, a5, a6, a7, a8, some (.int x), a10, a11] (.int x :: st) ah Q := wp_s i235_110 rfl rfl rfl rfl
theorem i235_112 : insAt 235 112 = some (.iload 3, 113) := by decide +kernel
theorem r235_112 {E : aEnv} {c : Nat} {ah : aHp} {st : List Value} {Q : Option Value → aHp → Prop} {a0 a1 a2 a4 a5 a6 a7 a8 a9 a10 a11 : Option Value} {x : Int32} : WP E c 235 112 [a0, a1, a2, some (.int x), a4, a5, a6, a7, a8, a9, a10, a11] (st) ah Q = WP E c 235 113 [a0, a1, a2, some (.int x), a4, a5, a6, a7, a8, a9, a10, a11] (.int x :: st) ah Q := wp_s i235_112 rfl rfl rfl rfl
theorem i235_113 : insAt 235 113 = some (.if_icmp .ge 220, 116) := by decide +kernel
theorem r235_113 {E : aEnv} {c : Nat} {ah : aHp} {st : List Value} {Q : Option Value → aHp → Prop} {a0 a1 a2 a3 a4 a5 a6 a7 a8 a9 a10 a11 : Option Value} {x y : Int32} : WP E c 235 113 [a0, a1, a2, a3, a4, a5, a6, a7, a8, a9, a10, a11] (.int y :: .int x :: st) ah Q = if y ≤ x then WP E c 235 220 [a0, a1, a2, a3, a4, a5, a6, a7, a8, a9, a10, a11] st ah Q else WP E c 235 116 [a0, a1, a2, a3, a4, a5, a6, a7, a8, a9, a10, a11] st ah Q := wp_j i235_113 rfl rfl rfl rfl
theorem i235_116 : insAt 235 116 = some (.aload 0, 117) := by decide +kernel
theorem r235_116 {E : aEnv} {c : Nat} {ah : aHp} {st : List Value} {Q : Option Value → aHp → Prop} {a1 a2 a3 a4 a5 a6 a7 a8 a9 a10 a11 : Option Value} {x : Nat} : WP E c 235 116 [some (.ref x), a1, a2, a3, a4, a5, a6, a7, a8, a9, a10, a11] (st) ah Q = WP E c 235 117 [some (.ref x), a1, a2, a3, a4, a5, a6, a7, a8, a9, a10, a11] (.ref x :: st) ah Q := wp_s i235_116 rfl rfl rfl rfl
theorem i235_117 : insAt 235 117 = some (.getfield 11262, 120) := by decide +kernel
theorem r235_117 {E : aEnv} {c : Nat} {ah : aHp} {st : List Value} {Q : Option Value → aHp → Prop} {a0 a1 a2 a3 a4 a5 a6 a7 a8 a9 a10 a11 : Option Value} {a : Nat} : WP E c 235 117 [a0, a1, a2, a3, a4, a5, a6, a7, a8, a9, a10, a11] (.ref a :: st) ah Q = WPo (oGF (hg E ah a) 11 26) (fun v => WP E c 235 120 [a0, a1, a2, a3, a4, a5, a6, a7, a8, a9, a10, a11] (v :: st) ah Q) := wp_getf i235_117
theorem i235_120 : insAt 235 120 = some (.iconst 0, 121) := by decide +kernel
theorem r235_120 {E : aEnv} {c : Nat} {ah : aHp} {st : List Value} {Q : Option Value → aHp → Prop} {a0 a1 a2 a3 a4 a5 a6 a7 a8 a9 a10 a11 : Option Value} : WP E c 235 120 [a0, a1, a2, a3, a4, a5, a6, a7, a8, a9, a10, a11] (st) ah Q = WP E c 235 121 [a0, a1, a2, a3, a4, a5, a6, a7, a8, a9, a10, a11] (.int (0) :: st) ah Q := wp_s i235_120 rfl rfl rfl rfl
theorem i235_121 : insAt 235 121 = some (.laload, 122) := by decide +kernel
theorem r235_121 {E : aEnv} {c : Nat} {ah : aHp} {st : List Value} {Q : Option Value → aHp → Prop} {a0 a1 a2 a3 a4 a5 a6 a7 a8 a9 a10 a11 : Option Value} {i : Int32} {a : Nat} : WP E c 235 121 [a0, a1, a2, a3, a4, a5, a6, a7, a8, a9, a10, a11] (.int i :: .ref a :: st) ah Q = WPo (gL E ah (.int i :: .ref a :: st)) (fun s9 => WP E c 235 122 [a0, a1, a2, a3, a4, a5, a6, a7, a8, a9, a10, a11] s9 ah Q) := wp_hr i235_121 rfl rfl rfl rfl rfl rfl rfl rfl
theorem i235_122 : insAt 235 122 = some (.lload 7, 124) := by decide +kernel
theorem r235_122 {E : aEnv} {c : Nat} {ah : aHp} {st : List Value} {Q : Option Value → aHp → Prop} {a0 a1 a2 a3 a4 a5 a6 a8 a9 a10 a11 : Option Value} {x : Int64} : WP E c 235 122 [a0, a1, a2, a3, a4, a5, a6, some (.long x), a8, a9, a10, a11] (st) ah Q = WP E c 235 124 [a0, a1, a2, a3, a4, a5, a6, some (.long x), a8, a9, a10, a11] (.long x :: st) ah Q := wp_s i235_122 rfl rfl rfl rfl
theorem i235_124 : insAt 235 124 = some (.invokestatic 232, 127) := by decide +kernel
theorem r235_124 {E : aEnv} {c : Nat} {ah ah1 : aHp} {r : Option Value} {st : List Value} {Q : Option Value → aHp → Prop} {a0 a1 a2 a3 a4 a5 a6 a7 a8 a9 a10 a11 : Option Value} {p0 : Int64} {p1 : Int64} (h : EV E c 232 [.long p0, .long p1] ah r ah1) (h3 : wds st ≤ 8) : WP E (c + 1) 235 124 [a0, a1, a2, a3, a4, a5, a6, a7, a8, a9, a10, a11] (.long p1 :: .long p0 :: st) ah Q = WP E (c + 1) 235 127 [a0, a1, a2, a3, a4, a5, a6, a7, a8, a9, a10, a11] (r.toList ++ st) ah1 Q := wp_call (As := [.long p0, .long p1]) i235_124 (fun _ => rfl) rfl mr232.1 rfl h3 (by rw [mr232.2.1]; exact Nat.le_of_ble_eq_true rfl) h
theorem i235_127 : insAt 235 127 = some (.aload 0, 128) := by decide +kernel
theorem r235_127 {E : aEnv} {c : Nat} {ah : aHp} {st : List Value} {Q : Option Value → aHp → Prop} {a1 a2 a3 a4 a5 a6 a7 a8 a9 a10 a11 : Option Value} {x : Nat} : WP E c 235 127 [some (.ref x), a1, a2, a3, a4, a5, a6, a7, a8, a9, a10, a11] (st) ah Q = WP E c 235 128 [some (.ref x), a1, a2, a3, a4, a5, a6, a7, a8, a9, a10, a11] (.ref x :: st) ah Q := wp_s i235_127 rfl rfl rfl rfl
theorem i235_128 : insAt 235 128 = some (.iload 1, 129) := by decide +kernel
theorem r235_128 {E : aEnv} {c : Nat} {ah : aHp} {st : List Value} {Q : Option Value → aHp → Prop} {a0 a2 a3 a4 a5 a6 a7 a8 a9 a10 a11 : Option Value} {x : Int32} : WP E c 235 128 [a0, some (.int x), a2, a3, a4, a5, a6, a7, a8, a9, a10, a11] (st) ah Q = WP E c 235 129 [a0, some (.int x), a2, a3, a4, a5, a6, a7, a8, a9, a10, a11] (.int x :: st) ah Q := wp_s i235_128 rfl rfl rfl rfl
theorem i235_129 : insAt 235 129 = some (.iload 2, 130) := by decide +kernel
theorem r235_129 {E : aEnv} {c : Nat} {ah : aHp} {st : List Value} {Q : Option Value → aHp → Prop} {a0 a1 a3 a4 a5 a6 a7 a8 a9 a10 a11 : Option Value} {x : Int32} : WP E c 235 129 [a0, a1, some (.int x), a3, a4, a5, a6, a7, a8, a9, a10, a11] (st) ah Q = WP E c 235 130 [a0, a1, some (.int x), a3, a4, a5, a6, a7, a8, a9, a10, a11] (.int x :: st) ah Q := wp_s i235_129 rfl rfl rfl rfl
theorem i235_130 : insAt 235 130 = some (.iload 9, 132) := by decide +kernel
theorem r235_130 {E : aEnv} {c : Nat} {ah : aHp} {st : List Value} {Q : Option Value → aHp → Prop} {a0 a1 a2 a3 a4 a5 a6 a7 a8 a10 a11 : Option Value} {x : Int32} : WP E c 235 130 [a0, a1, a2, a3, a4, a5, a6, a7, a8, some (.int x), a10, a11] (st) ah Q = WP E c 235 132 [a0, a1, a2, a3, a4, a5, a6, a7, a8, some (.int x), a10, a11] (.int x :: st) ah Q := wp_s i235_130 rfl rfl rfl rfl
theorem i235_132 : insAt 235 132 = some (.invokevirtual 233, 135) := by decide +kernel
theorem r235_132 {E : aEnv} {c : Nat} {ah ah1 : aHp} {r : Option Value} {st : List Value} {Q : Option Value → aHp → Prop} {a0 a1 a2 a3 a4 a5 a6 a7 a8 a9 a10 a11 : Option Value} {p0 : Nat} {p1 : Int32} {p2 : Int32} {p3 : Int32} (h : EV E c 233 [.ref p0, .int p1, .int p2, .int p3] ah r ah1) (h2 : oCI (hg E ah p0) = 11) (h3 : wds st ≤ 8) : WP E (c + 1) 235 132 [a0, a1, a2, a3, a4, a5, a6, a7, a8, a9, a10, a11] (.int p3 :: .int p2 :: .int p1 :: .ref p0 :: st) ah Q = WP E (c + 1) 235 135 [a0, a1, a2, a3, a4, a5, a6, a7, a8, a9, a10, a11] (r.toList ++ st) ah1 Q := wp_call (As := [.ref p0, .int p1, .int p2, .int p3]) i235_132 (fun _ => rfl) rfl mr233.1 (rcv_1 h2 mr233.2.2 (by decide)) h3 (by rw [mr233.2.1]; exact Nat.le_of_ble_eq_true rfl) h
theorem i235_135 : insAt 235 135 = some (.lload 4, 137) := by decide +kernel
theorem r235_135 {E : aEnv} {c : Nat} {ah : aHp} {st : List Value} {Q : Option Value → aHp → Prop} {a0 a1 a2 a3 a5 a6 a7 a8 a9 a10 a11 : Option Value} {x : Int64} : WP E c 235 135 [a0, a1, a2, a3, some (.long x), a5, a6, a7, a8, a9, a10, a11] (st) ah Q = WP E c 235 137 [a0, a1, a2, a3, some (.long x), a5, a6, a7, a8, a9, a10, a11] (.long x :: st) ah Q := wp_s i235_135 rfl rfl rfl rfl
theorem i235_137 : insAt 235 137 = some (.invokestatic 232, 140) := by decide +kernel
theorem r235_137 {E : aEnv} {c : Nat} {ah ah1 : aHp} {r : Option Value} {st : List Value} {Q : Option Value → aHp → Prop} {a0 a1 a2 a3 a4 a5 a6 a7 a8 a9 a10 a11 : Option Value} {p0 : Int64} {p1 : Int64} (h : EV E c 232 [.long p0, .long p1] ah r ah1) (h3 : wds st ≤ 8) : WP E (c + 1) 235 137 [a0, a1, a2, a3, a4, a5, a6, a7, a8, a9, a10, a11] (.long p1 :: .long p0 :: st) ah Q = WP E (c + 1) 235 140 [a0, a1, a2, a3, a4, a5, a6, a7, a8, a9, a10, a11] (r.toList ++ st) ah1 Q := wp_call (As := [.long p0, .long p1]) i235_137 (fun _ => rfl) rfl mr232.1 rfl h3 (by rw [mr232.2.1]; exact Nat.le_of_ble_eq_true rfl) h
theorem i235_140 : insAt 235 140 = some (.lcmp, 141) := by decide +kernel
theorem r235_140 {E : aEnv} {c : Nat} {ah : aHp} {st : List Value} {Q : Option Value → aHp → Prop} {a0 a1 a2 a3 a4 a5 a6 a7 a8 a9 a10 a11 : Option Value} {x y : Int64} : WP E c 235 140 [a0, a1, a2, a3, a4, a5, a6, a7, a8, a9, a10, a11] (.long y :: .long x :: st) ah Q = WP E c 235 141 [a0, a1, a2, a3, a4, a5, a6, a7, a8, a9, a10, a11] (.int (lg_cmp x y) :: st) ah Q := wp_s i235_140 rfl rfl rfl rfl
theorem i235_141 : insAt 235 141 = some (.ifCond .eq 146, 144) := by decide +kernel
theorem r235_141 {E : aEnv} {c : Nat} {ah : aHp} {st : List Value} {Q : Option Value → aHp → Prop} {a0 a1 a2 a3 a4 a5 a6 a7 a8 a9 a10 a11 : Option Value} {x : Int32} : WP E c 235 141 [a0, a1, a2, a3, a4, a5, a6, a7, a8, a9, a10, a11] (.int x :: st) ah Q = if x = 0 then WP E c 235 146 [a0, a1, a2, a3, a4, a5, a6, a7, a8, a9, a10, a11] st ah Q else WP E c 235 144 [a0, a1, a2, a3, a4, a5, a6, a7, a8, a9, a10, a11] st ah Q := wp_j i235_141 rfl rfl rfl rfl
theorem i235_144 : insAt 235 144 = some (.iconst 0, 145) := by decide +kernel
theorem r235_144 {E : aEnv} {c : Nat} {ah : aHp} {st : List Value} {Q : Option Value → aHp → Prop} {a0 a1 a2 a3 a4 a5 a6 a7 a8 a9 a10 a11 : Option Value} : WP E c 235 144 [a0, a1, a2, a3, a4, a5, a6, a7, a8, a9, a10, a11] (st) ah Q = WP E c 235 145 [a0, a1, a2, a3, a4, a5, a6, a7, a8, a9, a10, a11] (.int (0) :: st) ah Q := wp_s i235_144 rfl rfl rfl rfl
theorem i235_145 : insAt 235 145 = some (.freturn, 146) := by decide +kernel
theorem r235_145 {E : aEnv} {c : Nat} {ah : aHp} {Q : Option Value → aHp → Prop} {a0 a1 a2 a3 a4 a5 a6 a7 a8 a9 a10 a11 : Option Value} {x : Int32} (hx : x = 0 ∨ x = 1) : WP E c 235 145 [a0, a1, a2, a3, a4, a5, a6, a7, a8, a9, a10, a11] ([.int x]) ah Q = Q (some (.int x)) ah := wp_rt i235_145 (by simp only [rtA, if_pos hx])
theorem i235_146 : insAt 235 146 = some (.iconst 1, 147) := by decide +kernel
theorem r235_146 {E : aEnv} {c : Nat} {ah : aHp} {st : List Value} {Q : Option Value → aHp → Prop} {a0 a1 a2 a3 a4 a5 a6 a7 a8 a9 a10 a11 : Option Value} : WP E c 235 146 [a0, a1, a2, a3, a4, a5, a6, a7, a8, a9, a10, a11] (st) ah Q = WP E c 235 147 [a0, a1, a2, a3, a4, a5, a6, a7, a8, a9, a10, a11] (.int (1) :: st) ah Q := wp_s i235_146 rfl rfl rfl rfl
theorem i235_147 : insAt 235 147 = some (.istore 10, 149) := by decide +kernel
theorem r235_147 {E : aEnv} {c : Nat} {ah : aHp} {st : List Value} {Q : Option Value → aHp → Prop} {a0 a1 a2 a3 a4 a5 a6 a7 a8 a9 a10 a11 : Option Value} {x : Int32} : WP E c 235 147 [a0, a1, a2, a3, a4, a5, a6, a7, a8, a9, a10, a11] (.int x :: st) ah Q = WP E c 235 149 [a0, a1, a2, a3, a4, a5, a6, a7, a8, kil a9, some (.int x), a11] (st) ah Q := wp_s i235_147 rfl rfl rfl rfl
theorem i235_149 : insAt 235 149 = some (.iload 10, 151) := by decide +kernel
theorem r235_149 {E : aEnv} {c : Nat} {ah : aHp} {st : List Value} {Q : Option Value → aHp → Prop} {a0 a1 a2 a3 a4 a5 a6 a7 a8 a9 a11 : Option Value} {x : Int32} : WP E c 235 149 [a0, a1, a2, a3, a4, a5, a6, a7, a8, a9, some (.int x), a11] (st) ah Q = WP E c 235 151 [a0, a1, a2, a3, a4, a5, a6, a7, a8, a9, some (.int x), a11] (.int x :: st) ah Q := wp_s i235_149 rfl rfl rfl rfl
theorem i235_151 : insAt 235 151 = some (.iload 1, 152) := by decide +kernel
theorem r235_151 {E : aEnv} {c : Nat} {ah : aHp} {st : List Value} {Q : Option Value → aHp → Prop} {a0 a2 a3 a4 a5 a6 a7 a8 a9 a10 a11 : Option Value} {x : Int32} : WP E c 235 151 [a0, some (.int x), a2, a3, a4, a5, a6, a7, a8, a9, a10, a11] (st) ah Q = WP E c 235 152 [a0, some (.int x), a2, a3, a4, a5, a6, a7, a8, a9, a10, a11] (.int x :: st) ah Q := wp_s i235_151 rfl rfl rfl rfl
theorem i235_152 : insAt 235 152 = some (.if_icmp .gt 180, 155) := by decide +kernel
theorem r235_152 {E : aEnv} {c : Nat} {ah : aHp} {st : List Value} {Q : Option Value → aHp → Prop} {a0 a1 a2 a3 a4 a5 a6 a7 a8 a9 a10 a11 : Option Value} {x y : Int32} : WP E c 235 152 [a0, a1, a2, a3, a4, a5, a6, a7, a8, a9, a10, a11] (.int y :: .int x :: st) ah Q = if y < x then WP E c 235 180 [a0, a1, a2, a3, a4, a5, a6, a7, a8, a9, a10, a11] st ah Q else WP E c 235 155 [a0, a1, a2, a3, a4, a5, a6, a7, a8, a9, a10, a11] st ah Q := wp_j i235_152 rfl rfl rfl rfl
theorem i235_155 : insAt 235 155 = some (.aload 0, 156) := by decide +kernel
theorem r235_155 {E : aEnv} {c : Nat} {ah : aHp} {st : List Value} {Q : Option Value → aHp → Prop} {a1 a2 a3 a4 a5 a6 a7 a8 a9 a10 a11 : Option Value} {x : Nat} : WP E c 235 155 [some (.ref x), a1, a2, a3, a4, a5, a6, a7, a8, a9, a10, a11] (st) ah Q = WP E c 235 156 [some (.ref x), a1, a2, a3, a4, a5, a6, a7, a8, a9, a10, a11] (.ref x :: st) ah Q := wp_s i235_155 rfl rfl rfl rfl
theorem i235_156 : insAt 235 156 = some (.getfield 11262, 159) := by decide +kernel
theorem r235_156 {E : aEnv} {c : Nat} {ah : aHp} {st : List Value} {Q : Option Value → aHp → Prop} {a0 a1 a2 a3 a4 a5 a6 a7 a8 a9 a10 a11 : Option Value} {a : Nat} : WP E c 235 156 [a0, a1, a2, a3, a4, a5, a6, a7, a8, a9, a10, a11] (.ref a :: st) ah Q = WPo (oGF (hg E ah a) 11 26) (fun v => WP E c 235 159 [a0, a1, a2, a3, a4, a5, a6, a7, a8, a9, a10, a11] (v :: st) ah Q) := wp_getf i235_156
theorem i235_159 : insAt 235 159 = some (.iload 10, 161) := by decide +kernel
theorem r235_159 {E : aEnv} {c : Nat} {ah : aHp} {st : List Value} {Q : Option Value → aHp → Prop} {a0 a1 a2 a3 a4 a5 a6 a7 a8 a9 a11 : Option Value} {x : Int32} : WP E c 235 159 [a0, a1, a2, a3, a4, a5, a6, a7, a8, a9, some (.int x), a11] (st) ah Q = WP E c 235 161 [a0, a1, a2, a3, a4, a5, a6, a7, a8, a9, some (.int x), a11] (.int x :: st) ah Q := wp_s i235_159 rfl rfl rfl rfl
theorem i235_161 : insAt 235 161 = some (.iconst 1, 162) := by decide +kernel
theorem r235_161 {E : aEnv} {c : Nat} {ah : aHp} {st : List Value} {Q : Option Value → aHp → Prop} {a0 a1 a2 a3 a4 a5 a6 a7 a8 a9 a10 a11 : Option Value} : WP E c 235 161 [a0, a1, a2, a3, a4, a5, a6, a7, a8, a9, a10, a11] (st) ah Q = WP E c 235 162 [a0, a1, a2, a3, a4, a5, a6, a7, a8, a9, a10, a11] (.int (1) :: st) ah Q := wp_s i235_161 rfl rfl rfl rfl
theorem i235_162 : insAt 235 162 = some (.isub, 163) := by decide +kernel
theorem r235_162 {E : aEnv} {c : Nat} {ah : aHp} {st : List Value} {Q : Option Value → aHp → Prop} {a0 a1 a2 a3 a4 a5 a6 a7 a8 a9 a10 a11 : Option Value} {x y : Int32} : WP E c 235 162 [a0, a1, a2, a3, a4, a5, a6, a7, a8, a9, a10, a11] (.int y :: .int x :: st) ah Q = WP E c 235 163 [a0, a1, a2, a3, a4, a5, a6, a7, a8, a9, a10, a11] (.int (x - y) :: st) ah Q := wp_s i235_162 rfl rfl rfl rfl
theorem i235_163 : insAt 235 163 = some (.dup2, 164) := by decide +kernel
theorem r235_163 {E : aEnv} {c : Nat} {ah : aHp} {st : List Value} {Q : Option Value → aHp → Prop} {a0 a1 a2 a3 a4 a5 a6 a7 a8 a9 a10 a11 : Option Value} {x : Int32} {a : Nat} : WP E c 235 163 [a0, a1, a2, a3, a4, a5, a6, a7, a8, a9, a10, a11] (.int x :: .ref a :: st) ah Q = WP E c 235 164 [a0, a1, a2, a3, a4, a5, a6, a7, a8, a9, a10, a11] (.int x :: .ref a :: .int x :: .ref a :: st) ah Q := wp_s i235_163 rfl rfl rfl rfl
theorem r235_163l {E : aEnv} {c : Nat} {ah : aHp} {st : List Value} {Q : Option Value → aHp → Prop} {a0 a1 a2 a3 a4 a5 a6 a7 a8 a9 a10 a11 : Option Value} {x : Int64} : WP E c 235 163 [a0, a1, a2, a3, a4, a5, a6, a7, a8, a9, a10, a11] (.long x :: st) ah Q = WP E c 235 164 [a0, a1, a2, a3, a4, a5, a6, a7, a8, a9, a10, a11] (.long x :: .long x :: st) ah Q := wp_s i235_163 rfl rfl rfl rfl
theorem i235_164 : insAt 235 164 = some (.laload, 165) := by decide +kernel
theorem r235_164 {E : aEnv} {c : Nat} {ah : aHp} {st : List Value} {Q : Option Value → aHp → Prop} {a0 a1 a2 a3 a4 a5 a6 a7 a8 a9 a10 a11 : Option Value} {i : Int32} {a : Nat} : WP E c 235 164 [a0, a1, a2, a3, a4, a5, a6, a7, a8, a9, a10, a11] (.int i :: .ref a :: st) ah Q = WPo (gL E ah (.int i :: .ref a :: st)) (fun s9 => WP E c 235 165 [a0, a1, a2, a3, a4, a5, a6, a7, a8, a9, a10, a11] s9 ah Q) := wp_hr i235_164 rfl rfl rfl rfl rfl rfl rfl rfl
theorem i235_165 : insAt 235 165 = some (.aload 0, 166) := by decide +kernel
theorem r235_165 {E : aEnv} {c : Nat} {ah : aHp} {st : List Value} {Q : Option Value → aHp → Prop} {a1 a2 a3 a4 a5 a6 a7 a8 a9 a10 a11 : Option Value} {x : Nat} : WP E c 235 165 [some (.ref x), a1, a2, a3, a4, a5, a6, a7, a8, a9, a10, a11] (st) ah Q = WP E c 235 166 [some (.ref x), a1, a2, a3, a4, a5, a6, a7, a8, a9, a10, a11] (.ref x :: st) ah Q := wp_s i235_165 rfl rfl rfl rfl
theorem i235_166 : insAt 235 166 = some (.getfield 11262, 169) := by decide +kernel
theorem r235_166 {E : aEnv} {c : Nat} {ah : aHp} {st : List Value} {Q : Option Value → aHp → Prop} {a0 a1 a2 a3 a4 a5 a6 a7 a8 a9 a10 a11 : Option Value} {a : Nat} : WP E c 235 166 [a0, a1, a2, a3, a4, a5, a6, a7, a8, a9, a10, a11] (.ref a :: st) ah Q = WPo (oGF (hg E ah a) 11 26) (fun v => WP E c 235 169 [a0, a1, a2, a3, a4, a5, a6, a7, a8, a9, a10, a11] (v :: st) ah Q) := wp_getf i235_166
theorem i235_169 : insAt 235 169 = some (.iload 10, 171) := by decide +kernel
theorem r235_169 {E : aEnv} {c : Nat} {ah : aHp} {st : List Value} {Q : Option Value → aHp → Prop} {a0 a1 a2 a3 a4 a5 a6 a7 a8 a9 a11 : Option Value} {x : Int32} : WP E c 235 169 [a0, a1, a2, a3, a4, a5, a6, a7, a8, a9, some (.int x), a11] (st) ah Q = WP E c 235 171 [a0, a1, a2, a3, a4, a5, a6, a7, a8, a9, some (.int x), a11] (.int x :: st) ah Q := wp_s i235_169 rfl rfl rfl rfl
theorem i235_171 : insAt 235 171 = some (.laload, 172) := by decide +kernel
theorem r235_171 {E : aEnv} {c : Nat} {ah : aHp} {st : List Value} {Q : Option Value → aHp → Prop} {a0 a1 a2 a3 a4 a5 a6 a7 a8 a9 a10 a11 : Option Value} {i : Int32} {a : Nat} : WP E c 235 171 [a0, a1, a2, a3, a4, a5, a6, a7, a8, a9, a10, a11] (.int i :: .ref a :: st) ah Q = WPo (gL E ah (.int i :: .ref a :: st)) (fun s9 => WP E c 235 172 [a0, a1, a2, a3, a4, a5, a6, a7, a8, a9, a10, a11] s9 ah Q) := wp_hr i235_171 rfl rfl rfl rfl rfl rfl rfl rfl
theorem i235_172 : insAt 235 172 = some (.ladd, 173) := by decide +kernel
theorem r235_172 {E : aEnv} {c : Nat} {ah : aHp} {st : List Value} {Q : Option Value → aHp → Prop} {a0 a1 a2 a3 a4 a5 a6 a7 a8 a9 a10 a11 : Option Value} {x y : Int64} : WP E c 235 172 [a0, a1, a2, a3, a4, a5, a6, a7, a8, a9, a10, a11] (.long y :: .long x :: st) ah Q = WP E c 235 173 [a0, a1, a2, a3, a4, a5, a6, a7, a8, a9, a10, a11] (.long (x + y) :: st) ah Q := wp_s i235_172 rfl rfl rfl rfl
theorem i235_173 : insAt 235 173 = some (.lastore, 174) := by decide +kernel
theorem r235_173 {E : aEnv} {c : Nat} {ah : aHp} {st : List Value} {Q : Option Value → aHp → Prop} {a0 a1 a2 a3 a4 a5 a6 a7 a8 a9 a10 a11 : Option Value} {x : Int64} {i : Int32} {a : Nat} : WP E c 235 173 [a0, a1, a2, a3, a4, a5, a6, a7, a8, a9, a10, a11] (.long x :: .int i :: .ref a :: st) ah Q = WPo (pL E ah (.long x :: .int i :: .ref a :: st)) (fun q9 => WP E c 235 174 [a0, a1, a2, a3, a4, a5, a6, a7, a8, a9, a10, a11] q9.1 q9.2 Q) := wp_hw i235_173 rfl rfl rfl rfl rfl rfl rfl rfl
theorem i235_174 : insAt 235 174 = some (.iinc 10 2, 177) := by decide +kernel
theorem r235_174 {E : aEnv} {c : Nat} {ah : aHp} {st : List Value} {Q : Option Value → aHp → Prop} {a0 a1 a2 a3 a4 a5 a6 a7 a8 a9 a11 : Option Value} {x : Int32} : WP E c 235 174 [a0, a1, a2, a3, a4, a5, a6, a7, a8, a9, some (.int x), a11] (st) ah Q = WP E c 235 177 [a0, a1, a2, a3, a4, a5, a6, a7, a8, kil a9, some (.int (x + 2)), a11] (st) ah Q := wp_s i235_174 rfl rfl rfl rfl
theorem i235_177 : insAt 235 177 = some (.goto 149, 180) := by decide +kernel
theorem r235_177 {E : aEnv} {c : Nat} {ah : aHp} {st : List Value} {Q : Option Value → aHp → Prop} {a0 a1 a2 a3 a4 a5 a6 a7 a8 a9 a10 a11 : Option Value} : WP E c 235 177 [a0, a1, a2, a3, a4, a5, a6, a7, a8, a9, a10, a11] (st) ah Q = WP E c 235 149 [a0, a1, a2, a3, a4, a5, a6, a7, a8, a9, a10, a11] st ah Q := wp_s i235_177 rfl rfl rfl rfl
theorem i235_180 : insAt 235 180 = some (.iconst 2, 181) := by decide +kernel
theorem r235_180 {E : aEnv} {c : Nat} {ah : aHp} {st : List Value} {Q : Option Value → aHp → Prop} {a0 a1 a2 a3 a4 a5 a6 a7 a8 a9 a10 a11 : Option Value} : WP E c 235 180 [a0, a1, a2, a3, a4, a5, a6, a7, a8, a9, a10, a11] (st) ah Q = WP E c 235 181 [a0, a1, a2, a3, a4, a5, a6, a7, a8, a9, a10, a11] (.int (2) :: st) ah Q := wp_s i235_180 rfl rfl rfl rfl
theorem i235_181 : insAt 235 181 = some (.istore 10, 183) := by decide +kernel
theorem r235_181 {E : aEnv} {c : Nat} {ah : aHp} {st : List Value} {Q : Option Value → aHp → Prop} {a0 a1 a2 a3 a4 a5 a6 a7 a8 a9 a10 a11 : Option Value} {x : Int32} : WP E c 235 181 [a0, a1, a2, a3, a4, a5, a6, a7, a8, a9, a10, a11] (.int x :: st) ah Q = WP E c 235 183 [a0, a1, a2, a3, a4, a5, a6, a7, a8, kil a9, some (.int x), a11] (st) ah Q := wp_s i235_181 rfl rfl rfl rfl
theorem i235_183 : insAt 235 183 = some (.iload 10, 185) := by decide +kernel
theorem r235_183 {E : aEnv} {c : Nat} {ah : aHp} {st : List Value} {Q : Option Value → aHp → Prop} {a0 a1 a2 a3 a4 a5 a6 a7 a8 a9 a11 : Option Value} {x : Int32} : WP E c 235 183 [a0, a1, a2, a3, a4, a5, a6, a7, a8, a9, some (.int x), a11] (st) ah Q = WP E c 235 185 [a0, a1, a2, a3, a4, a5, a6, a7, a8, a9, some (.int x), a11] (.int x :: st) ah Q := wp_s i235_183 rfl rfl rfl rfl
theorem i235_185 : insAt 235 185 = some (.iload 1, 186) := by decide +kernel
theorem r235_185 {E : aEnv} {c : Nat} {ah : aHp} {st : List Value} {Q : Option Value → aHp → Prop} {a0 a2 a3 a4 a5 a6 a7 a8 a9 a10 a11 : Option Value} {x : Int32} : WP E c 235 185 [a0, some (.int x), a2, a3, a4, a5, a6, a7, a8, a9, a10, a11] (st) ah Q = WP E c 235 186 [a0, some (.int x), a2, a3, a4, a5, a6, a7, a8, a9, a10, a11] (.int x :: st) ah Q := wp_s i235_185 rfl rfl rfl rfl
theorem i235_186 : insAt 235 186 = some (.if_icmp .gt 214, 189) := by decide +kernel
theorem r235_186 {E : aEnv} {c : Nat} {ah : aHp} {st : List Value} {Q : Option Value → aHp → Prop} {a0 a1 a2 a3 a4 a5 a6 a7 a8 a9 a10 a11 : Option Value} {x y : Int32} : WP E c 235 186 [a0, a1, a2, a3, a4, a5, a6, a7, a8, a9, a10, a11] (.int y :: .int x :: st) ah Q = if y < x then WP E c 235 214 [a0, a1, a2, a3, a4, a5, a6, a7, a8, a9, a10, a11] st ah Q else WP E c 235 189 [a0, a1, a2, a3, a4, a5, a6, a7, a8, a9, a10, a11] st ah Q := wp_j i235_186 rfl rfl rfl rfl
theorem i235_189 : insAt 235 189 = some (.aload 0, 190) := by decide +kernel
theorem r235_189 {E : aEnv} {c : Nat} {ah : aHp} {st : List Value} {Q : Option Value → aHp → Prop} {a1 a2 a3 a4 a5 a6 a7 a8 a9 a10 a11 : Option Value} {x : Nat} : WP E c 235 189 [some (.ref x), a1, a2, a3, a4, a5, a6, a7, a8, a9, a10, a11] (st) ah Q = WP E c 235 190 [some (.ref x), a1, a2, a3, a4, a5, a6, a7, a8, a9, a10, a11] (.ref x :: st) ah Q := wp_s i235_189 rfl rfl rfl rfl
theorem i235_190 : insAt 235 190 = some (.getfield 11262, 193) := by decide +kernel
theorem r235_190 {E : aEnv} {c : Nat} {ah : aHp} {st : List Value} {Q : Option Value → aHp → Prop} {a0 a1 a2 a3 a4 a5 a6 a7 a8 a9 a10 a11 : Option Value} {a : Nat} : WP E c 235 190 [a0, a1, a2, a3, a4, a5, a6, a7, a8, a9, a10, a11] (.ref a :: st) ah Q = WPo (oGF (hg E ah a) 11 26) (fun v => WP E c 235 193 [a0, a1, a2, a3, a4, a5, a6, a7, a8, a9, a10, a11] (v :: st) ah Q) := wp_getf i235_190
theorem i235_193 : insAt 235 193 = some (.iload 10, 195) := by decide +kernel
theorem r235_193 {E : aEnv} {c : Nat} {ah : aHp} {st : List Value} {Q : Option Value → aHp → Prop} {a0 a1 a2 a3 a4 a5 a6 a7 a8 a9 a11 : Option Value} {x : Int32} : WP E c 235 193 [a0, a1, a2, a3, a4, a5, a6, a7, a8, a9, some (.int x), a11] (st) ah Q = WP E c 235 195 [a0, a1, a2, a3, a4, a5, a6, a7, a8, a9, some (.int x), a11] (.int x :: st) ah Q := wp_s i235_193 rfl rfl rfl rfl
theorem i235_195 : insAt 235 195 = some (.iconst 1, 196) := by decide +kernel
theorem r235_195 {E : aEnv} {c : Nat} {ah : aHp} {st : List Value} {Q : Option Value → aHp → Prop} {a0 a1 a2 a3 a4 a5 a6 a7 a8 a9 a10 a11 : Option Value} : WP E c 235 195 [a0, a1, a2, a3, a4, a5, a6, a7, a8, a9, a10, a11] (st) ah Q = WP E c 235 196 [a0, a1, a2, a3, a4, a5, a6, a7, a8, a9, a10, a11] (.int (1) :: st) ah Q := wp_s i235_195 rfl rfl rfl rfl
theorem i235_196 : insAt 235 196 = some (.isub, 197) := by decide +kernel
theorem r235_196 {E : aEnv} {c : Nat} {ah : aHp} {st : List Value} {Q : Option Value → aHp → Prop} {a0 a1 a2 a3 a4 a5 a6 a7 a8 a9 a10 a11 : Option Value} {x y : Int32} : WP E c 235 196 [a0, a1, a2, a3, a4, a5, a6, a7, a8, a9, a10, a11] (.int y :: .int x :: st) ah Q = WP E c 235 197 [a0, a1, a2, a3, a4, a5, a6, a7, a8, a9, a10, a11] (.int (x - y) :: st) ah Q := wp_s i235_196 rfl rfl rfl rfl
theorem i235_197 : insAt 235 197 = some (.dup2, 198) := by decide +kernel
theorem r235_197 {E : aEnv} {c : Nat} {ah : aHp} {st : List Value} {Q : Option Value → aHp → Prop} {a0 a1 a2 a3 a4 a5 a6 a7 a8 a9 a10 a11 : Option Value} {x : Int32} {a : Nat} : WP E c 235 197 [a0, a1, a2, a3, a4, a5, a6, a7, a8, a9, a10, a11] (.int x :: .ref a :: st) ah Q = WP E c 235 198 [a0, a1, a2, a3, a4, a5, a6, a7, a8, a9, a10, a11] (.int x :: .ref a :: .int x :: .ref a :: st) ah Q := wp_s i235_197 rfl rfl rfl rfl
theorem r235_197l {E : aEnv} {c : Nat} {ah : aHp} {st : List Value} {Q : Option Value → aHp → Prop} {a0 a1 a2 a3 a4 a5 a6 a7 a8 a9 a10 a11 : Option Value} {x : Int64} : WP E c 235 197 [a0, a1, a2, a3, a4, a5, a6, a7, a8, a9, a10, a11] (.long x :: st) ah Q = WP E c 235 198 [a0, a1, a2, a3, a4, a5, a6, a7, a8, a9, a10, a11] (.long x :: .long x :: st) ah Q := wp_s i235_197 rfl rfl rfl rfl
theorem i235_198 : insAt 235 198 = some (.laload, 199) := by decide +kernel
theorem r235_198 {E : aEnv} {c : Nat} {ah : aHp} {st : List Value} {Q : Option Value → aHp → Prop} {a0 a1 a2 a3 a4 a5 a6 a7 a8 a9 a10 a11 : Option Value} {i : Int32} {a : Nat} : WP E c 235 198 [a0, a1, a2, a3, a4, a5, a6, a7, a8, a9, a10, a11] (.int i :: .ref a :: st) ah Q = WPo (gL E ah (.int i :: .ref a :: st)) (fun s9 => WP E c 235 199 [a0, a1, a2, a3, a4, a5, a6, a7, a8, a9, a10, a11] s9 ah Q) := wp_hr i235_198 rfl rfl rfl rfl rfl rfl rfl rfl
theorem i235_199 : insAt 235 199 = some (.aload 0, 200) := by decide +kernel
theorem r235_199 {E : aEnv} {c : Nat} {ah : aHp} {st : List Value} {Q : Option Value → aHp → Prop} {a1 a2 a3 a4 a5 a6 a7 a8 a9 a10 a11 : Option Value} {x : Nat} : WP E c 235 199 [some (.ref x), a1, a2, a3, a4, a5, a6, a7, a8, a9, a10, a11] (st) ah Q = WP E c 235 200 [some (.ref x), a1, a2, a3, a4, a5, a6, a7, a8, a9, a10, a11] (.ref x :: st) ah Q := wp_s i235_199 rfl rfl rfl rfl
theorem i235_200 : insAt 235 200 = some (.getfield 11262, 203) := by decide +kernel
theorem r235_200 {E : aEnv} {c : Nat} {ah : aHp} {st : List Value} {Q : Option Value → aHp → Prop} {a0 a1 a2 a3 a4 a5 a6 a7 a8 a9 a10 a11 : Option Value} {a : Nat} : WP E c 235 200 [a0, a1, a2, a3, a4, a5, a6, a7, a8, a9, a10, a11] (.ref a :: st) ah Q = WPo (oGF (hg E ah a) 11 26) (fun v => WP E c 235 203 [a0, a1, a2, a3, a4, a5, a6, a7, a8, a9, a10, a11] (v :: st) ah Q) := wp_getf i235_200
theorem i235_203 : insAt 235 203 = some (.iload 10, 205) := by decide +kernel
theorem r235_203 {E : aEnv} {c : Nat} {ah : aHp} {st : List Value} {Q : Option Value → aHp → Prop} {a0 a1 a2 a3 a4 a5 a6 a7 a8 a9 a11 : Option Value} {x : Int32} : WP E c 235 203 [a0, a1, a2, a3, a4, a5, a6, a7, a8, a9, some (.int x), a11] (st) ah Q = WP E c 235 205 [a0, a1, a2, a3, a4, a5, a6, a7, a8, a9, some (.int x), a11] (.int x :: st) ah Q := wp_s i235_203 rfl rfl rfl rfl
theorem i235_205 : insAt 235 205 = some (.laload, 206) := by decide +kernel
theorem r235_205 {E : aEnv} {c : Nat} {ah : aHp} {st : List Value} {Q : Option Value → aHp → Prop} {a0 a1 a2 a3 a4 a5 a6 a7 a8 a9 a10 a11 : Option Value} {i : Int32} {a : Nat} : WP E c 235 205 [a0, a1, a2, a3, a4, a5, a6, a7, a8, a9, a10, a11] (.int i :: .ref a :: st) ah Q = WPo (gL E ah (.int i :: .ref a :: st)) (fun s9 => WP E c 235 206 [a0, a1, a2, a3, a4, a5, a6, a7, a8, a9, a10, a11] s9 ah Q) := wp_hr i235_205 rfl rfl rfl rfl rfl rfl rfl rfl
theorem i235_206 : insAt 235 206 = some (.ladd, 207) := by decide +kernel
theorem r235_206 {E : aEnv} {c : Nat} {ah : aHp} {st : List Value} {Q : Option Value → aHp → Prop} {a0 a1 a2 a3 a4 a5 a6 a7 a8 a9 a10 a11 : Option Value} {x y : Int64} : WP E c 235 206 [a0, a1, a2, a3, a4, a5, a6, a7, a8, a9, a10, a11] (.long y :: .long x :: st) ah Q = WP E c 235 207 [a0, a1, a2, a3, a4, a5, a6, a7, a8, a9, a10, a11] (.long (x + y) :: st) ah Q := wp_s i235_206 rfl rfl rfl rfl
theorem i235_207 : insAt 235 207 = some (.lastore, 208) := by decide +kernel
theorem r235_207 {E : aEnv} {c : Nat} {ah : aHp} {st : List Value} {Q : Option Value → aHp → Prop} {a0 a1 a2 a3 a4 a5 a6 a7 a8 a9 a10 a11 : Option Value} {x : Int64} {i : Int32} {a : Nat} : WP E c 235 207 [a0, a1, a2, a3, a4, a5, a6, a7, a8, a9, a10, a11] (.long x :: .int i :: .ref a :: st) ah Q = WPo (pL E ah (.long x :: .int i :: .ref a :: st)) (fun q9 => WP E c 235 208 [a0, a1, a2, a3, a4, a5, a6, a7, a8, a9, a10, a11] q9.1 q9.2 Q) := wp_hw i235_207 rfl rfl rfl rfl rfl rfl rfl rfl
theorem i235_208 : insAt 235 208 = some (.iinc 10 2, 211) := by decide +kernel
theorem r235_208 {E : aEnv} {c : Nat} {ah : aHp} {st : List Value} {Q : Option Value → aHp → Prop} {a0 a1 a2 a3 a4 a5 a6 a7 a8 a9 a11 : Option Value} {x : Int32} : WP E c 235 208 [a0, a1, a2, a3, a4, a5, a6, a7, a8, a9, some (.int x), a11] (st) ah Q = WP E c 235 211 [a0, a1, a2, a3, a4, a5, a6, a7, a8, kil a9, some (.int (x + 2)), a11] (st) ah Q := wp_s i235_208 rfl rfl rfl rfl
theorem i235_211 : insAt 235 211 = some (.goto 183, 214) := by decide +kernel
theorem r235_211 {E : aEnv} {c : Nat} {ah : aHp} {st : List Value} {Q : Option Value → aHp → Prop} {a0 a1 a2 a3 a4 a5 a6 a7 a8 a9 a10 a11 : Option Value} : WP E c 235 211 [a0, a1, a2, a3, a4, a5, a6, a7, a8, a9, a10, a11] (st) ah Q = WP E c 235 183 [a0, a1, a2, a3, a4, a5, a6, a7, a8, a9, a10, a11] st ah Q := wp_s i235_211 rfl rfl rfl rfl
theorem i235_214 : insAt 235 214 = some (.iinc 9 1, 217) := by decide +kernel
theorem r235_214 {E : aEnv} {c : Nat} {ah : aHp} {st : List Value} {Q : Option Value → aHp → Prop} {a0 a1 a2 a3 a4 a5 a6 a7 a8 a10 a11 : Option Value} {x : Int32} : WP E c 235 214 [a0, a1, a2, a3, a4, a5, a6, a7, a8, some (.int x), a10, a11] (st) ah Q = WP E c 235 217 [a0, a1, a2, a3, a4, a5, a6, a7, kil a8, some (.int (x + 1)), a10, a11] (st) ah Q := wp_s i235_214 rfl rfl rfl rfl
theorem i235_217 : insAt 235 217 = some (.goto 110, 220) := by decide +kernel
theorem r235_217 {E : aEnv} {c : Nat} {ah : aHp} {st : List Value} {Q : Option Value → aHp → Prop} {a0 a1 a2 a3 a4 a5 a6 a7 a8 a9 a10 a11 : Option Value} : WP E c 235 217 [a0, a1, a2, a3, a4, a5, a6, a7, a8, a9, a10, a11] (st) ah Q = WP E c 235 110 [a0, a1, a2, a3, a4, a5, a6, a7, a8, a9, a10, a11] st ah Q := wp_s i235_217 rfl rfl rfl rfl
theorem i235_220 : insAt 235 220 = some (.iconst 1, 221) := by decide +kernel
theorem r235_220 {E : aEnv} {c : Nat} {ah : aHp} {st : List Value} {Q : Option Value → aHp → Prop} {a0 a1 a2 a3 a4 a5 a6 a7 a8 a9 a10 a11 : Option Value} : WP E c 235 220 [a0, a1, a2, a3, a4, a5, a6, a7, a8, a9, a10, a11] (st) ah Q = WP E c 235 221 [a0, a1, a2, a3, a4, a5, a6, a7, a8, a9, a10, a11] (.int (1) :: st) ah Q := wp_s i235_220 rfl rfl rfl rfl
theorem i235_221 : insAt 235 221 = some (.freturn, 222) := by decide +kernel
theorem r235_221 {E : aEnv} {c : Nat} {ah : aHp} {Q : Option Value → aHp → Prop} {a0 a1 a2 a3 a4 a5 a6 a7 a8 a9 a10 a11 : Option Value} {x : Int32} (hx : x = 0 ∨ x = 1) : WP E c 235 221 [a0, a1, a2, a3, a4, a5, a6, a7, a8, a9, a10, a11] ([.int x]) ah Q = Q (some (.int x)) ah := wp_rt i235_221 (by simp only [rtA, if_pos hx])
theorem e236 {E : aEnv} {c : Nat} {ah ahF : aHp} {r : Option Value} {p0 : Nat} {p1 : Int32} (h : WP E c 236 0 [some (.ref p0), some (.int p1)] [] ah (fun r1 x1 => r1 = r ∧ x1 = ahF)) : EV E c 236 [.ref p0, .int p1] ah r ahF := EV.of (by rw [mr236.2.1]; exact h)
theorem i236_0 : insAt 236 0 = some (.iload 1, 1) := by decide +kernel
theorem r236_0 {E : aEnv} {c : Nat} {ah : aHp} {st : List Value} {Q : Option Value → aHp → Prop} {a0 : Option Value} {x : Int32} : WP E c 236 0 [a0, some (.int x)] (st) ah Q = WP E c 236 1 [a0, some (.int x)] (.int x :: st) ah Q := wp_s i236_0 rfl rfl rfl rfl
theorem i236_1 : insAt 236 1 = some (.aload 0, 2) := by decide +kernel
theorem r236_1 {E : aEnv} {c : Nat} {ah : aHp} {st : List Value} {Q : Option Value → aHp → Prop} {a1 : Option Value} {x : Nat} : WP E c 236 1 [some (.ref x), a1] (st) ah Q = WP E c 236 2 [some (.ref x), a1] (.ref x :: st) ah Q := wp_s i236_1 rfl rfl rfl rfl
theorem i236_2 : insAt 236 2 = some (.getfield 11300, 5) := by decide +kernel
theorem r236_2 {E : aEnv} {c : Nat} {ah : aHp} {st : List Value} {Q : Option Value → aHp → Prop} {a0 a1 : Option Value} {a : Nat} : WP E c 236 2 [a0, a1] (.ref a :: st) ah Q = WPo (oGF (hg E ah a) 11 30) (fun v => WP E c 236 5 [a0, a1] (v :: st) ah Q) := wp_getf i236_2
theorem i236_5 : insAt 236 5 = some (.if_icmp .ge 21, 8) := by decide +kernel
theorem r236_5 {E : aEnv} {c : Nat} {ah : aHp} {st : List Value} {Q : Option Value → aHp → Prop} {a0 a1 : Option Value} {x y : Int32} : WP E c 236 5 [a0, a1] (.int y :: .int x :: st) ah Q = if y ≤ x then WP E c 236 21 [a0, a1] st ah Q else WP E c 236 8 [a0, a1] st ah Q := wp_j i236_5 rfl rfl rfl rfl
theorem i236_8 : insAt 236 8 = some (.aload 0, 9) := by decide +kernel
theorem r236_8 {E : aEnv} {c : Nat} {ah : aHp} {st : List Value} {Q : Option Value → aHp → Prop} {a1 : Option Value} {x : Nat} : WP E c 236 8 [some (.ref x), a1] (st) ah Q = WP E c 236 9 [some (.ref x), a1] (.ref x :: st) ah Q := wp_s i236_8 rfl rfl rfl rfl
theorem i236_9 : insAt 236 9 = some (.getfield 11282, 12) := by decide +kernel
theorem r236_9 {E : aEnv} {c : Nat} {ah : aHp} {st : List Value} {Q : Option Value → aHp → Prop} {a0 a1 : Option Value} {a : Nat} : WP E c 236 9 [a0, a1] (.ref a :: st) ah Q = WPo (oGF (hg E ah a) 11 28) (fun v => WP E c 236 12 [a0, a1] (v :: st) ah Q) := wp_getf i236_9
theorem i236_12 : insAt 236 12 = some (.iload 1, 13) := by decide +kernel
theorem r236_12 {E : aEnv} {c : Nat} {ah : aHp} {st : List Value} {Q : Option Value → aHp → Prop} {a0 : Option Value} {x : Int32} : WP E c 236 12 [a0, some (.int x)] (st) ah Q = WP E c 236 13 [a0, some (.int x)] (.int x :: st) ah Q := wp_s i236_12 rfl rfl rfl rfl
theorem i236_13 : insAt 236 13 = some (.baload, 14) := by decide +kernel
theorem r236_13 {E : aEnv} {c : Nat} {ah : aHp} {st : List Value} {Q : Option Value → aHp → Prop} {a0 a1 : Option Value} {i : Int32} {a : Nat} : WP E c 236 13 [a0, a1] (.int i :: .ref a :: st) ah Q = WPo (gB E ah (.int i :: .ref a :: st)) (fun s9 => WP E c 236 14 [a0, a1] s9 ah Q) := wp_hr i236_13 rfl rfl rfl rfl rfl rfl rfl rfl
theorem i236_14 : insAt 236 14 = some (.iconst 255, 17) := by decide +kernel
theorem r236_14 {E : aEnv} {c : Nat} {ah : aHp} {st : List Value} {Q : Option Value → aHp → Prop} {a0 a1 : Option Value} : WP E c 236 14 [a0, a1] (st) ah Q = WP E c 236 17 [a0, a1] (.int (255) :: st) ah Q := wp_s i236_14 rfl rfl rfl rfl
theorem i236_17 : insAt 236 17 = some (.iand, 18) := by decide +kernel
theorem r236_17 {E : aEnv} {c : Nat} {ah : aHp} {st : List Value} {Q : Option Value → aHp → Prop} {a0 a1 : Option Value} {x y : Int32} : WP E c 236 17 [a0, a1] (.int y :: .int x :: st) ah Q = WP E c 236 18 [a0, a1] (.int (x &&& y) :: st) ah Q := wp_s i236_17 rfl rfl rfl rfl
theorem i236_18 : insAt 236 18 = some (.goto 22, 21) := by decide +kernel
theorem r236_18 {E : aEnv} {c : Nat} {ah : aHp} {st : List Value} {Q : Option Value → aHp → Prop} {a0 a1 : Option Value} : WP E c 236 18 [a0, a1] (st) ah Q = WP E c 236 22 [a0, a1] st ah Q := wp_s i236_18 rfl rfl rfl rfl
theorem i236_21 : insAt 236 21 = some (.iconst 0, 22) := by decide +kernel
theorem r236_21 {E : aEnv} {c : Nat} {ah : aHp} {st : List Value} {Q : Option Value → aHp → Prop} {a0 a1 : Option Value} : WP E c 236 21 [a0, a1] (st) ah Q = WP E c 236 22 [a0, a1] (.int (0) :: st) ah Q := wp_s i236_21 rfl rfl rfl rfl
theorem i236_22 : insAt 236 22 = some (.ireturn, 23) := by decide +kernel
theorem r236_22 {E : aEnv} {c : Nat} {ah : aHp} {Q : Option Value → aHp → Prop} {a0 a1 : Option Value} {x : Int32} : WP E c 236 22 [a0, a1] ([.int x]) ah Q = Q (some (.int x)) ah := wp_rt i236_22 rfl
theorem e237 {E : aEnv} {c : Nat} {ah ahF : aHp} {r : Option Value} {p0 : Int32} (h : WP E c 237 0 [some (.int p0)] [] ah (fun r1 x1 => r1 = r ∧ x1 = ahF)) : EV E c 237 [.int p0] ah r ahF := EV.of (by rw [mr237.2.1]; exact h)
theorem i237_0 : insAt 237 0 = some (.iload 0, 1) := by decide +kernel
theorem r237_0 {E : aEnv} {c : Nat} {ah : aHp} {st : List Value} {Q : Option Value → aHp → Prop} {x : Int32} : WP E c 237 0 [some (.int x)] (st) ah Q = WP E c 237 1 [some (.int x)] (.int x :: st) ah Q := wp_s i237_0 rfl rfl rfl rfl
theorem i237_1 : insAt 237 1 = some (.iconst 97, 3) := by decide +kernel
theorem r237_1 {E : aEnv} {c : Nat} {ah : aHp} {st : List Value} {Q : Option Value → aHp → Prop} {a0 : Option Value} : WP E c 237 1 [a0] (st) ah Q = WP E c 237 3 [a0] (.int (97) :: st) ah Q := wp_s i237_1 rfl rfl rfl rfl
theorem i237_3 : insAt 237 3 = some (.if_icmp .lt 16, 6) := by decide +kernel
theorem r237_3 {E : aEnv} {c : Nat} {ah : aHp} {st : List Value} {Q : Option Value → aHp → Prop} {a0 : Option Value} {x y : Int32} : WP E c 237 3 [a0] (.int y :: .int x :: st) ah Q = if x < y then WP E c 237 16 [a0] st ah Q else WP E c 237 6 [a0] st ah Q := wp_j i237_3 rfl rfl rfl rfl
theorem i237_6 : insAt 237 6 = some (.iload 0, 7) := by decide +kernel
theorem r237_6 {E : aEnv} {c : Nat} {ah : aHp} {st : List Value} {Q : Option Value → aHp → Prop} {x : Int32} : WP E c 237 6 [some (.int x)] (st) ah Q = WP E c 237 7 [some (.int x)] (.int x :: st) ah Q := wp_s i237_6 rfl rfl rfl rfl
theorem i237_7 : insAt 237 7 = some (.iconst 122, 9) := by decide +kernel
theorem r237_7 {E : aEnv} {c : Nat} {ah : aHp} {st : List Value} {Q : Option Value → aHp → Prop} {a0 : Option Value} : WP E c 237 7 [a0] (st) ah Q = WP E c 237 9 [a0] (.int (122) :: st) ah Q := wp_s i237_7 rfl rfl rfl rfl
theorem i237_9 : insAt 237 9 = some (.if_icmp .gt 16, 12) := by decide +kernel
theorem r237_9 {E : aEnv} {c : Nat} {ah : aHp} {st : List Value} {Q : Option Value → aHp → Prop} {a0 : Option Value} {x y : Int32} : WP E c 237 9 [a0] (.int y :: .int x :: st) ah Q = if y < x then WP E c 237 16 [a0] st ah Q else WP E c 237 12 [a0] st ah Q := wp_j i237_9 rfl rfl rfl rfl
theorem i237_12 : insAt 237 12 = some (.iconst 1, 13) := by decide +kernel
theorem r237_12 {E : aEnv} {c : Nat} {ah : aHp} {st : List Value} {Q : Option Value → aHp → Prop} {a0 : Option Value} : WP E c 237 12 [a0] (st) ah Q = WP E c 237 13 [a0] (.int (1) :: st) ah Q := wp_s i237_12 rfl rfl rfl rfl
theorem i237_13 : insAt 237 13 = some (.goto 17, 16) := by decide +kernel
theorem r237_13 {E : aEnv} {c : Nat} {ah : aHp} {st : List Value} {Q : Option Value → aHp → Prop} {a0 : Option Value} : WP E c 237 13 [a0] (st) ah Q = WP E c 237 17 [a0] st ah Q := wp_s i237_13 rfl rfl rfl rfl
theorem i237_16 : insAt 237 16 = some (.iconst 0, 17) := by decide +kernel
theorem r237_16 {E : aEnv} {c : Nat} {ah : aHp} {st : List Value} {Q : Option Value → aHp → Prop} {a0 : Option Value} : WP E c 237 16 [a0] (st) ah Q = WP E c 237 17 [a0] (.int (0) :: st) ah Q := wp_s i237_16 rfl rfl rfl rfl
theorem i237_17 : insAt 237 17 = some (.freturn, 18) := by decide +kernel
theorem r237_17 {E : aEnv} {c : Nat} {ah : aHp} {Q : Option Value → aHp → Prop} {a0 : Option Value} {x : Int32} (hx : x = 0 ∨ x = 1) : WP E c 237 17 [a0] ([.int x]) ah Q = Q (some (.int x)) ah := wp_rt i237_17 (by simp only [rtA, if_pos hx])
theorem e238 {E : aEnv} {c : Nat} {ah ahF : aHp} {r : Option Value} {p0 : Int32} (h : WP E c 238 0 [some (.int p0)] [] ah (fun r1 x1 => r1 = r ∧ x1 = ahF)) : EV E c 238 [.int p0] ah r ahF := EV.of (by rw [mr238.2.1]; exact h)
theorem i238_0 : insAt 238 0 = some (.iload 0, 1) := by decide +kernel
theorem r238_0 {E : aEnv} {c : Nat} {ah : aHp} {st : List Value} {Q : Option Value → aHp → Prop} {x : Int32} : WP E c 238 0 [some (.int x)] (st) ah Q = WP E c 238 1 [some (.int x)] (.int x :: st) ah Q := wp_s i238_0 rfl rfl rfl rfl
theorem i238_1 : insAt 238 1 = some (.iconst 48, 3) := by decide +kernel
theorem r238_1 {E : aEnv} {c : Nat} {ah : aHp} {st : List Value} {Q : Option Value → aHp → Prop} {a0 : Option Value} : WP E c 238 1 [a0] (st) ah Q = WP E c 238 3 [a0] (.int (48) :: st) ah Q := wp_s i238_1 rfl rfl rfl rfl
theorem i238_3 : insAt 238 3 = some (.if_icmp .lt 16, 6) := by decide +kernel
theorem r238_3 {E : aEnv} {c : Nat} {ah : aHp} {st : List Value} {Q : Option Value → aHp → Prop} {a0 : Option Value} {x y : Int32} : WP E c 238 3 [a0] (.int y :: .int x :: st) ah Q = if x < y then WP E c 238 16 [a0] st ah Q else WP E c 238 6 [a0] st ah Q := wp_j i238_3 rfl rfl rfl rfl
theorem i238_6 : insAt 238 6 = some (.iload 0, 7) := by decide +kernel
theorem r238_6 {E : aEnv} {c : Nat} {ah : aHp} {st : List Value} {Q : Option Value → aHp → Prop} {x : Int32} : WP E c 238 6 [some (.int x)] (st) ah Q = WP E c 238 7 [some (.int x)] (.int x :: st) ah Q := wp_s i238_6 rfl rfl rfl rfl
theorem i238_7 : insAt 238 7 = some (.iconst 57, 9) := by decide +kernel
theorem r238_7 {E : aEnv} {c : Nat} {ah : aHp} {st : List Value} {Q : Option Value → aHp → Prop} {a0 : Option Value} : WP E c 238 7 [a0] (st) ah Q = WP E c 238 9 [a0] (.int (57) :: st) ah Q := wp_s i238_7 rfl rfl rfl rfl
theorem i238_9 : insAt 238 9 = some (.if_icmp .gt 16, 12) := by decide +kernel
theorem r238_9 {E : aEnv} {c : Nat} {ah : aHp} {st : List Value} {Q : Option Value → aHp → Prop} {a0 : Option Value} {x y : Int32} : WP E c 238 9 [a0] (.int y :: .int x :: st) ah Q = if y < x then WP E c 238 16 [a0] st ah Q else WP E c 238 12 [a0] st ah Q := wp_j i238_9 rfl rfl rfl rfl
theorem i238_12 : insAt 238 12 = some (.iconst 1, 13) := by decide +kernel
theorem r238_12 {E : aEnv} {c : Nat} {ah : aHp} {st : List Value} {Q : Option Value → aHp → Prop} {a0 : Option Value} : WP E c 238 12 [a0] (st) ah Q = WP E c 238 13 [a0] (.int (1) :: st) ah Q := wp_s i238_12 rfl rfl rfl rfl
theorem i238_13 : insAt 238 13 = some (.goto 17, 16) := by decide +kernel
theorem r238_13 {E : aEnv} {c : Nat} {ah : aHp} {st : List Value} {Q : Option Value → aHp → Prop} {a0 : Option Value} : WP E c 238 13 [a0] (st) ah Q = WP E c 238 17 [a0] st ah Q := wp_s i238_13 rfl rfl rfl rfl
theorem i238_16 : insAt 238 16 = some (.iconst 0, 17) := by decide +kernel
theorem r238_16 {E : aEnv} {c : Nat} {ah : aHp} {st : List Value} {Q : Option Value → aHp → Prop} {a0 : Option Value} : WP E c 238 16 [a0] (st) ah Q = WP E c 238 17 [a0] (.int (0) :: st) ah Q := wp_s i238_16 rfl rfl rfl rfl
theorem i238_17 : insAt 238 17 = some (.freturn, 18) := by decide +kernel
theorem r238_17 {E : aEnv} {c : Nat} {ah : aHp} {Q : Option Value → aHp → Prop} {a0 : Option Value} {x : Int32} (hx : x = 0 ∨ x = 1) : WP E c 238 17 [a0] ([.int x]) ah Q = Q (some (.int x)) ah := wp_rt i238_17 (by simp only [rtA, if_pos hx])
theorem e239 {E : aEnv} {c : Nat} {ah ahF : aHp} {r : Option Value} {p0 : Nat} (h : WP E c 239 0 [some (.ref p0), none] [] ah (fun r1 x1 => r1 = r ∧ x1 = ahF)) : EV E c 239 [.ref p0] ah r ahF := EV.of (by rw [mr239.2.1]; exact h)
theorem i239_0 : insAt 239 0 = some (.aload 0, 1) := by decide +kernel
theorem r239_0 {E : aEnv} {c : Nat} {ah : aHp} {st : List Value} {Q : Option Value → aHp → Prop} {a1 : Option Value} {x : Nat} : WP E c 239 0 [some (.ref x), a1] (st) ah Q = WP E c 239 1 [some (.ref x), a1] (.ref x :: st) ah Q := wp_s i239_0 rfl rfl rfl rfl
theorem i239_1 : insAt 239 1 = some (.aload 0, 2) := by decide +kernel
theorem r239_1 {E : aEnv} {c : Nat} {ah : aHp} {st : List Value} {Q : Option Value → aHp → Prop} {a1 : Option Value} {x : Nat} : WP E c 239 1 [some (.ref x), a1] (st) ah Q = WP E c 239 2 [some (.ref x), a1] (.ref x :: st) ah Q := wp_s i239_1 rfl rfl rfl rfl
theorem i239_2 : insAt 239 2 = some (.getfield 11370, 5) := by decide +kernel
theorem r239_2 {E : aEnv} {c : Nat} {ah : aHp} {st : List Value} {Q : Option Value → aHp → Prop} {a0 a1 : Option Value} {a : Nat} : WP E c 239 2 [a0, a1] (.ref a :: st) ah Q = WPo (oGF (hg E ah a) 11 37) (fun v => WP E c 239 5 [a0, a1] (v :: st) ah Q) := wp_getf i239_2
theorem i239_5 : insAt 239 5 = some (.putfield 11360, 8) := by decide +kernel
theorem r239_5 {E : aEnv} {c : Nat} {ah : aHp} {st : List Value} {Q : Option Value → aHp → Prop} {a0 a1 : Option Value} {a : Nat} {v : Value} : WP E c 239 5 [a0, a1] (v :: .ref a :: st) ah Q = WPo (oPF (hg E ah a) 11360 v) (fun e => WP E c 239 8 [a0, a1] st (hs E ah a e) Q) := wp_putf i239_5
theorem i239_8 : insAt 239 8 = some (.aload 0, 9) := by decide +kernel
theorem r239_8 {E : aEnv} {c : Nat} {ah : aHp} {st : List Value} {Q : Option Value → aHp → Prop} {a1 : Option Value} {x : Nat} : WP E c 239 8 [some (.ref x), a1] (st) ah Q = WP E c 239 9 [some (.ref x), a1] (.ref x :: st) ah Q := wp_s i239_8 rfl rfl rfl rfl
theorem i239_9 : insAt 239 9 = some (.getfield 11360, 12) := by decide +kernel
theorem r239_9 {E : aEnv} {c : Nat} {ah : aHp} {st : List Value} {Q : Option Value → aHp → Prop} {a0 a1 : Option Value} {a : Nat} : WP E c 239 9 [a0, a1] (.ref a :: st) ah Q = WPo (oGF (hg E ah a) 11 36) (fun v => WP E c 239 12 [a0, a1] (v :: st) ah Q) := wp_getf i239_9
theorem i239_12 : insAt 239 12 = some (.aload 0, 13) := by decide +kernel
theorem r239_12 {E : aEnv} {c : Nat} {ah : aHp} {st : List Value} {Q : Option Value → aHp → Prop} {a1 : Option Value} {x : Nat} : WP E c 239 12 [some (.ref x), a1] (st) ah Q = WP E c 239 13 [some (.ref x), a1] (.ref x :: st) ah Q := wp_s i239_12 rfl rfl rfl rfl
theorem i239_13 : insAt 239 13 = some (.getfield 11300, 16) := by decide +kernel
theorem r239_13 {E : aEnv} {c : Nat} {ah : aHp} {st : List Value} {Q : Option Value → aHp → Prop} {a0 a1 : Option Value} {a : Nat} : WP E c 239 13 [a0, a1] (.ref a :: st) ah Q = WPo (oGF (hg E ah a) 11 30) (fun v => WP E c 239 16 [a0, a1] (v :: st) ah Q) := wp_getf i239_13
theorem i239_16 : insAt 239 16 = some (.if_icmp .ge 58, 19) := by decide +kernel
theorem r239_16 {E : aEnv} {c : Nat} {ah : aHp} {st : List Value} {Q : Option Value → aHp → Prop} {a0 a1 : Option Value} {x y : Int32} : WP E c 239 16 [a0, a1] (.int y :: .int x :: st) ah Q = if y ≤ x then WP E c 239 58 [a0, a1] st ah Q else WP E c 239 19 [a0, a1] st ah Q := wp_j i239_16 rfl rfl rfl rfl
theorem i239_19 : insAt 239 19 = some (.aload 0, 20) := by decide +kernel
theorem r239_19 {E : aEnv} {c : Nat} {ah : aHp} {st : List Value} {Q : Option Value → aHp → Prop} {a1 : Option Value} {x : Nat} : WP E c 239 19 [some (.ref x), a1] (st) ah Q = WP E c 239 20 [some (.ref x), a1] (.ref x :: st) ah Q := wp_s i239_19 rfl rfl rfl rfl
theorem i239_20 : insAt 239 20 = some (.aload 0, 21) := by decide +kernel
theorem r239_20 {E : aEnv} {c : Nat} {ah : aHp} {st : List Value} {Q : Option Value → aHp → Prop} {a1 : Option Value} {x : Nat} : WP E c 239 20 [some (.ref x), a1] (st) ah Q = WP E c 239 21 [some (.ref x), a1] (.ref x :: st) ah Q := wp_s i239_20 rfl rfl rfl rfl
theorem i239_21 : insAt 239 21 = some (.getfield 11360, 24) := by decide +kernel
theorem r239_21 {E : aEnv} {c : Nat} {ah : aHp} {st : List Value} {Q : Option Value → aHp → Prop} {a0 a1 : Option Value} {a : Nat} : WP E c 239 21 [a0, a1] (.ref a :: st) ah Q = WPo (oGF (hg E ah a) 11 36) (fun v => WP E c 239 24 [a0, a1] (v :: st) ah Q) := wp_getf i239_21
theorem i239_24 : insAt 239 24 = some (.invokevirtual 236, 27) := by decide +kernel
theorem r239_24 {E : aEnv} {c : Nat} {ah ah1 : aHp} {r : Option Value} {st : List Value} {Q : Option Value → aHp → Prop} {a0 a1 : Option Value} {p0 : Nat} {p1 : Int32} (h : EV E c 236 [.ref p0, .int p1] ah r ah1) (h2 : oCI (hg E ah p0) = 11) (h3 : wds st ≤ 8) : WP E (c + 1) 239 24 [a0, a1] (.int p1 :: .ref p0 :: st) ah Q = WP E (c + 1) 239 27 [a0, a1] (r.toList ++ st) ah1 Q := wp_call (As := [.ref p0, .int p1]) i239_24 (fun _ => rfl) rfl mr236.1 (rcv_1 h2 mr236.2.2 (by decide)) h3 (by rw [mr236.2.1]; exact Nat.le_of_ble_eq_true rfl) h
theorem i239_27 : insAt 239 27 = some (.iconst 10, 29) := by decide +kernel
theorem r239_27 {E : aEnv} {c : Nat} {ah : aHp} {st : List Value} {Q : Option Value → aHp → Prop} {a0 a1 : Option Value} : WP E c 239 27 [a0, a1] (st) ah Q = WP E c 239 29 [a0, a1] (.int (10) :: st) ah Q := wp_s i239_27 rfl rfl rfl rfl
theorem i239_29 : insAt 239 29 = some (.if_icmp .eq 45, 32) := by decide +kernel
theorem r239_29 {E : aEnv} {c : Nat} {ah : aHp} {st : List Value} {Q : Option Value → aHp → Prop} {a0 a1 : Option Value} {x y : Int32} : WP E c 239 29 [a0, a1] (.int y :: .int x :: st) ah Q = if x = y then WP E c 239 45 [a0, a1] st ah Q else WP E c 239 32 [a0, a1] st ah Q := wp_j i239_29 rfl rfl rfl rfl
theorem i239_32 : insAt 239 32 = some (.aload 0, 33) := by decide +kernel
theorem r239_32 {E : aEnv} {c : Nat} {ah : aHp} {st : List Value} {Q : Option Value → aHp → Prop} {a1 : Option Value} {x : Nat} : WP E c 239 32 [some (.ref x), a1] (st) ah Q = WP E c 239 33 [some (.ref x), a1] (.ref x :: st) ah Q := wp_s i239_32 rfl rfl rfl rfl
theorem i239_33 : insAt 239 33 = some (.aload 0, 34) := by decide +kernel
theorem r239_33 {E : aEnv} {c : Nat} {ah : aHp} {st : List Value} {Q : Option Value → aHp → Prop} {a1 : Option Value} {x : Nat} : WP E c 239 33 [some (.ref x), a1] (st) ah Q = WP E c 239 34 [some (.ref x), a1] (.ref x :: st) ah Q := wp_s i239_33 rfl rfl rfl rfl
theorem i239_34 : insAt 239 34 = some (.getfield 11360, 37) := by decide +kernel
theorem r239_34 {E : aEnv} {c : Nat} {ah : aHp} {st : List Value} {Q : Option Value → aHp → Prop} {a0 a1 : Option Value} {a : Nat} : WP E c 239 34 [a0, a1] (.ref a :: st) ah Q = WPo (oGF (hg E ah a) 11 36) (fun v => WP E c 239 37 [a0, a1] (v :: st) ah Q) := wp_getf i239_34
theorem i239_37 : insAt 239 37 = some (.invokevirtual 236, 40) := by decide +kernel
theorem r239_37 {E : aEnv} {c : Nat} {ah ah1 : aHp} {r : Option Value} {st : List Value} {Q : Option Value → aHp → Prop} {a0 a1 : Option Value} {p0 : Nat} {p1 : Int32} (h : EV E c 236 [.ref p0, .int p1] ah r ah1) (h2 : oCI (hg E ah p0) = 11) (h3 : wds st ≤ 8) : WP E (c + 1) 239 37 [a0, a1] (.int p1 :: .ref p0 :: st) ah Q = WP E (c + 1) 239 40 [a0, a1] (r.toList ++ st) ah1 Q := wp_call (As := [.ref p0, .int p1]) i239_37 (fun _ => rfl) rfl mr236.1 (rcv_1 h2 mr236.2.2 (by decide)) h3 (by rw [mr236.2.1]; exact Nat.le_of_ble_eq_true rfl) h
theorem i239_40 : insAt 239 40 = some (.iconst 32, 42) := by decide +kernel
theorem r239_40 {E : aEnv} {c : Nat} {ah : aHp} {st : List Value} {Q : Option Value → aHp → Prop} {a0 a1 : Option Value} : WP E c 239 40 [a0, a1] (st) ah Q = WP E c 239 42 [a0, a1] (.int (32) :: st) ah Q := wp_s i239_40 rfl rfl rfl rfl
theorem i239_42 : insAt 239 42 = some (.if_icmp .ne 58, 45) := by decide +kernel
theorem r239_42 {E : aEnv} {c : Nat} {ah : aHp} {st : List Value} {Q : Option Value → aHp → Prop} {a0 a1 : Option Value} {x y : Int32} : WP E c 239 42 [a0, a1] (.int y :: .int x :: st) ah Q = if ¬ x = y then WP E c 239 58 [a0, a1] st ah Q else WP E c 239 45 [a0, a1] st ah Q := wp_j i239_42 rfl rfl rfl rfl
theorem i239_45 : insAt 239 45 = some (.aload 0, 46) := by decide +kernel
theorem r239_45 {E : aEnv} {c : Nat} {ah : aHp} {st : List Value} {Q : Option Value → aHp → Prop} {a1 : Option Value} {x : Nat} : WP E c 239 45 [some (.ref x), a1] (st) ah Q = WP E c 239 46 [some (.ref x), a1] (.ref x :: st) ah Q := wp_s i239_45 rfl rfl rfl rfl
theorem i239_46 : insAt 239 46 = some (.dup, 47) := by decide +kernel
theorem r239_46 {E : aEnv} {c : Nat} {ah : aHp} {st : List Value} {Q : Option Value → aHp → Prop} {a0 a1 : Option Value} {x : Nat} : WP E c 239 46 [a0, a1] (.ref x :: st) ah Q = WP E c 239 47 [a0, a1] (.ref x :: .ref x :: st) ah Q := wp_s i239_46 rfl rfl rfl rfl
theorem r239_46i {E : aEnv} {c : Nat} {ah : aHp} {st : List Value} {Q : Option Value → aHp → Prop} {a0 a1 : Option Value} {x : Int32} : WP E c 239 46 [a0, a1] (.int x :: st) ah Q = WP E c 239 47 [a0, a1] (.int x :: .int x :: st) ah Q := wp_s i239_46 rfl rfl rfl rfl
theorem i239_47 : insAt 239 47 = some (.getfield 11360, 50) := by decide +kernel
theorem r239_47 {E : aEnv} {c : Nat} {ah : aHp} {st : List Value} {Q : Option Value → aHp → Prop} {a0 a1 : Option Value} {a : Nat} : WP E c 239 47 [a0, a1] (.ref a :: st) ah Q = WPo (oGF (hg E ah a) 11 36) (fun v => WP E c 239 50 [a0, a1] (v :: st) ah Q) := wp_getf i239_47
theorem i239_50 : insAt 239 50 = some (.iconst 1, 51) := by decide +kernel
theorem r239_50 {E : aEnv} {c : Nat} {ah : aHp} {st : List Value} {Q : Option Value → aHp → Prop} {a0 a1 : Option Value} : WP E c 239 50 [a0, a1] (st) ah Q = WP E c 239 51 [a0, a1] (.int (1) :: st) ah Q := wp_s i239_50 rfl rfl rfl rfl
theorem i239_51 : insAt 239 51 = some (.iadd, 52) := by decide +kernel
theorem r239_51 {E : aEnv} {c : Nat} {ah : aHp} {st : List Value} {Q : Option Value → aHp → Prop} {a0 a1 : Option Value} {x y : Int32} : WP E c 239 51 [a0, a1] (.int y :: .int x :: st) ah Q = WP E c 239 52 [a0, a1] (.int (x + y) :: st) ah Q := wp_s i239_51 rfl rfl rfl rfl
theorem i239_52 : insAt 239 52 = some (.putfield 11360, 55) := by decide +kernel
theorem r239_52 {E : aEnv} {c : Nat} {ah : aHp} {st : List Value} {Q : Option Value → aHp → Prop} {a0 a1 : Option Value} {a : Nat} {v : Value} : WP E c 239 52 [a0, a1] (v :: .ref a :: st) ah Q = WPo (oPF (hg E ah a) 11360 v) (fun e => WP E c 239 55 [a0, a1] st (hs E ah a e) Q) := wp_putf i239_52
theorem i239_55 : insAt 239 55 = some (.goto 8, 58) := by decide +kernel
theorem r239_55 {E : aEnv} {c : Nat} {ah : aHp} {st : List Value} {Q : Option Value → aHp → Prop} {a0 a1 : Option Value} : WP E c 239 55 [a0, a1] (st) ah Q = WP E c 239 8 [a0, a1] st ah Q := wp_s i239_55 rfl rfl rfl rfl
theorem i239_58 : insAt 239 58 = some (.aload 0, 59) := by decide +kernel
theorem r239_58 {E : aEnv} {c : Nat} {ah : aHp} {st : List Value} {Q : Option Value → aHp → Prop} {a1 : Option Value} {x : Nat} : WP E c 239 58 [some (.ref x), a1] (st) ah Q = WP E c 239 59 [some (.ref x), a1] (.ref x :: st) ah Q := wp_s i239_58 rfl rfl rfl rfl
theorem i239_59 : insAt 239 59 = some (.aload 0, 60) := by decide +kernel
theorem r239_59 {E : aEnv} {c : Nat} {ah : aHp} {st : List Value} {Q : Option Value → aHp → Prop} {a1 : Option Value} {x : Nat} : WP E c 239 59 [some (.ref x), a1] (st) ah Q = WP E c 239 60 [some (.ref x), a1] (.ref x :: st) ah Q := wp_s i239_59 rfl rfl rfl rfl
theorem i239_60 : insAt 239 60 = some (.getfield 11360, 63) := by decide +kernel
theorem r239_60 {E : aEnv} {c : Nat} {ah : aHp} {st : List Value} {Q : Option Value → aHp → Prop} {a0 a1 : Option Value} {a : Nat} : WP E c 239 60 [a0, a1] (.ref a :: st) ah Q = WPo (oGF (hg E ah a) 11 36) (fun v => WP E c 239 63 [a0, a1] (v :: st) ah Q) := wp_getf i239_60
theorem i239_63 : insAt 239 63 = some (.putfield 11370, 66) := by decide +kernel
theorem r239_63 {E : aEnv} {c : Nat} {ah : aHp} {st : List Value} {Q : Option Value → aHp → Prop} {a0 a1 : Option Value} {a : Nat} {v : Value} : WP E c 239 63 [a0, a1] (v :: .ref a :: st) ah Q = WPo (oPF (hg E ah a) 11370 v) (fun e => WP E c 239 66 [a0, a1] st (hs E ah a e) Q) := wp_putf i239_63
theorem i239_66 : insAt 239 66 = some (.aload 0, 67) := by decide +kernel
theorem r239_66 {E : aEnv} {c : Nat} {ah : aHp} {st : List Value} {Q : Option Value → aHp → Prop} {a1 : Option Value} {x : Nat} : WP E c 239 66 [some (.ref x), a1] (st) ah Q = WP E c 239 67 [some (.ref x), a1] (.ref x :: st) ah Q := wp_s i239_66 rfl rfl rfl rfl
theorem i239_67 : insAt 239 67 = some (.getfield 11360, 70) := by decide +kernel
theorem r239_67 {E : aEnv} {c : Nat} {ah : aHp} {st : List Value} {Q : Option Value → aHp → Prop} {a0 a1 : Option Value} {a : Nat} : WP E c 239 67 [a0, a1] (.ref a :: st) ah Q = WPo (oGF (hg E ah a) 11 36) (fun v => WP E c 239 70 [a0, a1] (v :: st) ah Q) := wp_getf i239_67
theorem i239_70 : insAt 239 70 = some (.aload 0, 71) := by decide +kernel
theorem r239_70 {E : aEnv} {c : Nat} {ah : aHp} {st : List Value} {Q : Option Value → aHp → Prop} {a1 : Option Value} {x : Nat} : WP E c 239 70 [some (.ref x), a1] (st) ah Q = WP E c 239 71 [some (.ref x), a1] (.ref x :: st) ah Q := wp_s i239_70 rfl rfl rfl rfl
theorem i239_71 : insAt 239 71 = some (.getfield 11300, 74) := by decide +kernel
theorem r239_71 {E : aEnv} {c : Nat} {ah : aHp} {st : List Value} {Q : Option Value → aHp → Prop} {a0 a1 : Option Value} {a : Nat} : WP E c 239 71 [a0, a1] (.ref a :: st) ah Q = WPo (oGF (hg E ah a) 11 30) (fun v => WP E c 239 74 [a0, a1] (v :: st) ah Q) := wp_getf i239_71
theorem i239_74 : insAt 239 74 = some (.if_icmp .lt 83, 77) := by decide +kernel
theorem r239_74 {E : aEnv} {c : Nat} {ah : aHp} {st : List Value} {Q : Option Value → aHp → Prop} {a0 a1 : Option Value} {x y : Int32} : WP E c 239 74 [a0, a1] (.int y :: .int x :: st) ah Q = if x < y then WP E c 239 83 [a0, a1] st ah Q else WP E c 239 77 [a0, a1] st ah Q := wp_j i239_74 rfl rfl rfl rfl
theorem i239_77 : insAt 239 77 = some (.aload 0, 78) := by decide +kernel
theorem r239_77 {E : aEnv} {c : Nat} {ah : aHp} {st : List Value} {Q : Option Value → aHp → Prop} {a1 : Option Value} {x : Nat} : WP E c 239 77 [some (.ref x), a1] (st) ah Q = WP E c 239 78 [some (.ref x), a1] (.ref x :: st) ah Q := wp_s i239_77 rfl rfl rfl rfl
theorem i239_78 : insAt 239 78 = some (.iconst 0, 79) := by decide +kernel
theorem r239_78 {E : aEnv} {c : Nat} {ah : aHp} {st : List Value} {Q : Option Value → aHp → Prop} {a0 a1 : Option Value} : WP E c 239 78 [a0, a1] (st) ah Q = WP E c 239 79 [a0, a1] (.int (0) :: st) ah Q := wp_s i239_78 rfl rfl rfl rfl
theorem i239_79 : insAt 239 79 = some (.putfield 11350, 82) := by decide +kernel
theorem r239_79 {E : aEnv} {c : Nat} {ah : aHp} {st : List Value} {Q : Option Value → aHp → Prop} {a0 a1 : Option Value} {a : Nat} {v : Value} : WP E c 239 79 [a0, a1] (v :: .ref a :: st) ah Q = WPo (oPF (hg E ah a) 11350 v) (fun e => WP E c 239 82 [a0, a1] st (hs E ah a e) Q) := wp_putf i239_79
theorem i239_82 : insAt 239 82 = some (.return_, 83) := by decide +kernel
theorem r239_82 {E : aEnv} {c : Nat} {ah : aHp} {Q : Option Value → aHp → Prop} {a0 a1 : Option Value} : WP E c 239 82 [a0, a1] ([]) ah Q = Q none ah := wp_rt i239_82 rfl
theorem i239_83 : insAt 239 83 = some (.aload 0, 84) := by decide +kernel
theorem r239_83 {E : aEnv} {c : Nat} {ah : aHp} {st : List Value} {Q : Option Value → aHp → Prop} {a1 : Option Value} {x : Nat} : WP E c 239 83 [some (.ref x), a1] (st) ah Q = WP E c 239 84 [some (.ref x), a1] (.ref x :: st) ah Q := wp_s i239_83 rfl rfl rfl rfl
theorem i239_84 : insAt 239 84 = some (.aload 0, 85) := by decide +kernel
theorem r239_84 {E : aEnv} {c : Nat} {ah : aHp} {st : List Value} {Q : Option Value → aHp → Prop} {a1 : Option Value} {x : Nat} : WP E c 239 84 [some (.ref x), a1] (st) ah Q = WP E c 239 85 [some (.ref x), a1] (.ref x :: st) ah Q := wp_s i239_84 rfl rfl rfl rfl
theorem i239_85 : insAt 239 85 = some (.getfield 11360, 88) := by decide +kernel
theorem r239_85 {E : aEnv} {c : Nat} {ah : aHp} {st : List Value} {Q : Option Value → aHp → Prop} {a0 a1 : Option Value} {a : Nat} : WP E c 239 85 [a0, a1] (.ref a :: st) ah Q = WPo (oGF (hg E ah a) 11 36) (fun v => WP E c 239 88 [a0, a1] (v :: st) ah Q) := wp_getf i239_85
theorem i239_88 : insAt 239 88 = some (.invokevirtual 236, 91) := by decide +kernel
theorem r239_88 {E : aEnv} {c : Nat} {ah ah1 : aHp} {r : Option Value} {st : List Value} {Q : Option Value → aHp → Prop} {a0 a1 : Option Value} {p0 : Nat} {p1 : Int32} (h : EV E c 236 [.ref p0, .int p1] ah r ah1) (h2 : oCI (hg E ah p0) = 11) (h3 : wds st ≤ 8) : WP E (c + 1) 239 88 [a0, a1] (.int p1 :: .ref p0 :: st) ah Q = WP E (c + 1) 239 91 [a0, a1] (r.toList ++ st) ah1 Q := wp_call (As := [.ref p0, .int p1]) i239_88 (fun _ => rfl) rfl mr236.1 (rcv_1 h2 mr236.2.2 (by decide)) h3 (by rw [mr236.2.1]; exact Nat.le_of_ble_eq_true rfl) h
theorem i239_91 : insAt 239 91 = some (.istore 1, 92) := by decide +kernel
theorem r239_91 {E : aEnv} {c : Nat} {ah : aHp} {st : List Value} {Q : Option Value → aHp → Prop} {a0 a1 : Option Value} {x : Int32} : WP E c 239 91 [a0, a1] (.int x :: st) ah Q = WP E c 239 92 [kil a0, some (.int x)] (st) ah Q := wp_s i239_91 rfl rfl rfl rfl
theorem i239_92 : insAt 239 92 = some (.iload 1, 93) := by decide +kernel
theorem r239_92 {E : aEnv} {c : Nat} {ah : aHp} {st : List Value} {Q : Option Value → aHp → Prop} {a0 : Option Value} {x : Int32} : WP E c 239 92 [a0, some (.int x)] (st) ah Q = WP E c 239 93 [a0, some (.int x)] (.int x :: st) ah Q := wp_s i239_92 rfl rfl rfl rfl
theorem i239_93 : insAt 239 93 = some (.invokestatic 237, 96) := by decide +kernel
theorem r239_93 {E : aEnv} {c : Nat} {ah ah1 : aHp} {r : Option Value} {st : List Value} {Q : Option Value → aHp → Prop} {a0 a1 : Option Value} {p0 : Int32} (h : EV E c 237 [.int p0] ah r ah1) (h3 : wds st ≤ 8) : WP E (c + 1) 239 93 [a0, a1] (.int p0 :: st) ah Q = WP E (c + 1) 239 96 [a0, a1] (r.toList ++ st) ah1 Q := wp_call (As := [.int p0]) i239_93 (fun _ => rfl) rfl mr237.1 rfl h3 (by rw [mr237.2.1]; exact Nat.le_of_ble_eq_true rfl) h
theorem i239_96 : insAt 239 96 = some (.ifCond .eq 198, 99) := by decide +kernel
theorem r239_96 {E : aEnv} {c : Nat} {ah : aHp} {st : List Value} {Q : Option Value → aHp → Prop} {a0 a1 : Option Value} {x : Int32} : WP E c 239 96 [a0, a1] (.int x :: st) ah Q = if x = 0 then WP E c 239 198 [a0, a1] st ah Q else WP E c 239 99 [a0, a1] st ah Q := wp_j i239_96 rfl rfl rfl rfl
theorem i239_99 : insAt 239 99 = some (.aload 0, 100) := by decide +kernel
theorem r239_99 {E : aEnv} {c : Nat} {ah : aHp} {st : List Value} {Q : Option Value → aHp → Prop} {a1 : Option Value} {x : Nat} : WP E c 239 99 [some (.ref x), a1] (st) ah Q = WP E c 239 100 [some (.ref x), a1] (.ref x :: st) ah Q := wp_s i239_99 rfl rfl rfl rfl
theorem i239_100 : insAt 239 100 = some (.iconst 1, 101) := by decide +kernel
theorem r239_100 {E : aEnv} {c : Nat} {ah : aHp} {st : List Value} {Q : Option Value → aHp → Prop} {a0 a1 : Option Value} : WP E c 239 100 [a0, a1] (st) ah Q = WP E c 239 101 [a0, a1] (.int (1) :: st) ah Q := wp_s i239_100 rfl rfl rfl rfl
theorem i239_101 : insAt 239 101 = some (.putfield 11350, 104) := by decide +kernel
theorem r239_101 {E : aEnv} {c : Nat} {ah : aHp} {st : List Value} {Q : Option Value → aHp → Prop} {a0 a1 : Option Value} {a : Nat} {v : Value} : WP E c 239 101 [a0, a1] (v :: .ref a :: st) ah Q = WPo (oPF (hg E ah a) 11350 v) (fun e => WP E c 239 104 [a0, a1] st (hs E ah a e) Q) := wp_putf i239_101
theorem i239_104 : insAt 239 104 = some (.aload 0, 105) := by decide +kernel
theorem r239_104 {E : aEnv} {c : Nat} {ah : aHp} {st : List Value} {Q : Option Value → aHp → Prop} {a1 : Option Value} {x : Nat} : WP E c 239 104 [some (.ref x), a1] (st) ah Q = WP E c 239 105 [some (.ref x), a1] (.ref x :: st) ah Q := wp_s i239_104 rfl rfl rfl rfl
theorem i239_105 : insAt 239 105 = some (.jsr_w 0, 106) := by decide +kernel
theorem r239_105 {E : aEnv} {c : Nat} {ah : aHp} {st : List Value} {Q : Option Value → aHp → Prop} {a0 a1 : Option Value} : WP E c 239 105 [a0, a1] (st) ah Q = WP E c 239 106 [a0, a1] (.long (0) :: st) ah Q := wp_s i239_105 rfl rfl rfl rfl
theorem i239_106 : insAt 239 106 = some (.putfield 11391, 109) := by decide +kernel
theorem r239_106 {E : aEnv} {c : Nat} {ah : aHp} {st : List Value} {Q : Option Value → aHp → Prop} {a0 a1 : Option Value} {a : Nat} {v : Value} : WP E c 239 106 [a0, a1] (v :: .ref a :: st) ah Q = WPo (oPF (hg E ah a) 11391 v) (fun e => WP E c 239 109 [a0, a1] st (hs E ah a e) Q) := wp_putf i239_106
theorem i239_109 : insAt 239 109 = some (.aload 0, 110) := by decide +kernel
theorem r239_109 {E : aEnv} {c : Nat} {ah : aHp} {st : List Value} {Q : Option Value → aHp → Prop} {a1 : Option Value} {x : Nat} : WP E c 239 109 [some (.ref x), a1] (st) ah Q = WP E c 239 110 [some (.ref x), a1] (.ref x :: st) ah Q := wp_s i239_109 rfl rfl rfl rfl
theorem i239_110 : insAt 239 110 = some (.aload 0, 111) := by decide +kernel
theorem r239_110 {E : aEnv} {c : Nat} {ah : aHp} {st : List Value} {Q : Option Value → aHp → Prop} {a1 : Option Value} {x : Nat} : WP E c 239 110 [some (.ref x), a1] (st) ah Q = WP E c 239 111 [some (.ref x), a1] (.ref x :: st) ah Q := wp_s i239_110 rfl rfl rfl rfl
theorem i239_111 : insAt 239 111 = some (.getfield 11370, 114) := by decide +kernel
theorem r239_111 {E : aEnv} {c : Nat} {ah : aHp} {st : List Value} {Q : Option Value → aHp → Prop} {a0 a1 : Option Value} {a : Nat} : WP E c 239 111 [a0, a1] (.ref a :: st) ah Q = WPo (oGF (hg E ah a) 11 37) (fun v => WP E c 239 114 [a0, a1] (v :: st) ah Q) := wp_getf i239_111
theorem i239_114 : insAt 239 114 = some (.invokevirtual 236, 117) := by decide +kernel
theorem r239_114 {E : aEnv} {c : Nat} {ah ah1 : aHp} {r : Option Value} {st : List Value} {Q : Option Value → aHp → Prop} {a0 a1 : Option Value} {p0 : Nat} {p1 : Int32} (h : EV E c 236 [.ref p0, .int p1] ah r ah1) (h2 : oCI (hg E ah p0) = 11) (h3 : wds st ≤ 8) : WP E (c + 1) 239 114 [a0, a1] (.int p1 :: .ref p0 :: st) ah Q = WP E (c + 1) 239 117 [a0, a1] (r.toList ++ st) ah1 Q := wp_call (As := [.ref p0, .int p1]) i239_114 (fun _ => rfl) rfl mr236.1 (rcv_1 h2 mr236.2.2 (by decide)) h3 (by rw [mr236.2.1]; exact Nat.le_of_ble_eq_true rfl) h
theorem i239_117 : insAt 239 117 = some (.invokestatic 237, 120) := by decide +kernel
theorem r239_117 {E : aEnv} {c : Nat} {ah ah1 : aHp} {r : Option Value} {st : List Value} {Q : Option Value → aHp → Prop} {a0 a1 : Option Value} {p0 : Int32} (h : EV E c 237 [.int p0] ah r ah1) (h3 : wds st ≤ 8) : WP E (c + 1) 239 117 [a0, a1] (.int p0 :: st) ah Q = WP E (c + 1) 239 120 [a0, a1] (r.toList ++ st) ah1 Q := wp_call (As := [.int p0]) i239_117 (fun _ => rfl) rfl mr237.1 rfl h3 (by rw [mr237.2.1]; exact Nat.le_of_ble_eq_true rfl) h
theorem i239_120 : insAt 239 120 = some (.ifCond .eq 182, 123) := by decide +kernel
theorem r239_120 {E : aEnv} {c : Nat} {ah : aHp} {st : List Value} {Q : Option Value → aHp → Prop} {a0 a1 : Option Value} {x : Int32} : WP E c 239 120 [a0, a1] (.int x :: st) ah Q = if x = 0 then WP E c 239 182 [a0, a1] st ah Q else WP E c 239 123 [a0, a1] st ah Q := wp_j i239_120 rfl rfl rfl rfl
theorem i239_123 : insAt 239 123 = some (.aload 0, 124) := by decide +kernel
theorem r239_123 {E : aEnv} {c : Nat} {ah : aHp} {st : List Value} {Q : Option Value → aHp → Prop} {a1 : Option Value} {x : Nat} : WP E c 239 123 [some (.ref x), a1] (st) ah Q = WP E c 239 124 [some (.ref x), a1] (.ref x :: st) ah Q := wp_s i239_123 rfl rfl rfl rfl
theorem i239_124 : insAt 239 124 = some (.aload 0, 125) := by decide +kernel
theorem r239_124 {E : aEnv} {c : Nat} {ah : aHp} {st : List Value} {Q : Option Value → aHp → Prop} {a1 : Option Value} {x : Nat} : WP E c 239 124 [some (.ref x), a1] (st) ah Q = WP E c 239 125 [some (.ref x), a1] (.ref x :: st) ah Q := wp_s i239_124 rfl rfl rfl rfl
theorem i239_125 : insAt 239 125 = some (.getfield 11370, 128) := by decide +kernel
theorem r239_125 {E : aEnv} {c : Nat} {ah : aHp} {st : List Value} {Q : Option Value → aHp → Prop} {a0 a1 : Option Value} {a : Nat} : WP E c 239 125 [a0, a1] (.ref a :: st) ah Q = WPo (oGF (hg E ah a) 11 37) (fun v => WP E c 239 128 [a0, a1] (v :: st) ah Q) := wp_getf i239_125
theorem i239_128 : insAt 239 128 = some (.aload 0, 129) := by decide +kernel
theorem r239_128 {E : aEnv} {c : Nat} {ah : aHp} {st : List Value} {Q : Option Value → aHp → Prop} {a1 : Option Value} {x : Nat} : WP E c 239 128 [some (.ref x), a1] (st) ah Q = WP E c 239 129 [some (.ref x), a1] (.ref x :: st) ah Q := wp_s i239_128 rfl rfl rfl rfl
theorem i239_129 : insAt 239 129 = some (.getfield 11360, 132) := by decide +kernel
theorem r239_129 {E : aEnv} {c : Nat} {ah : aHp} {st : List Value} {Q : Option Value → aHp → Prop} {a0 a1 : Option Value} {a : Nat} : WP E c 239 129 [a0, a1] (.ref a :: st) ah Q = WPo (oGF (hg E ah a) 11 36) (fun v => WP E c 239 132 [a0, a1] (v :: st) ah Q) := wp_getf i239_129
theorem i239_132 : insAt 239 132 = some (.isub, 133) := by decide +kernel
theorem r239_132 {E : aEnv} {c : Nat} {ah : aHp} {st : List Value} {Q : Option Value → aHp → Prop} {a0 a1 : Option Value} {x y : Int32} : WP E c 239 132 [a0, a1] (.int y :: .int x :: st) ah Q = WP E c 239 133 [a0, a1] (.int (x - y) :: st) ah Q := wp_s i239_132 rfl rfl rfl rfl
theorem i239_133 : insAt 239 133 = some (.iconst 12, 135) := by decide +kernel
theorem r239_133 {E : aEnv} {c : Nat} {ah : aHp} {st : List Value} {Q : Option Value → aHp → Prop} {a0 a1 : Option Value} : WP E c 239 133 [a0, a1] (st) ah Q = WP E c 239 135 [a0, a1] (.int (12) :: st) ah Q := wp_s i239_133 rfl rfl rfl rfl
theorem i239_135 : insAt 239 135 = some (.if_icmp .ge 163, 138) := by decide +kernel
theorem r239_135 {E : aEnv} {c : Nat} {ah : aHp} {st : List Value} {Q : Option Value → aHp → Prop} {a0 a1 : Option Value} {x y : Int32} : WP E c 239 135 [a0, a1] (.int y :: .int x :: st) ah Q = if y ≤ x then WP E c 239 163 [a0, a1] st ah Q else WP E c 239 138 [a0, a1] st ah Q := wp_j i239_135 rfl rfl rfl rfl
theorem i239_138 : insAt 239 138 = some (.aload 0, 139) := by decide +kernel
theorem r239_138 {E : aEnv} {c : Nat} {ah : aHp} {st : List Value} {Q : Option Value → aHp → Prop} {a1 : Option Value} {x : Nat} : WP E c 239 138 [some (.ref x), a1] (st) ah Q = WP E c 239 139 [some (.ref x), a1] (.ref x :: st) ah Q := wp_s i239_138 rfl rfl rfl rfl
theorem i239_139 : insAt 239 139 = some (.getfield 11391, 142) := by decide +kernel
theorem r239_139 {E : aEnv} {c : Nat} {ah : aHp} {st : List Value} {Q : Option Value → aHp → Prop} {a0 a1 : Option Value} {a : Nat} : WP E c 239 139 [a0, a1] (.ref a :: st) ah Q = WPo (oGF (hg E ah a) 11 39) (fun v => WP E c 239 142 [a0, a1] (v :: st) ah Q) := wp_getf i239_139
theorem i239_142 : insAt 239 142 = some (.jsr_w 32, 145) := by decide +kernel
theorem r239_142 {E : aEnv} {c : Nat} {ah : aHp} {st : List Value} {Q : Option Value → aHp → Prop} {a0 a1 : Option Value} : WP E c 239 142 [a0, a1] (st) ah Q = WP E c 239 145 [a0, a1] (.long (32) :: st) ah Q := wp_s i239_142 rfl rfl rfl rfl
theorem i239_145 : insAt 239 145 = some (.lmul, 146) := by decide +kernel
theorem r239_145 {E : aEnv} {c : Nat} {ah : aHp} {st : List Value} {Q : Option Value → aHp → Prop} {a0 a1 : Option Value} {x y : Int64} : WP E c 239 145 [a0, a1] (.long y :: .long x :: st) ah Q = WP E c 239 146 [a0, a1] (.long (x * y) :: st) ah Q := wp_s i239_145 rfl rfl rfl rfl
theorem i239_146 : insAt 239 146 = some (.aload 0, 147) := by decide +kernel
theorem r239_146 {E : aEnv} {c : Nat} {ah : aHp} {st : List Value} {Q : Option Value → aHp → Prop} {a1 : Option Value} {x : Nat} : WP E c 239 146 [some (.ref x), a1] (st) ah Q = WP E c 239 147 [some (.ref x), a1] (.ref x :: st) ah Q := wp_s i239_146 rfl rfl rfl rfl
theorem i239_147 : insAt 239 147 = some (.aload 0, 148) := by decide +kernel
theorem r239_147 {E : aEnv} {c : Nat} {ah : aHp} {st : List Value} {Q : Option Value → aHp → Prop} {a1 : Option Value} {x : Nat} : WP E c 239 147 [some (.ref x), a1] (st) ah Q = WP E c 239 148 [some (.ref x), a1] (.ref x :: st) ah Q := wp_s i239_147 rfl rfl rfl rfl
theorem i239_148 : insAt 239 148 = some (.getfield 11370, 151) := by decide +kernel
theorem r239_148 {E : aEnv} {c : Nat} {ah : aHp} {st : List Value} {Q : Option Value → aHp → Prop} {a0 a1 : Option Value} {a : Nat} : WP E c 239 148 [a0, a1] (.ref a :: st) ah Q = WPo (oGF (hg E ah a) 11 37) (fun v => WP E c 239 151 [a0, a1] (v :: st) ah Q) := wp_getf i239_148
theorem i239_151 : insAt 239 151 = some (.invokevirtual 236, 154) := by decide +kernel
theorem r239_151 {E : aEnv} {c : Nat} {ah ah1 : aHp} {r : Option Value} {st : List Value} {Q : Option Value → aHp → Prop} {a0 a1 : Option Value} {p0 : Nat} {p1 : Int32} (h : EV E c 236 [.ref p0, .int p1] ah r ah1) (h2 : oCI (hg E ah p0) = 11) (h3 : wds st ≤ 8) : WP E (c + 1) 239 151 [a0, a1] (.int p1 :: .ref p0 :: st) ah Q = WP E (c + 1) 239 154 [a0, a1] (r.toList ++ st) ah1 Q := wp_call (As := [.ref p0, .int p1]) i239_151 (fun _ => rfl) rfl mr236.1 (rcv_1 h2 mr236.2.2 (by decide)) h3 (by rw [mr236.2.1]; exact Nat.le_of_ble_eq_true rfl) h
theorem i239_154 : insAt 239 154 = some (.i2l, 155) := by decide +kernel
theorem r239_154 {E : aEnv} {c : Nat} {ah : aHp} {st : List Value} {Q : Option Value → aHp → Prop} {a0 a1 : Option Value} {x : Int32} : WP E c 239 154 [a0, a1] (.int x :: st) ah Q = WP E c 239 155 [a0, a1] (.long x.toInt64 :: st) ah Q := wp_s i239_154 rfl rfl rfl rfl
theorem i239_155 : insAt 239 155 = some (.ladd, 156) := by decide +kernel
theorem r239_155 {E : aEnv} {c : Nat} {ah : aHp} {st : List Value} {Q : Option Value → aHp → Prop} {a0 a1 : Option Value} {x y : Int64} : WP E c 239 155 [a0, a1] (.long y :: .long x :: st) ah Q = WP E c 239 156 [a0, a1] (.long (x + y) :: st) ah Q := wp_s i239_155 rfl rfl rfl rfl
theorem i239_156 : insAt 239 156 = some (.jsr_w 96, 159) := by decide +kernel
theorem r239_156 {E : aEnv} {c : Nat} {ah : aHp} {st : List Value} {Q : Option Value → aHp → Prop} {a0 a1 : Option Value} : WP E c 239 156 [a0, a1] (st) ah Q = WP E c 239 159 [a0, a1] (.long (96) :: st) ah Q := wp_s i239_156 rfl rfl rfl rfl
theorem i239_159 : insAt 239 159 = some (.lsub, 160) := by decide +kernel
theorem r239_159 {E : aEnv} {c : Nat} {ah : aHp} {st : List Value} {Q : Option Value → aHp → Prop} {a0 a1 : Option Value} {x y : Int64} : WP E c 239 159 [a0, a1] (.long y :: .long x :: st) ah Q = WP E c 239 160 [a0, a1] (.long (x - y) :: st) ah Q := wp_s i239_159 rfl rfl rfl rfl
theorem i239_160 : insAt 239 160 = some (.goto 166, 163) := by decide +kernel
theorem r239_160 {E : aEnv} {c : Nat} {ah : aHp} {st : List Value} {Q : Option Value → aHp → Prop} {a0 a1 : Option Value} : WP E c 239 160 [a0, a1] (st) ah Q = WP E c 239 166 [a0, a1] st ah Q := wp_s i239_160 rfl rfl rfl rfl
theorem i239_163 : insAt 239 163 = some (.jsr_w (-1), 166) := by decide +kernel
theorem r239_163 {E : aEnv} {c : Nat} {ah : aHp} {st : List Value} {Q : Option Value → aHp → Prop} {a0 a1 : Option Value} : WP E c 239 163 [a0, a1] (st) ah Q = WP E c 239 166 [a0, a1] (.long ((-1)) :: st) ah Q := wp_s i239_163 rfl rfl rfl rfl
theorem i239_166 : insAt 239 166 = some (.putfield 11391, 169) := by decide +kernel
theorem r239_166 {E : aEnv} {c : Nat} {ah : aHp} {st : List Value} {Q : Option Value → aHp → Prop} {a0 a1 : Option Value} {a : Nat} {v : Value} : WP E c 239 166 [a0, a1] (v :: .ref a :: st) ah Q = WPo (oPF (hg E ah a) 11391 v) (fun e => WP E c 239 169 [a0, a1] st (hs E ah a e) Q) := wp_putf i239_166
theorem i239_169 : insAt 239 169 = some (.aload 0, 170) := by decide +kernel
theorem r239_169 {E : aEnv} {c : Nat} {ah : aHp} {st : List Value} {Q : Option Value → aHp → Prop} {a1 : Option Value} {x : Nat} : WP E c 239 169 [some (.ref x), a1] (st) ah Q = WP E c 239 170 [some (.ref x), a1] (.ref x :: st) ah Q := wp_s i239_169 rfl rfl rfl rfl
theorem i239_170 : insAt 239 170 = some (.dup, 171) := by decide +kernel
theorem r239_170 {E : aEnv} {c : Nat} {ah : aHp} {st : List Value} {Q : Option Value → aHp → Prop} {a0 a1 : Option Value} {x : Nat} : WP E c 239 170 [a0, a1] (.ref x :: st) ah Q = WP E c 239 171 [a0, a1] (.ref x :: .ref x :: st) ah Q := wp_s i239_170 rfl rfl rfl rfl
theorem r239_170i {E : aEnv} {c : Nat} {ah : aHp} {st : List Value} {Q : Option Value → aHp → Prop} {a0 a1 : Option Value} {x : Int32} : WP E c 239 170 [a0, a1] (.int x :: st) ah Q = WP E c 239 171 [a0, a1] (.int x :: .int x :: st) ah Q := wp_s i239_170 rfl rfl rfl rfl
theorem i239_171 : insAt 239 171 = some (.getfield 11370, 174) := by decide +kernel
theorem r239_171 {E : aEnv} {c : Nat} {ah : aHp} {st : List Value} {Q : Option Value → aHp → Prop} {a0 a1 : Option Value} {a : Nat} : WP E c 239 171 [a0, a1] (.ref a :: st) ah Q = WPo (oGF (hg E ah a) 11 37) (fun v => WP E c 239 174 [a0, a1] (v :: st) ah Q) := wp_getf i239_171
theorem i239_174 : insAt 239 174 = some (.iconst 1, 175) := by decide +kernel
theorem r239_174 {E : aEnv} {c : Nat} {ah : aHp} {st : List Value} {Q : Option Value → aHp → Prop} {a0 a1 : Option Value} : WP E c 239 174 [a0, a1] (st) ah Q = WP E c 239 175 [a0, a1] (.int (1) :: st) ah Q := wp_s i239_174 rfl rfl rfl rfl
theorem i239_175 : insAt 239 175 = some (.iadd, 176) := by decide +kernel
theorem r239_175 {E : aEnv} {c : Nat} {ah : aHp} {st : List Value} {Q : Option Value → aHp → Prop} {a0 a1 : Option Value} {x y : Int32} : WP E c 239 175 [a0, a1] (.int y :: .int x :: st) ah Q = WP E c 239 176 [a0, a1] (.int (x + y) :: st) ah Q := wp_s i239_175 rfl rfl rfl rfl
theorem i239_176 : insAt 239 176 = some (.putfield 11370, 179) := by decide +kernel
theorem r239_176 {E : aEnv} {c : Nat} {ah : aHp} {st : List Value} {Q : Option Value → aHp → Prop} {a0 a1 : Option Value} {a : Nat} {v : Value} : WP E c 239 176 [a0, a1] (v :: .ref a :: st) ah Q = WPo (oPF (hg E ah a) 11370 v) (fun e => WP E c 239 179 [a0, a1] st (hs E ah a e) Q) := wp_putf i239_176
theorem i239_179 : insAt 239 179 = some (.goto 109, 182) := by decide +kernel
theorem r239_179 {E : aEnv} {c : Nat} {ah : aHp} {st : List Value} {Q : Option Value → aHp → Prop} {a0 a1 : Option Value} : WP E c 239 179 [a0, a1] (st) ah Q = WP E c 239 109 [a0, a1] st ah Q := wp_s i239_179 rfl rfl rfl rfl
theorem i239_182 : insAt 239 182 = some (.aload 0, 183) := by decide +kernel
theorem r239_182 {E : aEnv} {c : Nat} {ah : aHp} {st : List Value} {Q : Option Value → aHp → Prop} {a1 : Option Value} {x : Nat} : WP E c 239 182 [some (.ref x), a1] (st) ah Q = WP E c 239 183 [some (.ref x), a1] (.ref x :: st) ah Q := wp_s i239_182 rfl rfl rfl rfl
theorem i239_183 : insAt 239 183 = some (.aload 0, 184) := by decide +kernel
theorem r239_183 {E : aEnv} {c : Nat} {ah : aHp} {st : List Value} {Q : Option Value → aHp → Prop} {a1 : Option Value} {x : Nat} : WP E c 239 183 [some (.ref x), a1] (st) ah Q = WP E c 239 184 [some (.ref x), a1] (.ref x :: st) ah Q := wp_s i239_183 rfl rfl rfl rfl
theorem i239_184 : insAt 239 184 = some (.getfield 11370, 187) := by decide +kernel
theorem r239_184 {E : aEnv} {c : Nat} {ah : aHp} {st : List Value} {Q : Option Value → aHp → Prop} {a0 a1 : Option Value} {a : Nat} : WP E c 239 184 [a0, a1] (.ref a :: st) ah Q = WPo (oGF (hg E ah a) 11 37) (fun v => WP E c 239 187 [a0, a1] (v :: st) ah Q) := wp_getf i239_184
theorem i239_187 : insAt 239 187 = some (.aload 0, 188) := by decide +kernel
theorem r239_187 {E : aEnv} {c : Nat} {ah : aHp} {st : List Value} {Q : Option Value → aHp → Prop} {a1 : Option Value} {x : Nat} : WP E c 239 187 [some (.ref x), a1] (st) ah Q = WP E c 239 188 [some (.ref x), a1] (.ref x :: st) ah Q := wp_s i239_187 rfl rfl rfl rfl
theorem i239_188 : insAt 239 188 = some (.getfield 11360, 191) := by decide +kernel
theorem r239_188 {E : aEnv} {c : Nat} {ah : aHp} {st : List Value} {Q : Option Value → aHp → Prop} {a0 a1 : Option Value} {a : Nat} : WP E c 239 188 [a0, a1] (.ref a :: st) ah Q = WPo (oGF (hg E ah a) 11 36) (fun v => WP E c 239 191 [a0, a1] (v :: st) ah Q) := wp_getf i239_188
theorem i239_191 : insAt 239 191 = some (.isub, 192) := by decide +kernel
theorem r239_191 {E : aEnv} {c : Nat} {ah : aHp} {st : List Value} {Q : Option Value → aHp → Prop} {a0 a1 : Option Value} {x y : Int32} : WP E c 239 191 [a0, a1] (.int y :: .int x :: st) ah Q = WP E c 239 192 [a0, a1] (.int (x - y) :: st) ah Q := wp_s i239_191 rfl rfl rfl rfl
theorem i239_192 : insAt 239 192 = some (.putfield 11380, 195) := by decide +kernel
theorem r239_192 {E : aEnv} {c : Nat} {ah : aHp} {st : List Value} {Q : Option Value → aHp → Prop} {a0 a1 : Option Value} {a : Nat} {v : Value} : WP E c 239 192 [a0, a1] (v :: .ref a :: st) ah Q = WPo (oPF (hg E ah a) 11380 v) (fun e => WP E c 239 195 [a0, a1] st (hs E ah a e) Q) := wp_putf i239_192
theorem i239_195 : insAt 239 195 = some (.goto 340, 198) := by decide +kernel
theorem r239_195 {E : aEnv} {c : Nat} {ah : aHp} {st : List Value} {Q : Option Value → aHp → Prop} {a0 a1 : Option Value} : WP E c 239 195 [a0, a1] (st) ah Q = WP E c 239 340 [a0, a1] st ah Q := wp_s i239_195 rfl rfl rfl rfl
theorem i239_198 : insAt 239 198 = some (.iload 1, 199) := by decide +kernel
theorem r239_198 {E : aEnv} {c : Nat} {ah : aHp} {st : List Value} {Q : Option Value → aHp → Prop} {a0 : Option Value} {x : Int32} : WP E c 239 198 [a0, some (.int x)] (st) ah Q = WP E c 239 199 [a0, some (.int x)] (.int x :: st) ah Q := wp_s i239_198 rfl rfl rfl rfl
theorem i239_199 : insAt 239 199 = some (.invokestatic 238, 202) := by decide +kernel
theorem r239_199 {E : aEnv} {c : Nat} {ah ah1 : aHp} {r : Option Value} {st : List Value} {Q : Option Value → aHp → Prop} {a0 a1 : Option Value} {p0 : Int32} (h : EV E c 238 [.int p0] ah r ah1) (h3 : wds st ≤ 8) : WP E (c + 1) 239 199 [a0, a1] (.int p0 :: st) ah Q = WP E (c + 1) 239 202 [a0, a1] (r.toList ++ st) ah1 Q := wp_call (As := [.int p0]) i239_199 (fun _ => rfl) rfl mr238.1 rfl h3 (by rw [mr238.2.1]; exact Nat.le_of_ble_eq_true rfl) h
theorem i239_202 : insAt 239 202 = some (.ifCond .eq 303, 205) := by decide +kernel
theorem r239_202 {E : aEnv} {c : Nat} {ah : aHp} {st : List Value} {Q : Option Value → aHp → Prop} {a0 a1 : Option Value} {x : Int32} : WP E c 239 202 [a0, a1] (.int x :: st) ah Q = if x = 0 then WP E c 239 303 [a0, a1] st ah Q else WP E c 239 205 [a0, a1] st ah Q := wp_j i239_202 rfl rfl rfl rfl
theorem i239_205 : insAt 239 205 = some (.aload 0, 206) := by decide +kernel
theorem r239_205 {E : aEnv} {c : Nat} {ah : aHp} {st : List Value} {Q : Option Value → aHp → Prop} {a1 : Option Value} {x : Nat} : WP E c 239 205 [some (.ref x), a1] (st) ah Q = WP E c 239 206 [some (.ref x), a1] (.ref x :: st) ah Q := wp_s i239_205 rfl rfl rfl rfl
theorem i239_206 : insAt 239 206 = some (.jsr_w 0, 207) := by decide +kernel
theorem r239_206 {E : aEnv} {c : Nat} {ah : aHp} {st : List Value} {Q : Option Value → aHp → Prop} {a0 a1 : Option Value} : WP E c 239 206 [a0, a1] (st) ah Q = WP E c 239 207 [a0, a1] (.long (0) :: st) ah Q := wp_s i239_206 rfl rfl rfl rfl
theorem i239_207 : insAt 239 207 = some (.putfield 11401, 210) := by decide +kernel
theorem r239_207 {E : aEnv} {c : Nat} {ah : aHp} {st : List Value} {Q : Option Value → aHp → Prop} {a0 a1 : Option Value} {a : Nat} {v : Value} : WP E c 239 207 [a0, a1] (v :: .ref a :: st) ah Q = WPo (oPF (hg E ah a) 11401 v) (fun e => WP E c 239 210 [a0, a1] st (hs E ah a e) Q) := wp_putf i239_207
theorem i239_210 : insAt 239 210 = some (.aload 0, 211) := by decide +kernel
theorem r239_210 {E : aEnv} {c : Nat} {ah : aHp} {st : List Value} {Q : Option Value → aHp → Prop} {a1 : Option Value} {x : Nat} : WP E c 239 210 [some (.ref x), a1] (st) ah Q = WP E c 239 211 [some (.ref x), a1] (.ref x :: st) ah Q := wp_s i239_210 rfl rfl rfl rfl
theorem i239_211 : insAt 239 211 = some (.aload 0, 212) := by decide +kernel
theorem r239_211 {E : aEnv} {c : Nat} {ah : aHp} {st : List Value} {Q : Option Value → aHp → Prop} {a1 : Option Value} {x : Nat} : WP E c 239 211 [some (.ref x), a1] (st) ah Q = WP E c 239 212 [some (.ref x), a1] (.ref x :: st) ah Q := wp_s i239_211 rfl rfl rfl rfl
theorem i239_212 : insAt 239 212 = some (.getfield 11370, 215) := by decide +kernel
theorem r239_212 {E : aEnv} {c : Nat} {ah : aHp} {st : List Value} {Q : Option Value → aHp → Prop} {a0 a1 : Option Value} {a : Nat} : WP E c 239 212 [a0, a1] (.ref a :: st) ah Q = WPo (oGF (hg E ah a) 11 37) (fun v => WP E c 239 215 [a0, a1] (v :: st) ah Q) := wp_getf i239_212
theorem i239_215 : insAt 239 215 = some (.invokevirtual 236, 218) := by decide +kernel
theorem r239_215 {E : aEnv} {c : Nat} {ah ah1 : aHp} {r : Option Value} {st : List Value} {Q : Option Value → aHp → Prop} {a0 a1 : Option Value} {p0 : Nat} {p1 : Int32} (h : EV E c 236 [.ref p0, .int p1] ah r ah1) (h2 : oCI (hg E ah p0) = 11) (h3 : wds st ≤ 8) : WP E (c + 1) 239 215 [a0, a1] (.int p1 :: .ref p0 :: st) ah Q = WP E (c + 1) 239 218 [a0, a1] (r.toList ++ st) ah1 Q := wp_call (As := [.ref p0, .int p1]) i239_215 (fun _ => rfl) rfl mr236.1 (rcv_1 h2 mr236.2.2 (by decide)) h3 (by rw [mr236.2.1]; exact Nat.le_of_ble_eq_true rfl) h
theorem i239_218 : insAt 239 218 = some (.invokestatic 238, 221) := by decide +kernel
theorem r239_218 {E : aEnv} {c : Nat} {ah ah1 : aHp} {r : Option Value} {st : List Value} {Q : Option Value → aHp → Prop} {a0 a1 : Option Value} {p0 : Int32} (h : EV E c 238 [.int p0] ah r ah1) (h3 : wds st ≤ 8) : WP E (c + 1) 239 218 [a0, a1] (.int p0 :: st) ah Q = WP E (c + 1) 239 221 [a0, a1] (r.toList ++ st) ah1 Q := wp_call (As := [.int p0]) i239_218 (fun _ => rfl) rfl mr238.1 rfl h3 (by rw [mr238.2.1]; exact Nat.le_of_ble_eq_true rfl) h
theorem i239_221 : insAt 239 221 = some (.ifCond .eq 277, 224) := by decide +kernel
theorem r239_221 {E : aEnv} {c : Nat} {ah : aHp} {st : List Value} {Q : Option Value → aHp → Prop} {a0 a1 : Option Value} {x : Int32} : WP E c 239 221 [a0, a1] (.int x :: st) ah Q = if x = 0 then WP E c 239 277 [a0, a1] st ah Q else WP E c 239 224 [a0, a1] st ah Q := wp_j i239_221 rfl rfl rfl rfl
theorem i239_224 : insAt 239 224 = some (.aload 0, 225) := by decide +kernel
theorem r239_224 {E : aEnv} {c : Nat} {ah : aHp} {st : List Value} {Q : Option Value → aHp → Prop} {a1 : Option Value} {x : Nat} : WP E c 239 224 [some (.ref x), a1] (st) ah Q = WP E c 239 225 [some (.ref x), a1] (.ref x :: st) ah Q := wp_s i239_224 rfl rfl rfl rfl
theorem i239_225 : insAt 239 225 = some (.getfield 11370, 228) := by decide +kernel
theorem r239_225 {E : aEnv} {c : Nat} {ah : aHp} {st : List Value} {Q : Option Value → aHp → Prop} {a0 a1 : Option Value} {a : Nat} : WP E c 239 225 [a0, a1] (.ref a :: st) ah Q = WPo (oGF (hg E ah a) 11 37) (fun v => WP E c 239 228 [a0, a1] (v :: st) ah Q) := wp_getf i239_225
theorem i239_228 : insAt 239 228 = some (.aload 0, 229) := by decide +kernel
theorem r239_228 {E : aEnv} {c : Nat} {ah : aHp} {st : List Value} {Q : Option Value → aHp → Prop} {a1 : Option Value} {x : Nat} : WP E c 239 228 [some (.ref x), a1] (st) ah Q = WP E c 239 229 [some (.ref x), a1] (.ref x :: st) ah Q := wp_s i239_228 rfl rfl rfl rfl
theorem i239_229 : insAt 239 229 = some (.getfield 11360, 232) := by decide +kernel
theorem r239_229 {E : aEnv} {c : Nat} {ah : aHp} {st : List Value} {Q : Option Value → aHp → Prop} {a0 a1 : Option Value} {a : Nat} : WP E c 239 229 [a0, a1] (.ref a :: st) ah Q = WPo (oGF (hg E ah a) 11 36) (fun v => WP E c 239 232 [a0, a1] (v :: st) ah Q) := wp_getf i239_229
theorem i239_232 : insAt 239 232 = some (.isub, 233) := by decide +kernel
theorem r239_232 {E : aEnv} {c : Nat} {ah : aHp} {st : List Value} {Q : Option Value → aHp → Prop} {a0 a1 : Option Value} {x y : Int32} : WP E c 239 232 [a0, a1] (.int y :: .int x :: st) ah Q = WP E c 239 233 [a0, a1] (.int (x - y) :: st) ah Q := wp_s i239_232 rfl rfl rfl rfl
theorem i239_233 : insAt 239 233 = some (.iconst 12, 235) := by decide +kernel
theorem r239_233 {E : aEnv} {c : Nat} {ah : aHp} {st : List Value} {Q : Option Value → aHp → Prop} {a0 a1 : Option Value} : WP E c 239 233 [a0, a1] (st) ah Q = WP E c 239 235 [a0, a1] (.int (12) :: st) ah Q := wp_s i239_233 rfl rfl rfl rfl
theorem i239_235 : insAt 239 235 = some (.if_icmp .ge 264, 238) := by decide +kernel
theorem r239_235 {E : aEnv} {c : Nat} {ah : aHp} {st : List Value} {Q : Option Value → aHp → Prop} {a0 a1 : Option Value} {x y : Int32} : WP E c 239 235 [a0, a1] (.int y :: .int x :: st) ah Q = if y ≤ x then WP E c 239 264 [a0, a1] st ah Q else WP E c 239 238 [a0, a1] st ah Q := wp_j i239_235 rfl rfl rfl rfl
theorem i239_238 : insAt 239 238 = some (.aload 0, 239) := by decide +kernel
theorem r239_238 {E : aEnv} {c : Nat} {ah : aHp} {st : List Value} {Q : Option Value → aHp → Prop} {a1 : Option Value} {x : Nat} : WP E c 239 238 [some (.ref x), a1] (st) ah Q = WP E c 239 239 [some (.ref x), a1] (.ref x :: st) ah Q := wp_s i239_238 rfl rfl rfl rfl
theorem i239_239 : insAt 239 239 = some (.jsr_w 10, 242) := by decide +kernel
theorem r239_239 {E : aEnv} {c : Nat} {ah : aHp} {st : List Value} {Q : Option Value → aHp → Prop} {a0 a1 : Option Value} : WP E c 239 239 [a0, a1] (st) ah Q = WP E c 239 242 [a0, a1] (.long (10) :: st) ah Q := wp_s i239_239 rfl rfl rfl rfl
theorem i239_242 : insAt 239 242 = some (.aload 0, 243) := by decide +kernel
theorem r239_242 {E : aEnv} {c : Nat} {ah : aHp} {st : List Value} {Q : Option Value → aHp → Prop} {a1 : Option Value} {x : Nat} : WP E c 239 242 [some (.ref x), a1] (st) ah Q = WP E c 239 243 [some (.ref x), a1] (.ref x :: st) ah Q := wp_s i239_242 rfl rfl rfl rfl
theorem i239_243 : insAt 239 243 = some (.getfield 11401, 246) := by decide +kernel
theorem r239_243 {E : aEnv} {c : Nat} {ah : aHp} {st : List Value} {Q : Option Value → aHp → Prop} {a0 a1 : Option Value} {a : Nat} : WP E c 239 243 [a0, a1] (.ref a :: st) ah Q = WPo (oGF (hg E ah a) 11 40) (fun v => WP E c 239 246 [a0, a1] (v :: st) ah Q) := wp_getf i239_243
theorem i239_246 : insAt 239 246 = some (.lmul, 247) := by decide +kernel
theorem r239_246 {E : aEnv} {c : Nat} {ah : aHp} {st : List Value} {Q : Option Value → aHp → Prop} {a0 a1 : Option Value} {x y : Int64} : WP E c 239 246 [a0, a1] (.long y :: .long x :: st) ah Q = WP E c 239 247 [a0, a1] (.long (x * y) :: st) ah Q := wp_s i239_246 rfl rfl rfl rfl
theorem i239_247 : insAt 239 247 = some (.aload 0, 248) := by decide +kernel
theorem r239_247 {E : aEnv} {c : Nat} {ah : aHp} {st : List Value} {Q : Option Value → aHp → Prop} {a1 : Option Value} {x : Nat} : WP E c 239 247 [some (.ref x), a1] (st) ah Q = WP E c 239 248 [some (.ref x), a1] (.ref x :: st) ah Q := wp_s i239_247 rfl rfl rfl rfl
theorem i239_248 : insAt 239 248 = some (.aload 0, 249) := by decide +kernel
theorem r239_248 {E : aEnv} {c : Nat} {ah : aHp} {st : List Value} {Q : Option Value → aHp → Prop} {a1 : Option Value} {x : Nat} : WP E c 239 248 [some (.ref x), a1] (st) ah Q = WP E c 239 249 [some (.ref x), a1] (.ref x :: st) ah Q := wp_s i239_248 rfl rfl rfl rfl
theorem i239_249 : insAt 239 249 = some (.getfield 11370, 252) := by decide +kernel
theorem r239_249 {E : aEnv} {c : Nat} {ah : aHp} {st : List Value} {Q : Option Value → aHp → Prop} {a0 a1 : Option Value} {a : Nat} : WP E c 239 249 [a0, a1] (.ref a :: st) ah Q = WPo (oGF (hg E ah a) 11 37) (fun v => WP E c 239 252 [a0, a1] (v :: st) ah Q) := wp_getf i239_249
theorem i239_252 : insAt 239 252 = some (.invokevirtual 236, 255) := by decide +kernel
theorem r239_252 {E : aEnv} {c : Nat} {ah ah1 : aHp} {r : Option Value} {st : List Value} {Q : Option Value → aHp → Prop} {a0 a1 : Option Value} {p0 : Nat} {p1 : Int32} (h : EV E c 236 [.ref p0, .int p1] ah r ah1) (h2 : oCI (hg E ah p0) = 11) (h3 : wds st ≤ 8) : WP E (c + 1) 239 252 [a0, a1] (.int p1 :: .ref p0 :: st) ah Q = WP E (c + 1) 239 255 [a0, a1] (r.toList ++ st) ah1 Q := wp_call (As := [.ref p0, .int p1]) i239_252 (fun _ => rfl) rfl mr236.1 (rcv_1 h2 mr236.2.2 (by decide)) h3 (by rw [mr236.2.1]; exact Nat.le_of_ble_eq_true rfl) h
theorem i239_255 : insAt 239 255 = some (.i2l, 256) := by decide +kernel
theorem r239_255 {E : aEnv} {c : Nat} {ah : aHp} {st : List Value} {Q : Option Value → aHp → Prop} {a0 a1 : Option Value} {x : Int32} : WP E c 239 255 [a0, a1] (.int x :: st) ah Q = WP E c 239 256 [a0, a1] (.long x.toInt64 :: st) ah Q := wp_s i239_255 rfl rfl rfl rfl
theorem i239_256 : insAt 239 256 = some (.ladd, 257) := by decide +kernel
theorem r239_256 {E : aEnv} {c : Nat} {ah : aHp} {st : List Value} {Q : Option Value → aHp → Prop} {a0 a1 : Option Value} {x y : Int64} : WP E c 239 256 [a0, a1] (.long y :: .long x :: st) ah Q = WP E c 239 257 [a0, a1] (.long (x + y) :: st) ah Q := wp_s i239_256 rfl rfl rfl rfl
theorem i239_257 : insAt 239 257 = some (.jsr_w 48, 260) := by decide +kernel
theorem r239_257 {E : aEnv} {c : Nat} {ah : aHp} {st : List Value} {Q : Option Value → aHp → Prop} {a0 a1 : Option Value} : WP E c 239 257 [a0, a1] (st) ah Q = WP E c 239 260 [a0, a1] (.long (48) :: st) ah Q := wp_s i239_257 rfl rfl rfl rfl
theorem i239_260 : insAt 239 260 = some (.lsub, 261) := by decide +kernel
theorem r239_260 {E : aEnv} {c : Nat} {ah : aHp} {st : List Value} {Q : Option Value → aHp → Prop} {a0 a1 : Option Value} {x y : Int64} : WP E c 239 260 [a0, a1] (.long y :: .long x :: st) ah Q = WP E c 239 261 [a0, a1] (.long (x - y) :: st) ah Q := wp_s i239_260 rfl rfl rfl rfl
theorem i239_261 : insAt 239 261 = some (.putfield 11401, 264) := by decide +kernel
theorem r239_261 {E : aEnv} {c : Nat} {ah : aHp} {st : List Value} {Q : Option Value → aHp → Prop} {a0 a1 : Option Value} {a : Nat} {v : Value} : WP E c 239 261 [a0, a1] (v :: .ref a :: st) ah Q = WPo (oPF (hg E ah a) 11401 v) (fun e => WP E c 239 264 [a0, a1] st (hs E ah a e) Q) := wp_putf i239_261
theorem i239_264 : insAt 239 264 = some (.aload 0, 265) := by decide +kernel
theorem r239_264 {E : aEnv} {c : Nat} {ah : aHp} {st : List Value} {Q : Option Value → aHp → Prop} {a1 : Option Value} {x : Nat} : WP E c 239 264 [some (.ref x), a1] (st) ah Q = WP E c 239 265 [some (.ref x), a1] (.ref x :: st) ah Q := wp_s i239_264 rfl rfl rfl rfl
theorem i239_265 : insAt 239 265 = some (.dup, 266) := by decide +kernel
theorem r239_265 {E : aEnv} {c : Nat} {ah : aHp} {st : List Value} {Q : Option Value → aHp → Prop} {a0 a1 : Option Value} {x : Nat} : WP E c 239 265 [a0, a1] (.ref x :: st) ah Q = WP E c 239 266 [a0, a1] (.ref x :: .ref x :: st) ah Q := wp_s i239_265 rfl rfl rfl rfl
theorem r239_265i {E : aEnv} {c : Nat} {ah : aHp} {st : List Value} {Q : Option Value → aHp → Prop} {a0 a1 : Option Value} {x : Int32} : WP E c 239 265 [a0, a1] (.int x :: st) ah Q = WP E c 239 266 [a0, a1] (.int x :: .int x :: st) ah Q := wp_s i239_265 rfl rfl rfl rfl
theorem i239_266 : insAt 239 266 = some (.getfield 11370, 269) := by decide +kernel
theorem r239_266 {E : aEnv} {c : Nat} {ah : aHp} {st : List Value} {Q : Option Value → aHp → Prop} {a0 a1 : Option Value} {a : Nat} : WP E c 239 266 [a0, a1] (.ref a :: st) ah Q = WPo (oGF (hg E ah a) 11 37) (fun v => WP E c 239 269 [a0, a1] (v :: st) ah Q) := wp_getf i239_266
theorem i239_269 : insAt 239 269 = some (.iconst 1, 270) := by decide +kernel
theorem r239_269 {E : aEnv} {c : Nat} {ah : aHp} {st : List Value} {Q : Option Value → aHp → Prop} {a0 a1 : Option Value} : WP E c 239 269 [a0, a1] (st) ah Q = WP E c 239 270 [a0, a1] (.int (1) :: st) ah Q := wp_s i239_269 rfl rfl rfl rfl
theorem i239_270 : insAt 239 270 = some (.iadd, 271) := by decide +kernel
theorem r239_270 {E : aEnv} {c : Nat} {ah : aHp} {st : List Value} {Q : Option Value → aHp → Prop} {a0 a1 : Option Value} {x y : Int32} : WP E c 239 270 [a0, a1] (.int y :: .int x :: st) ah Q = WP E c 239 271 [a0, a1] (.int (x + y) :: st) ah Q := wp_s i239_270 rfl rfl rfl rfl
theorem i239_271 : insAt 239 271 = some (.putfield 11370, 274) := by decide +kernel
theorem r239_271 {E : aEnv} {c : Nat} {ah : aHp} {st : List Value} {Q : Option Value → aHp → Prop} {a0 a1 : Option Value} {a : Nat} {v : Value} : WP E c 239 271 [a0, a1] (v :: .ref a :: st) ah Q = WPo (oPF (hg E ah a) 11370 v) (fun e => WP E c 239 274 [a0, a1] st (hs E ah a e) Q) := wp_putf i239_271
theorem i239_274 : insAt 239 274 = some (.goto 210, 277) := by decide +kernel
theorem r239_274 {E : aEnv} {c : Nat} {ah : aHp} {st : List Value} {Q : Option Value → aHp → Prop} {a0 a1 : Option Value} : WP E c 239 274 [a0, a1] (st) ah Q = WP E c 239 210 [a0, a1] st ah Q := wp_s i239_274 rfl rfl rfl rfl
theorem i239_277 : insAt 239 277 = some (.aload 0, 278) := by decide +kernel
theorem r239_277 {E : aEnv} {c : Nat} {ah : aHp} {st : List Value} {Q : Option Value → aHp → Prop} {a1 : Option Value} {x : Nat} : WP E c 239 277 [some (.ref x), a1] (st) ah Q = WP E c 239 278 [some (.ref x), a1] (.ref x :: st) ah Q := wp_s i239_277 rfl rfl rfl rfl
theorem i239_278 : insAt 239 278 = some (.aload 0, 279) := by decide +kernel
theorem r239_278 {E : aEnv} {c : Nat} {ah : aHp} {st : List Value} {Q : Option Value → aHp → Prop} {a1 : Option Value} {x : Nat} : WP E c 239 278 [some (.ref x), a1] (st) ah Q = WP E c 239 279 [some (.ref x), a1] (.ref x :: st) ah Q := wp_s i239_278 rfl rfl rfl rfl
theorem i239_279 : insAt 239 279 = some (.getfield 11370, 282) := by decide +kernel
theorem r239_279 {E : aEnv} {c : Nat} {ah : aHp} {st : List Value} {Q : Option Value → aHp → Prop} {a0 a1 : Option Value} {a : Nat} : WP E c 239 279 [a0, a1] (.ref a :: st) ah Q = WPo (oGF (hg E ah a) 11 37) (fun v => WP E c 239 282 [a0, a1] (v :: st) ah Q) := wp_getf i239_279
theorem i239_282 : insAt 239 282 = some (.aload 0, 283) := by decide +kernel
theorem r239_282 {E : aEnv} {c : Nat} {ah : aHp} {st : List Value} {Q : Option Value → aHp → Prop} {a1 : Option Value} {x : Nat} : WP E c 239 282 [some (.ref x), a1] (st) ah Q = WP E c 239 283 [some (.ref x), a1] (.ref x :: st) ah Q := wp_s i239_282 rfl rfl rfl rfl
theorem i239_283 : insAt 239 283 = some (.getfield 11360, 286) := by decide +kernel
theorem r239_283 {E : aEnv} {c : Nat} {ah : aHp} {st : List Value} {Q : Option Value → aHp → Prop} {a0 a1 : Option Value} {a : Nat} : WP E c 239 283 [a0, a1] (.ref a :: st) ah Q = WPo (oGF (hg E ah a) 11 36) (fun v => WP E c 239 286 [a0, a1] (v :: st) ah Q) := wp_getf i239_283
theorem i239_286 : insAt 239 286 = some (.isub, 287) := by decide +kernel
theorem r239_286 {E : aEnv} {c : Nat} {ah : aHp} {st : List Value} {Q : Option Value → aHp → Prop} {a0 a1 : Option Value} {x y : Int32} : WP E c 239 286 [a0, a1] (.int y :: .int x :: st) ah Q = WP E c 239 287 [a0, a1] (.int (x - y) :: st) ah Q := wp_s i239_286 rfl rfl rfl rfl
theorem i239_287 : insAt 239 287 = some (.iconst 12, 289) := by decide +kernel
theorem r239_287 {E : aEnv} {c : Nat} {ah : aHp} {st : List Value} {Q : Option Value → aHp → Prop} {a0 a1 : Option Value} : WP E c 239 287 [a0, a1] (st) ah Q = WP E c 239 289 [a0, a1] (.int (12) :: st) ah Q := wp_s i239_287 rfl rfl rfl rfl
theorem i239_289 : insAt 239 289 = some (.if_icmp .le 296, 292) := by decide +kernel
theorem r239_289 {E : aEnv} {c : Nat} {ah : aHp} {st : List Value} {Q : Option Value → aHp → Prop} {a0 a1 : Option Value} {x y : Int32} : WP E c 239 289 [a0, a1] (.int y :: .int x :: st) ah Q = if x ≤ y then WP E c 239 296 [a0, a1] st ah Q else WP E c 239 292 [a0, a1] st ah Q := wp_j i239_289 rfl rfl rfl rfl
theorem i239_292 : insAt 239 292 = some (.iconst 4, 293) := by decide +kernel
theorem r239_292 {E : aEnv} {c : Nat} {ah : aHp} {st : List Value} {Q : Option Value → aHp → Prop} {a0 a1 : Option Value} : WP E c 239 292 [a0, a1] (st) ah Q = WP E c 239 293 [a0, a1] (.int (4) :: st) ah Q := wp_s i239_292 rfl rfl rfl rfl
theorem i239_293 : insAt 239 293 = some (.goto 297, 296) := by decide +kernel
theorem r239_293 {E : aEnv} {c : Nat} {ah : aHp} {st : List Value} {Q : Option Value → aHp → Prop} {a0 a1 : Option Value} : WP E c 239 293 [a0, a1] (st) ah Q = WP E c 239 297 [a0, a1] st ah Q := wp_s i239_293 rfl rfl rfl rfl
theorem i239_296 : insAt 239 296 = some (.iconst 2, 297) := by decide +kernel
theorem r239_296 {E : aEnv} {c : Nat} {ah : aHp} {st : List Value} {Q : Option Value → aHp → Prop} {a0 a1 : Option Value} : WP E c 239 296 [a0, a1] (st) ah Q = WP E c 239 297 [a0, a1] (.int (2) :: st) ah Q := wp_s i239_296 rfl rfl rfl rfl
theorem i239_297 : insAt 239 297 = some (.putfield 11350, 300) := by decide +kernel
theorem r239_297 {E : aEnv} {c : Nat} {ah : aHp} {st : List Value} {Q : Option Value → aHp → Prop} {a0 a1 : Option Value} {a : Nat} {v : Value} : WP E c 239 297 [a0, a1] (v :: .ref a :: st) ah Q = WPo (oPF (hg E ah a) 11350 v) (fun e => WP E c 239 300 [a0, a1] st (hs E ah a e) Q) := wp_putf i239_297
theorem i239_300 : insAt 239 300 = some (.goto 340, 303) := by decide +kernel
theorem r239_300 {E : aEnv} {c : Nat} {ah : aHp} {st : List Value} {Q : Option Value → aHp → Prop} {a0 a1 : Option Value} : WP E c 239 300 [a0, a1] (st) ah Q = WP E c 239 340 [a0, a1] st ah Q := wp_s i239_300 rfl rfl rfl rfl
theorem i239_303 : insAt 239 303 = some (.aload 0, 304) := by decide +kernel
theorem r239_303 {E : aEnv} {c : Nat} {ah : aHp} {st : List Value} {Q : Option Value → aHp → Prop} {a1 : Option Value} {x : Nat} : WP E c 239 303 [some (.ref x), a1] (st) ah Q = WP E c 239 304 [some (.ref x), a1] (.ref x :: st) ah Q := wp_s i239_303 rfl rfl rfl rfl
theorem i239_304 : insAt 239 304 = some (.aload 0, 305) := by decide +kernel
theorem r239_304 {E : aEnv} {c : Nat} {ah : aHp} {st : List Value} {Q : Option Value → aHp → Prop} {a1 : Option Value} {x : Nat} : WP E c 239 304 [some (.ref x), a1] (st) ah Q = WP E c 239 305 [some (.ref x), a1] (.ref x :: st) ah Q := wp_s i239_304 rfl rfl rfl rfl
theorem i239_305 : insAt 239 305 = some (.getfield 11360, 308) := by decide +kernel
theorem r239_305 {E : aEnv} {c : Nat} {ah : aHp} {st : List Value} {Q : Option Value → aHp → Prop} {a0 a1 : Option Value} {a : Nat} : WP E c 239 305 [a0, a1] (.ref a :: st) ah Q = WPo (oGF (hg E ah a) 11 36) (fun v => WP E c 239 308 [a0, a1] (v :: st) ah Q) := wp_getf i239_305
theorem i239_308 : insAt 239 308 = some (.iconst 1, 309) := by decide +kernel
theorem r239_308 {E : aEnv} {c : Nat} {ah : aHp} {st : List Value} {Q : Option Value → aHp → Prop} {a0 a1 : Option Value} : WP E c 239 308 [a0, a1] (st) ah Q = WP E c 239 309 [a0, a1] (.int (1) :: st) ah Q := wp_s i239_308 rfl rfl rfl rfl
theorem i239_309 : insAt 239 309 = some (.iadd, 310) := by decide +kernel
theorem r239_309 {E : aEnv} {c : Nat} {ah : aHp} {st : List Value} {Q : Option Value → aHp → Prop} {a0 a1 : Option Value} {x y : Int32} : WP E c 239 309 [a0, a1] (.int y :: .int x :: st) ah Q = WP E c 239 310 [a0, a1] (.int (x + y) :: st) ah Q := wp_s i239_309 rfl rfl rfl rfl
theorem i239_310 : insAt 239 310 = some (.putfield 11370, 313) := by decide +kernel
theorem r239_310 {E : aEnv} {c : Nat} {ah : aHp} {st : List Value} {Q : Option Value → aHp → Prop} {a0 a1 : Option Value} {a : Nat} {v : Value} : WP E c 239 310 [a0, a1] (v :: .ref a :: st) ah Q = WPo (oPF (hg E ah a) 11370 v) (fun e => WP E c 239 313 [a0, a1] st (hs E ah a e) Q) := wp_putf i239_310
theorem i239_313 : insAt 239 313 = some (.aload 0, 314) := by decide +kernel
theorem r239_313 {E : aEnv} {c : Nat} {ah : aHp} {st : List Value} {Q : Option Value → aHp → Prop} {a1 : Option Value} {x : Nat} : WP E c 239 313 [some (.ref x), a1] (st) ah Q = WP E c 239 314 [some (.ref x), a1] (.ref x :: st) ah Q := wp_s i239_313 rfl rfl rfl rfl
theorem i239_314 : insAt 239 314 = some (.iload 1, 315) := by decide +kernel
theorem r239_314 {E : aEnv} {c : Nat} {ah : aHp} {st : List Value} {Q : Option Value → aHp → Prop} {a0 : Option Value} {x : Int32} : WP E c 239 314 [a0, some (.int x)] (st) ah Q = WP E c 239 315 [a0, some (.int x)] (.int x :: st) ah Q := wp_s i239_314 rfl rfl rfl rfl
theorem i239_315 : insAt 239 315 = some (.i2l, 316) := by decide +kernel
theorem r239_315 {E : aEnv} {c : Nat} {ah : aHp} {st : List Value} {Q : Option Value → aHp → Prop} {a0 a1 : Option Value} {x : Int32} : WP E c 239 315 [a0, a1] (.int x :: st) ah Q = WP E c 239 316 [a0, a1] (.long x.toInt64 :: st) ah Q := wp_s i239_315 rfl rfl rfl rfl
theorem i239_316 : insAt 239 316 = some (.putfield 11401, 319) := by decide +kernel
theorem r239_316 {E : aEnv} {c : Nat} {ah : aHp} {st : List Value} {Q : Option Value → aHp → Prop} {a0 a1 : Option Value} {a : Nat} {v : Value} : WP E c 239 316 [a0, a1] (v :: .ref a :: st) ah Q = WPo (oPF (hg E ah a) 11401 v) (fun e => WP E c 239 319 [a0, a1] st (hs E ah a e) Q) := wp_putf i239_316
theorem i239_319 : insAt 239 319 = some (.aload 0, 320) := by decide +kernel
theorem r239_319 {E : aEnv} {c : Nat} {ah : aHp} {st : List Value} {Q : Option Value → aHp → Prop} {a1 : Option Value} {x : Nat} : WP E c 239 319 [some (.ref x), a1] (st) ah Q = WP E c 239 320 [some (.ref x), a1] (.ref x :: st) ah Q := wp_s i239_319 rfl rfl rfl rfl
theorem i239_320 : insAt 239 320 = some (.iload 1, 321) := by decide +kernel
theorem r239_320 {E : aEnv} {c : Nat} {ah : aHp} {st : List Value} {Q : Option Value → aHp → Prop} {a0 : Option Value} {x : Int32} : WP E c 239 320 [a0, some (.int x)] (st) ah Q = WP E c 239 321 [a0, some (.int x)] (.int x :: st) ah Q := wp_s i239_320 rfl rfl rfl rfl
theorem i239_321 : insAt 239 321 = some (.iconst 59, 323) := by decide +kernel
theorem r239_321 {E : aEnv} {c : Nat} {ah : aHp} {st : List Value} {Q : Option Value → aHp → Prop} {a0 a1 : Option Value} : WP E c 239 321 [a0, a1] (st) ah Q = WP E c 239 323 [a0, a1] (.int (59) :: st) ah Q := wp_s i239_321 rfl rfl rfl rfl
theorem i239_323 : insAt 239 323 = some (.if_icmp .eq 332, 326) := by decide +kernel
theorem r239_323 {E : aEnv} {c : Nat} {ah : aHp} {st : List Value} {Q : Option Value → aHp → Prop} {a0 a1 : Option Value} {x y : Int32} : WP E c 239 323 [a0, a1] (.int y :: .int x :: st) ah Q = if x = y then WP E c 239 332 [a0, a1] st ah Q else WP E c 239 326 [a0, a1] st ah Q := wp_j i239_323 rfl rfl rfl rfl
theorem i239_326 : insAt 239 326 = some (.iload 1, 327) := by decide +kernel
theorem r239_326 {E : aEnv} {c : Nat} {ah : aHp} {st : List Value} {Q : Option Value → aHp → Prop} {a0 : Option Value} {x : Int32} : WP E c 239 326 [a0, some (.int x)] (st) ah Q = WP E c 239 327 [a0, some (.int x)] (.int x :: st) ah Q := wp_s i239_326 rfl rfl rfl rfl
theorem i239_327 : insAt 239 327 = some (.iconst 45, 329) := by decide +kernel
theorem r239_327 {E : aEnv} {c : Nat} {ah : aHp} {st : List Value} {Q : Option Value → aHp → Prop} {a0 a1 : Option Value} : WP E c 239 327 [a0, a1] (st) ah Q = WP E c 239 329 [a0, a1] (.int (45) :: st) ah Q := wp_s i239_327 rfl rfl rfl rfl
theorem i239_329 : insAt 239 329 = some (.if_icmp .ne 336, 332) := by decide +kernel
theorem r239_329 {E : aEnv} {c : Nat} {ah : aHp} {st : List Value} {Q : Option Value → aHp → Prop} {a0 a1 : Option Value} {x y : Int32} : WP E c 239 329 [a0, a1] (.int y :: .int x :: st) ah Q = if ¬ x = y then WP E c 239 336 [a0, a1] st ah Q else WP E c 239 332 [a0, a1] st ah Q := wp_j i239_329 rfl rfl rfl rfl
theorem i239_332 : insAt 239 332 = some (.iconst 3, 333) := by decide +kernel
theorem r239_332 {E : aEnv} {c : Nat} {ah : aHp} {st : List Value} {Q : Option Value → aHp → Prop} {a0 a1 : Option Value} : WP E c 239 332 [a0, a1] (st) ah Q = WP E c 239 333 [a0, a1] (.int (3) :: st) ah Q := wp_s i239_332 rfl rfl rfl rfl
theorem i239_333 : insAt 239 333 = some (.goto 337, 336) := by decide +kernel
theorem r239_333 {E : aEnv} {c : Nat} {ah : aHp} {st : List Value} {Q : Option Value → aHp → Prop} {a0 a1 : Option Value} : WP E c 239 333 [a0, a1] (st) ah Q = WP E c 239 337 [a0, a1] st ah Q := wp_s i239_333 rfl rfl rfl rfl
theorem i239_336 : insAt 239 336 = some (.iconst 4, 337) := by decide +kernel
theorem r239_336 {E : aEnv} {c : Nat} {ah : aHp} {st : List Value} {Q : Option Value → aHp → Prop} {a0 a1 : Option Value} : WP E c 239 336 [a0, a1] (st) ah Q = WP E c 239 337 [a0, a1] (.int (4) :: st) ah Q := wp_s i239_336 rfl rfl rfl rfl
theorem i239_337 : insAt 239 337 = some (.putfield 11350, 340) := by decide +kernel
theorem r239_337 {E : aEnv} {c : Nat} {ah : aHp} {st : List Value} {Q : Option Value → aHp → Prop} {a0 a1 : Option Value} {a : Nat} {v : Value} : WP E c 239 337 [a0, a1] (v :: .ref a :: st) ah Q = WPo (oPF (hg E ah a) 11350 v) (fun e => WP E c 239 340 [a0, a1] st (hs E ah a e) Q) := wp_putf i239_337
theorem i239_340 : insAt 239 340 = some (.return_, 341) := by decide +kernel
theorem r239_340 {E : aEnv} {c : Nat} {ah : aHp} {Q : Option Value → aHp → Prop} {a0 a1 : Option Value} : WP E c 239 340 [a0, a1] ([]) ah Q = Q none ah := wp_rt i239_340 rfl
theorem e240 {E : aEnv} {c : Nat} {ah ahF : aHp} {r : Option Value} {p0 : Int32} {p1 : Int32} {p2 : Int32} {p3 : Int32} {p4 : Int32} (h : WP E c 240 0 [some (.int p0), some (.int p1), some (.int p2), some (.int p3), some (.int p4), none, none] [] ah (fun r1 x1 => r1 = r ∧ x1 = ahF)) : EV E c 240 [.int p0, .int p1, .int p2, .int p3, .int p4] ah r ahF := EV.of (by rw [mr240.2.1]; exact h)
theorem i240_0 : insAt 240 0 = some (.iload 0, 1) := by decide +kernel
theorem r240_0 {E : aEnv} {c : Nat} {ah : aHp} {st : List Value} {Q : Option Value → aHp → Prop} {a1 a2 a3 a4 a5 a6 : Option Value} {x : Int32} : WP E c 240 0 [some (.int x), a1, a2, a3, a4, a5, a6] (st) ah Q = WP E c 240 1 [some (.int x), a1, a2, a3, a4, a5, a6] (.int x :: st) ah Q := wp_s i240_0 rfl rfl rfl rfl
theorem i240_1 : insAt 240 1 = some (.i2l, 2) := by decide +kernel
theorem r240_1 {E : aEnv} {c : Nat} {ah : aHp} {st : List Value} {Q : Option Value → aHp → Prop} {a0 a1 a2 a3 a4 a5 a6 : Option Value} {x : Int32} : WP E c 240 1 [a0, a1, a2, a3, a4, a5, a6] (.int x :: st) ah Q = WP E c 240 2 [a0, a1, a2, a3, a4, a5, a6] (.long x.toInt64 :: st) ah Q := wp_s i240_1 rfl rfl rfl rfl
theorem i240_2 : insAt 240 2 = some (.jsr_w 96, 5) := by decide +kernel
theorem r240_2 {E : aEnv} {c : Nat} {ah : aHp} {st : List Value} {Q : Option Value → aHp → Prop} {a0 a1 a2 a3 a4 a5 a6 : Option Value} : WP E c 240 2 [a0, a1, a2, a3, a4, a5, a6] (st) ah Q = WP E c 240 5 [a0, a1, a2, a3, a4, a5, a6] (.long (96) :: st) ah Q := wp_s i240_2 rfl rfl rfl rfl
theorem i240_5 : insAt 240 5 = some (.lsub, 6) := by decide +kernel
theorem r240_5 {E : aEnv} {c : Nat} {ah : aHp} {st : List Value} {Q : Option Value → aHp → Prop} {a0 a1 a2 a3 a4 a5 a6 : Option Value} {x y : Int64} : WP E c 240 5 [a0, a1, a2, a3, a4, a5, a6] (.long y :: .long x :: st) ah Q = WP E c 240 6 [a0, a1, a2, a3, a4, a5, a6] (.long (x - y) :: st) ah Q := wp_s i240_5 rfl rfl rfl rfl
theorem i240_6 : insAt 240 6 = some (.lstore 5, 8) := by decide +kernel
theorem r240_6 {E : aEnv} {c : Nat} {ah : aHp} {st : List Value} {Q : Option Value → aHp → Prop} {a0 a1 a2 a3 a4 a5 a6 : Option Value} {x : Int64} : WP E c 240 6 [a0, a1, a2, a3, a4, a5, a6] (.long x :: st) ah Q = WP E c 240 8 [a0, a1, a2, a3, kil a4, some (.long x), none] (st) ah Q := wp_s i240_6 rfl rfl rfl rfl
theorem i240_8 : insAt 240 8 = some (.lload 5, 10) := by decide +kernel
theorem r240_8 {E : aEnv} {c : Nat} {ah : aHp} {st : List Value} {Q : Option Value → aHp → Prop} {a0 a1 a2 a3 a4 a6 : Option Value} {x : Int64} : WP E c 240 8 [a0, a1, a2, a3, a4, some (.long x), a6] (st) ah Q = WP E c 240 10 [a0, a1, a2, a3, a4, some (.long x), a6] (.long x :: st) ah Q := wp_s i240_8 rfl rfl rfl rfl
theorem i240_10 : insAt 240 10 = some (.jsr_w 32, 13) := by decide +kernel
theorem r240_10 {E : aEnv} {c : Nat} {ah : aHp} {st : List Value} {Q : Option Value → aHp → Prop} {a0 a1 a2 a3 a4 a5 a6 : Option Value} : WP E c 240 10 [a0, a1, a2, a3, a4, a5, a6] (st) ah Q = WP E c 240 13 [a0, a1, a2, a3, a4, a5, a6] (.long (32) :: st) ah Q := wp_s i240_10 rfl rfl rfl rfl
theorem i240_13 : insAt 240 13 = some (.lmul, 14) := by decide +kernel
theorem r240_13 {E : aEnv} {c : Nat} {ah : aHp} {st : List Value} {Q : Option Value → aHp → Prop} {a0 a1 a2 a3 a4 a5 a6 : Option Value} {x y : Int64} : WP E c 240 13 [a0, a1, a2, a3, a4, a5, a6] (.long y :: .long x :: st) ah Q = WP E c 240 14 [a0, a1, a2, a3, a4, a5, a6] (.long (x * y) :: st) ah Q := wp_s i240_13 rfl rfl rfl rfl
theorem i240_14 : insAt 240 14 = some (.iload 1, 15) := by decide +kernel
theorem r240_14 {E : aEnv} {c : Nat} {ah : aHp} {st : List Value} {Q : Option Value → aHp → Prop} {a0 a2 a3 a4 a5 a6 : Option Value} {x : Int32} : WP E c 240 14 [a0, some (.int x), a2, a3, a4, a5, a6] (st) ah Q = WP E c 240 15 [a0, some (.int x), a2, a3, a4, a5, a6] (.int x :: st) ah Q := wp_s i240_14 rfl rfl rfl rfl
theorem i240_15 : insAt 240 15 = some (.i2l, 16) := by decide +kernel
theorem r240_15 {E : aEnv} {c : Nat} {ah : aHp} {st : List Value} {Q : Option Value → aHp → Prop} {a0 a1 a2 a3 a4 a5 a6 : Option Value} {x : Int32} : WP E c 240 15 [a0, a1, a2, a3, a4, a5, a6] (.int x :: st) ah Q = WP E c 240 16 [a0, a1, a2, a3, a4, a5, a6] (.long x.toInt64 :: st) ah Q := wp_s i240_15 rfl rfl rfl rfl
theorem i240_16 : insAt 240 16 = some (.ladd, 17) := by decide +kernel
theorem r240_16 {E : aEnv} {c : Nat} {ah : aHp} {st : List Value} {Q : Option Value → aHp → Prop} {a0 a1 a2 a3 a4 a5 a6 : Option Value} {x y : Int64} : WP E c 240 16 [a0, a1, a2, a3, a4, a5, a6] (.long y :: .long x :: st) ah Q = WP E c 240 17 [a0, a1, a2, a3, a4, a5, a6] (.long (x + y) :: st) ah Q := wp_s i240_16 rfl rfl rfl rfl
theorem i240_17 : insAt 240 17 = some (.jsr_w 96, 20) := by decide +kernel
theorem r240_17 {E : aEnv} {c : Nat} {ah : aHp} {st : List Value} {Q : Option Value → aHp → Prop} {a0 a1 a2 a3 a4 a5 a6 : Option Value} : WP E c 240 17 [a0, a1, a2, a3, a4, a5, a6] (st) ah Q = WP E c 240 20 [a0, a1, a2, a3, a4, a5, a6] (.long (96) :: st) ah Q := wp_s i240_17 rfl rfl rfl rfl
theorem i240_20 : insAt 240 20 = some (.lsub, 21) := by decide +kernel
theorem r240_20 {E : aEnv} {c : Nat} {ah : aHp} {st : List Value} {Q : Option Value → aHp → Prop} {a0 a1 a2 a3 a4 a5 a6 : Option Value} {x y : Int64} : WP E c 240 20 [a0, a1, a2, a3, a4, a5, a6] (.long y :: .long x :: st) ah Q = WP E c 240 21 [a0, a1, a2, a3, a4, a5, a6] (.long (x - y) :: st) ah Q := wp_s i240_20 rfl rfl rfl rfl
theorem i240_21 : insAt 240 21 = some (.lstore 5, 23) := by decide +kernel
theorem r240_21 {E : aEnv} {c : Nat} {ah : aHp} {st : List Value} {Q : Option Value → aHp → Prop} {a0 a1 a2 a3 a4 a5 a6 : Option Value} {x : Int64} : WP E c 240 21 [a0, a1, a2, a3, a4, a5, a6] (.long x :: st) ah Q = WP E c 240 23 [a0, a1, a2, a3, kil a4, some (.long x), none] (st) ah Q := wp_s i240_21 rfl rfl rfl rfl
theorem i240_23 : insAt 240 23 = some (.iload 2, 24) := by decide +kernel
theorem r240_23 {E : aEnv} {c : Nat} {ah : aHp} {st : List Value} {Q : Option Value → aHp → Prop} {a0 a1 a3 a4 a5 a6 : Option Value} {x : Int32} : WP E c 240 23 [a0, a1, some (.int x), a3, a4, a5, a6] (st) ah Q = WP E c 240 24 [a0, a1, some (.int x), a3, a4, a5, a6] (.int x :: st) ah Q := wp_s i240_23 rfl rfl rfl rfl
theorem i240_24 : insAt 240 24 = some (.ifCond .le 43, 27) := by decide +kernel
theorem r240_24 {E : aEnv} {c : Nat} {ah : aHp} {st : List Value} {Q : Option Value → aHp → Prop} {a0 a1 a2 a3 a4 a5 a6 : Option Value} {x : Int32} : WP E c 240 24 [a0, a1, a2, a3, a4, a5, a6] (.int x :: st) ah Q = if x ≤ 0 then WP E c 240 43 [a0, a1, a2, a3, a4, a5, a6] st ah Q else WP E c 240 27 [a0, a1, a2, a3, a4, a5, a6] st ah Q := wp_j i240_24 rfl rfl rfl rfl
theorem i240_27 : insAt 240 27 = some (.lload 5, 29) := by decide +kernel
theorem r240_27 {E : aEnv} {c : Nat} {ah : aHp} {st : List Value} {Q : Option Value → aHp → Prop} {a0 a1 a2 a3 a4 a6 : Option Value} {x : Int64} : WP E c 240 27 [a0, a1, a2, a3, a4, some (.long x), a6] (st) ah Q = WP E c 240 29 [a0, a1, a2, a3, a4, some (.long x), a6] (.long x :: st) ah Q := wp_s i240_27 rfl rfl rfl rfl
theorem i240_29 : insAt 240 29 = some (.jsr_w 32, 32) := by decide +kernel
theorem r240_29 {E : aEnv} {c : Nat} {ah : aHp} {st : List Value} {Q : Option Value → aHp → Prop} {a0 a1 a2 a3 a4 a5 a6 : Option Value} : WP E c 240 29 [a0, a1, a2, a3, a4, a5, a6] (st) ah Q = WP E c 240 32 [a0, a1, a2, a3, a4, a5, a6] (.long (32) :: st) ah Q := wp_s i240_29 rfl rfl rfl rfl
theorem i240_32 : insAt 240 32 = some (.lmul, 33) := by decide +kernel
theorem r240_32 {E : aEnv} {c : Nat} {ah : aHp} {st : List Value} {Q : Option Value → aHp → Prop} {a0 a1 a2 a3 a4 a5 a6 : Option Value} {x y : Int64} : WP E c 240 32 [a0, a1, a2, a3, a4, a5, a6] (.long y :: .long x :: st) ah Q = WP E c 240 33 [a0, a1, a2, a3, a4, a5, a6] (.long (x * y) :: st) ah Q := wp_s i240_32 rfl rfl rfl rfl
theorem i240_33 : insAt 240 33 = some (.iload 2, 34) := by decide +kernel
theorem r240_33 {E : aEnv} {c : Nat} {ah : aHp} {st : List Value} {Q : Option Value → aHp → Prop} {a0 a1 a3 a4 a5 a6 : Option Value} {x : Int32} : WP E c 240 33 [a0, a1, some (.int x), a3, a4, a5, a6] (st) ah Q = WP E c 240 34 [a0, a1, some (.int x), a3, a4, a5, a6] (.int x :: st) ah Q := wp_s i240_33 rfl rfl rfl rfl
theorem i240_34 : insAt 240 34 = some (.i2l, 35) := by decide +kernel
theorem r240_34 {E : aEnv} {c : Nat} {ah : aHp} {st : List Value} {Q : Option Value → aHp → Prop} {a0 a1 a2 a3 a4 a5 a6 : Option Value} {x : Int32} : WP E c 240 34 [a0, a1, a2, a3, a4, a5, a6] (.int x :: st) ah Q = WP E c 240 35 [a0, a1, a2, a3, a4, a5, a6] (.long x.toInt64 :: st) ah Q := wp_s i240_34 rfl rfl rfl rfl
theorem i240_35 : insAt 240 35 = some (.ladd, 36) := by decide +kernel
theorem r240_35 {E : aEnv} {c : Nat} {ah : aHp} {st : List Value} {Q : Option Value → aHp → Prop} {a0 a1 a2 a3 a4 a5 a6 : Option Value} {x y : Int64} : WP E c 240 35 [a0, a1, a2, a3, a4, a5, a6] (.long y :: .long x :: st) ah Q = WP E c 240 36 [a0, a1, a2, a3, a4, a5, a6] (.long (x + y) :: st) ah Q := wp_s i240_35 rfl rfl rfl rfl
theorem i240_36 : insAt 240 36 = some (.jsr_w 96, 39) := by decide +kernel
theorem r240_36 {E : aEnv} {c : Nat} {ah : aHp} {st : List Value} {Q : Option Value → aHp → Prop} {a0 a1 a2 a3 a4 a5 a6 : Option Value} : WP E c 240 36 [a0, a1, a2, a3, a4, a5, a6] (st) ah Q = WP E c 240 39 [a0, a1, a2, a3, a4, a5, a6] (.long (96) :: st) ah Q := wp_s i240_36 rfl rfl rfl rfl
theorem i240_39 : insAt 240 39 = some (.lsub, 40) := by decide +kernel
theorem r240_39 {E : aEnv} {c : Nat} {ah : aHp} {st : List Value} {Q : Option Value → aHp → Prop} {a0 a1 a2 a3 a4 a5 a6 : Option Value} {x y : Int64} : WP E c 240 39 [a0, a1, a2, a3, a4, a5, a6] (.long y :: .long x :: st) ah Q = WP E c 240 40 [a0, a1, a2, a3, a4, a5, a6] (.long (x - y) :: st) ah Q := wp_s i240_39 rfl rfl rfl rfl
theorem i240_40 : insAt 240 40 = some (.goto 45, 43) := by decide +kernel
theorem r240_40 {E : aEnv} {c : Nat} {ah : aHp} {st : List Value} {Q : Option Value → aHp → Prop} {a0 a1 a2 a3 a4 a5 a6 : Option Value} : WP E c 240 40 [a0, a1, a2, a3, a4, a5, a6] (st) ah Q = WP E c 240 45 [a0, a1, a2, a3, a4, a5, a6] st ah Q := wp_s i240_40 rfl rfl rfl rfl
theorem i240_43 : insAt 240 43 = some (.lload 5, 45) := by decide +kernel
theorem r240_43 {E : aEnv} {c : Nat} {ah : aHp} {st : List Value} {Q : Option Value → aHp → Prop} {a0 a1 a2 a3 a4 a6 : Option Value} {x : Int64} : WP E c 240 43 [a0, a1, a2, a3, a4, some (.long x), a6] (st) ah Q = WP E c 240 45 [a0, a1, a2, a3, a4, some (.long x), a6] (.long x :: st) ah Q := wp_s i240_43 rfl rfl rfl rfl
theorem i240_45 : insAt 240 45 = some (.lstore 5, 47) := by decide +kernel
theorem r240_45 {E : aEnv} {c : Nat} {ah : aHp} {st : List Value} {Q : Option Value → aHp → Prop} {a0 a1 a2 a3 a4 a5 a6 : Option Value} {x : Int64} : WP E c 240 45 [a0, a1, a2, a3, a4, a5, a6] (.long x :: st) ah Q = WP E c 240 47 [a0, a1, a2, a3, kil a4, some (.long x), none] (st) ah Q := wp_s i240_45 rfl rfl rfl rfl
theorem i240_47 : insAt 240 47 = some (.iload 3, 48) := by decide +kernel
theorem r240_47 {E : aEnv} {c : Nat} {ah : aHp} {st : List Value} {Q : Option Value → aHp → Prop} {a0 a1 a2 a4 a5 a6 : Option Value} {x : Int32} : WP E c 240 47 [a0, a1, a2, some (.int x), a4, a5, a6] (st) ah Q = WP E c 240 48 [a0, a1, a2, some (.int x), a4, a5, a6] (.int x :: st) ah Q := wp_s i240_47 rfl rfl rfl rfl
theorem i240_48 : insAt 240 48 = some (.ifCond .le 67, 51) := by decide +kernel
theorem r240_48 {E : aEnv} {c : Nat} {ah : aHp} {st : List Value} {Q : Option Value → aHp → Prop} {a0 a1 a2 a3 a4 a5 a6 : Option Value} {x : Int32} : WP E c 240 48 [a0, a1, a2, a3, a4, a5, a6] (.int x :: st) ah Q = if x ≤ 0 then WP E c 240 67 [a0, a1, a2, a3, a4, a5, a6] st ah Q else WP E c 240 51 [a0, a1, a2, a3, a4, a5, a6] st ah Q := wp_j i240_48 rfl rfl rfl rfl
theorem i240_51 : insAt 240 51 = some (.lload 5, 53) := by decide +kernel
theorem r240_51 {E : aEnv} {c : Nat} {ah : aHp} {st : List Value} {Q : Option Value → aHp → Prop} {a0 a1 a2 a3 a4 a6 : Option Value} {x : Int64} : WP E c 240 51 [a0, a1, a2, a3, a4, some (.long x), a6] (st) ah Q = WP E c 240 53 [a0, a1, a2, a3, a4, some (.long x), a6] (.long x :: st) ah Q := wp_s i240_51 rfl rfl rfl rfl
theorem i240_53 : insAt 240 53 = some (.jsr_w 32, 56) := by decide +kernel
theorem r240_53 {E : aEnv} {c : Nat} {ah : aHp} {st : List Value} {Q : Option Value → aHp → Prop} {a0 a1 a2 a3 a4 a5 a6 : Option Value} : WP E c 240 53 [a0, a1, a2, a3, a4, a5, a6] (st) ah Q = WP E c 240 56 [a0, a1, a2, a3, a4, a5, a6] (.long (32) :: st) ah Q := wp_s i240_53 rfl rfl rfl rfl
theorem i240_56 : insAt 240 56 = some (.lmul, 57) := by decide +kernel
theorem r240_56 {E : aEnv} {c : Nat} {ah : aHp} {st : List Value} {Q : Option Value → aHp → Prop} {a0 a1 a2 a3 a4 a5 a6 : Option Value} {x y : Int64} : WP E c 240 56 [a0, a1, a2, a3, a4, a5, a6] (.long y :: .long x :: st) ah Q = WP E c 240 57 [a0, a1, a2, a3, a4, a5, a6] (.long (x * y) :: st) ah Q := wp_s i240_56 rfl rfl rfl rfl
theorem i240_57 : insAt 240 57 = some (.iload 3, 58) := by decide +kernel
theorem r240_57 {E : aEnv} {c : Nat} {ah : aHp} {st : List Value} {Q : Option Value → aHp → Prop} {a0 a1 a2 a4 a5 a6 : Option Value} {x : Int32} : WP E c 240 57 [a0, a1, a2, some (.int x), a4, a5, a6] (st) ah Q = WP E c 240 58 [a0, a1, a2, some (.int x), a4, a5, a6] (.int x :: st) ah Q := wp_s i240_57 rfl rfl rfl rfl
theorem i240_58 : insAt 240 58 = some (.i2l, 59) := by decide +kernel
theorem r240_58 {E : aEnv} {c : Nat} {ah : aHp} {st : List Value} {Q : Option Value → aHp → Prop} {a0 a1 a2 a3 a4 a5 a6 : Option Value} {x : Int32} : WP E c 240 58 [a0, a1, a2, a3, a4, a5, a6] (.int x :: st) ah Q = WP E c 240 59 [a0, a1, a2, a3, a4, a5, a6] (.long x.toInt64 :: st) ah Q := wp_s i240_58 rfl rfl rfl rfl
theorem i240_59 : insAt 240 59 = some (.ladd, 60) := by decide +kernel
theorem r240_59 {E : aEnv} {c : Nat} {ah : aHp} {st : List Value} {Q : Option Value → aHp → Prop} {a0 a1 a2 a3 a4 a5 a6 : Option Value} {x y : Int64} : WP E c 240 59 [a0, a1, a2, a3, a4, a5, a6] (.long y :: .long x :: st) ah Q = WP E c 240 60 [a0, a1, a2, a3, a4, a5, a6] (.long (x + y) :: st) ah Q := wp_s i240_59 rfl rfl rfl rfl
theorem i240_60 : insAt 240 60 = some (.jsr_w 96, 63) := by decide +kernel
theorem r240_60 {E : aEnv} {c : Nat} {ah : aHp} {st : List Value} {Q : Option Value → aHp → Prop} {a0 a1 a2 a3 a4 a5 a6 : Option Value} : WP E c 240 60 [a0, a1, a2, a3, a4, a5, a6] (st) ah Q = WP E c 240 63 [a0, a1, a2, a3, a4, a5, a6] (.long (96) :: st) ah Q := wp_s i240_60 rfl rfl rfl rfl
theorem i240_63 : insAt 240 63 = some (.lsub, 64) := by decide +kernel
theorem r240_63 {E : aEnv} {c : Nat} {ah : aHp} {st : List Value} {Q : Option Value → aHp → Prop} {a0 a1 a2 a3 a4 a5 a6 : Option Value} {x y : Int64} : WP E c 240 63 [a0, a1, a2, a3, a4, a5, a6] (.long y :: .long x :: st) ah Q = WP E c 240 64 [a0, a1, a2, a3, a4, a5, a6] (.long (x - y) :: st) ah Q := wp_s i240_63 rfl rfl rfl rfl
theorem i240_64 : insAt 240 64 = some (.goto 69, 67) := by decide +kernel
theorem r240_64 {E : aEnv} {c : Nat} {ah : aHp} {st : List Value} {Q : Option Value → aHp → Prop} {a0 a1 a2 a3 a4 a5 a6 : Option Value} : WP E c 240 64 [a0, a1, a2, a3, a4, a5, a6] (st) ah Q = WP E c 240 69 [a0, a1, a2, a3, a4, a5, a6] st ah Q := wp_s i240_64 rfl rfl rfl rfl
theorem i240_67 : insAt 240 67 = some (.lload 5, 69) := by decide +kernel
theorem r240_67 {E : aEnv} {c : Nat} {ah : aHp} {st : List Value} {Q : Option Value → aHp → Prop} {a0 a1 a2 a3 a4 a6 : Option Value} {x : Int64} : WP E c 240 67 [a0, a1, a2, a3, a4, some (.long x), a6] (st) ah Q = WP E c 240 69 [a0, a1, a2, a3, a4, some (.long x), a6] (.long x :: st) ah Q := wp_s i240_67 rfl rfl rfl rfl
theorem i240_69 : insAt 240 69 = some (.lstore 5, 71) := by decide +kernel
theorem r240_69 {E : aEnv} {c : Nat} {ah : aHp} {st : List Value} {Q : Option Value → aHp → Prop} {a0 a1 a2 a3 a4 a5 a6 : Option Value} {x : Int64} : WP E c 240 69 [a0, a1, a2, a3, a4, a5, a6] (.long x :: st) ah Q = WP E c 240 71 [a0, a1, a2, a3, kil a4, some (.long x), none] (st) ah Q := wp_s i240_69 rfl rfl rfl rfl
theorem i240_71 : insAt 240 71 = some (.iload 4, 73) := by decide +kernel
theorem r240_71 {E : aEnv} {c : Nat} {ah : aHp} {st : List Value} {Q : Option Value → aHp → Prop} {a0 a1 a2 a3 a5 a6 : Option Value} {x : Int32} : WP E c 240 71 [a0, a1, a2, a3, some (.int x), a5, a6] (st) ah Q = WP E c 240 73 [a0, a1, a2, a3, some (.int x), a5, a6] (.int x :: st) ah Q := wp_s i240_71 rfl rfl rfl rfl
theorem i240_73 : insAt 240 73 = some (.ifCond .le 93, 76) := by decide +kernel
theorem r240_73 {E : aEnv} {c : Nat} {ah : aHp} {st : List Value} {Q : Option Value → aHp → Prop} {a0 a1 a2 a3 a4 a5 a6 : Option Value} {x : Int32} : WP E c 240 73 [a0, a1, a2, a3, a4, a5, a6] (.int x :: st) ah Q = if x ≤ 0 then WP E c 240 93 [a0, a1, a2, a3, a4, a5, a6] st ah Q else WP E c 240 76 [a0, a1, a2, a3, a4, a5, a6] st ah Q := wp_j i240_73 rfl rfl rfl rfl
theorem i240_76 : insAt 240 76 = some (.lload 5, 78) := by decide +kernel
theorem r240_76 {E : aEnv} {c : Nat} {ah : aHp} {st : List Value} {Q : Option Value → aHp → Prop} {a0 a1 a2 a3 a4 a6 : Option Value} {x : Int64} : WP E c 240 76 [a0, a1, a2, a3, a4, some (.long x), a6] (st) ah Q = WP E c 240 78 [a0, a1, a2, a3, a4, some (.long x), a6] (.long x :: st) ah Q := wp_s i240_76 rfl rfl rfl rfl
theorem i240_78 : insAt 240 78 = some (.jsr_w 32, 81) := by decide +kernel
theorem r240_78 {E : aEnv} {c : Nat} {ah : aHp} {st : List Value} {Q : Option Value → aHp → Prop} {a0 a1 a2 a3 a4 a5 a6 : Option Value} : WP E c 240 78 [a0, a1, a2, a3, a4, a5, a6] (st) ah Q = WP E c 240 81 [a0, a1, a2, a3, a4, a5, a6] (.long (32) :: st) ah Q := wp_s i240_78 rfl rfl rfl rfl
theorem i240_81 : insAt 240 81 = some (.lmul, 82) := by decide +kernel
theorem r240_81 {E : aEnv} {c : Nat} {ah : aHp} {st : List Value} {Q : Option Value → aHp → Prop} {a0 a1 a2 a3 a4 a5 a6 : Option Value} {x y : Int64} : WP E c 240 81 [a0, a1, a2, a3, a4, a5, a6] (.long y :: .long x :: st) ah Q = WP E c 240 82 [a0, a1, a2, a3, a4, a5, a6] (.long (x * y) :: st) ah Q := wp_s i240_81 rfl rfl rfl rfl
theorem i240_82 : insAt 240 82 = some (.iload 4, 84) := by decide +kernel
theorem r240_82 {E : aEnv} {c : Nat} {ah : aHp} {st : List Value} {Q : Option Value → aHp → Prop} {a0 a1 a2 a3 a5 a6 : Option Value} {x : Int32} : WP E c 240 82 [a0, a1, a2, a3, some (.int x), a5, a6] (st) ah Q = WP E c 240 84 [a0, a1, a2, a3, some (.int x), a5, a6] (.int x :: st) ah Q := wp_s i240_82 rfl rfl rfl rfl
theorem i240_84 : insAt 240 84 = some (.i2l, 85) := by decide +kernel
theorem r240_84 {E : aEnv} {c : Nat} {ah : aHp} {st : List Value} {Q : Option Value → aHp → Prop} {a0 a1 a2 a3 a4 a5 a6 : Option Value} {x : Int32} : WP E c 240 84 [a0, a1, a2, a3, a4, a5, a6] (.int x :: st) ah Q = WP E c 240 85 [a0, a1, a2, a3, a4, a5, a6] (.long x.toInt64 :: st) ah Q := wp_s i240_84 rfl rfl rfl rfl
theorem i240_85 : insAt 240 85 = some (.ladd, 86) := by decide +kernel
theorem r240_85 {E : aEnv} {c : Nat} {ah : aHp} {st : List Value} {Q : Option Value → aHp → Prop} {a0 a1 a2 a3 a4 a5 a6 : Option Value} {x y : Int64} : WP E c 240 85 [a0, a1, a2, a3, a4, a5, a6] (.long y :: .long x :: st) ah Q = WP E c 240 86 [a0, a1, a2, a3, a4, a5, a6] (.long (x + y) :: st) ah Q := wp_s i240_85 rfl rfl rfl rfl
theorem i240_86 : insAt 240 86 = some (.jsr_w 96, 89) := by decide +kernel
theorem r240_86 {E : aEnv} {c : Nat} {ah : aHp} {st : List Value} {Q : Option Value → aHp → Prop} {a0 a1 a2 a3 a4 a5 a6 : Option Value} : WP E c 240 86 [a0, a1, a2, a3, a4, a5, a6] (st) ah Q = WP E c 240 89 [a0, a1, a2, a3, a4, a5, a6] (.long (96) :: st) ah Q := wp_s i240_86 rfl rfl rfl rfl
theorem i240_89 : insAt 240 89 = some (.lsub, 90) := by decide +kernel
theorem r240_89 {E : aEnv} {c : Nat} {ah : aHp} {st : List Value} {Q : Option Value → aHp → Prop} {a0 a1 a2 a3 a4 a5 a6 : Option Value} {x y : Int64} : WP E c 240 89 [a0, a1, a2, a3, a4, a5, a6] (.long y :: .long x :: st) ah Q = WP E c 240 90 [a0, a1, a2, a3, a4, a5, a6] (.long (x - y) :: st) ah Q := wp_s i240_89 rfl rfl rfl rfl
theorem i240_90 : insAt 240 90 = some (.goto 95, 93) := by decide +kernel
theorem r240_90 {E : aEnv} {c : Nat} {ah : aHp} {st : List Value} {Q : Option Value → aHp → Prop} {a0 a1 a2 a3 a4 a5 a6 : Option Value} : WP E c 240 90 [a0, a1, a2, a3, a4, a5, a6] (st) ah Q = WP E c 240 95 [a0, a1, a2, a3, a4, a5, a6] st ah Q := wp_s i240_90 rfl rfl rfl rfl
theorem i240_93 : insAt 240 93 = some (.lload 5, 95) := by decide +kernel
theorem r240_93 {E : aEnv} {c : Nat} {ah : aHp} {st : List Value} {Q : Option Value → aHp → Prop} {a0 a1 a2 a3 a4 a6 : Option Value} {x : Int64} : WP E c 240 93 [a0, a1, a2, a3, a4, some (.long x), a6] (st) ah Q = WP E c 240 95 [a0, a1, a2, a3, a4, some (.long x), a6] (.long x :: st) ah Q := wp_s i240_93 rfl rfl rfl rfl
theorem i240_95 : insAt 240 95 = some (.lreturn, 96) := by decide +kernel
theorem r240_95 {E : aEnv} {c : Nat} {ah : aHp} {Q : Option Value → aHp → Prop} {a0 a1 a2 a3 a4 a5 a6 : Option Value} {x : Int64} : WP E c 240 95 [a0, a1, a2, a3, a4, a5, a6] ([.long x]) ah Q = Q (some (.long x)) ah := wp_rt i240_95 rfl
theorem e241 {E : aEnv} {c : Nat} {ah ahF : aHp} {r : Option Value} {p0 : Nat} {p1 : Int64} (h : WP E c 241 0 [some (.ref p0), some (.long p1), none] [] ah (fun r1 x1 => r1 = r ∧ x1 = ahF)) : EV E c 241 [.ref p0, .long p1] ah r ahF := EV.of (by rw [mr241.2.1]; exact h)
theorem i241_0 : insAt 241 0 = some (.aload 0, 1) := by decide +kernel
theorem r241_0 {E : aEnv} {c : Nat} {ah : aHp} {st : List Value} {Q : Option Value → aHp → Prop} {a1 a2 : Option Value} {x : Nat} : WP E c 241 0 [some (.ref x), a1, a2] (st) ah Q = WP E c 241 1 [some (.ref x), a1, a2] (.ref x :: st) ah Q := wp_s i241_0 rfl rfl rfl rfl
theorem i241_1 : insAt 241 1 = some (.getfield 11350, 4) := by decide +kernel
theorem r241_1 {E : aEnv} {c : Nat} {ah : aHp} {st : List Value} {Q : Option Value → aHp → Prop} {a0 a1 a2 : Option Value} {a : Nat} : WP E c 241 1 [a0, a1, a2] (.ref a :: st) ah Q = WPo (oGF (hg E ah a) 11 35) (fun v => WP E c 241 4 [a0, a1, a2] (v :: st) ah Q) := wp_getf i241_1
theorem i241_4 : insAt 241 4 = some (.iconst 1, 5) := by decide +kernel
theorem r241_4 {E : aEnv} {c : Nat} {ah : aHp} {st : List Value} {Q : Option Value → aHp → Prop} {a0 a1 a2 : Option Value} : WP E c 241 4 [a0, a1, a2] (st) ah Q = WP E c 241 5 [a0, a1, a2] (.int (1) :: st) ah Q := wp_s i241_4 rfl rfl rfl rfl
theorem i241_5 : insAt 241 5 = some (.if_icmp .ne 21, 8) := by decide +kernel
theorem r241_5 {E : aEnv} {c : Nat} {ah : aHp} {st : List Value} {Q : Option Value → aHp → Prop} {a0 a1 a2 : Option Value} {x y : Int32} : WP E c 241 5 [a0, a1, a2] (.int y :: .int x :: st) ah Q = if ¬ x = y then WP E c 241 21 [a0, a1, a2] st ah Q else WP E c 241 8 [a0, a1, a2] st ah Q := wp_j i241_5 rfl rfl rfl rfl
theorem i241_8 : insAt 241 8 = some (.aload 0, 9) := by decide +kernel
theorem r241_8 {E : aEnv} {c : Nat} {ah : aHp} {st : List Value} {Q : Option Value → aHp → Prop} {a1 a2 : Option Value} {x : Nat} : WP E c 241 8 [some (.ref x), a1, a2] (st) ah Q = WP E c 241 9 [some (.ref x), a1, a2] (.ref x :: st) ah Q := wp_s i241_8 rfl rfl rfl rfl
theorem i241_9 : insAt 241 9 = some (.getfield 11391, 12) := by decide +kernel
theorem r241_9 {E : aEnv} {c : Nat} {ah : aHp} {st : List Value} {Q : Option Value → aHp → Prop} {a0 a1 a2 : Option Value} {a : Nat} : WP E c 241 9 [a0, a1, a2] (.ref a :: st) ah Q = WPo (oGF (hg E ah a) 11 39) (fun v => WP E c 241 12 [a0, a1, a2] (v :: st) ah Q) := wp_getf i241_9
theorem i241_12 : insAt 241 12 = some (.lload 1, 13) := by decide +kernel
theorem r241_12 {E : aEnv} {c : Nat} {ah : aHp} {st : List Value} {Q : Option Value → aHp → Prop} {a0 a2 : Option Value} {x : Int64} : WP E c 241 12 [a0, some (.long x), a2] (st) ah Q = WP E c 241 13 [a0, some (.long x), a2] (.long x :: st) ah Q := wp_s i241_12 rfl rfl rfl rfl
theorem i241_13 : insAt 241 13 = some (.lcmp, 14) := by decide +kernel
theorem r241_13 {E : aEnv} {c : Nat} {ah : aHp} {st : List Value} {Q : Option Value → aHp → Prop} {a0 a1 a2 : Option Value} {x y : Int64} : WP E c 241 13 [a0, a1, a2] (.long y :: .long x :: st) ah Q = WP E c 241 14 [a0, a1, a2] (.int (lg_cmp x y) :: st) ah Q := wp_s i241_13 rfl rfl rfl rfl
theorem i241_14 : insAt 241 14 = some (.ifCond .ne 21, 17) := by decide +kernel
theorem r241_14 {E : aEnv} {c : Nat} {ah : aHp} {st : List Value} {Q : Option Value → aHp → Prop} {a0 a1 a2 : Option Value} {x : Int32} : WP E c 241 14 [a0, a1, a2] (.int x :: st) ah Q = if ¬ x = 0 then WP E c 241 21 [a0, a1, a2] st ah Q else WP E c 241 17 [a0, a1, a2] st ah Q := wp_j i241_14 rfl rfl rfl rfl
theorem i241_17 : insAt 241 17 = some (.iconst 1, 18) := by decide +kernel
theorem r241_17 {E : aEnv} {c : Nat} {ah : aHp} {st : List Value} {Q : Option Value → aHp → Prop} {a0 a1 a2 : Option Value} : WP E c 241 17 [a0, a1, a2] (st) ah Q = WP E c 241 18 [a0, a1, a2] (.int (1) :: st) ah Q := wp_s i241_17 rfl rfl rfl rfl
theorem i241_18 : insAt 241 18 = some (.goto 22, 21) := by decide +kernel
theorem r241_18 {E : aEnv} {c : Nat} {ah : aHp} {st : List Value} {Q : Option Value → aHp → Prop} {a0 a1 a2 : Option Value} : WP E c 241 18 [a0, a1, a2] (st) ah Q = WP E c 241 22 [a0, a1, a2] st ah Q := wp_s i241_18 rfl rfl rfl rfl
theorem i241_21 : insAt 241 21 = some (.iconst 0, 22) := by decide +kernel
theorem r241_21 {E : aEnv} {c : Nat} {ah : aHp} {st : List Value} {Q : Option Value → aHp → Prop} {a0 a1 a2 : Option Value} : WP E c 241 21 [a0, a1, a2] (st) ah Q = WP E c 241 22 [a0, a1, a2] (.int (0) :: st) ah Q := wp_s i241_21 rfl rfl rfl rfl
theorem i241_22 : insAt 241 22 = some (.freturn, 23) := by decide +kernel
theorem r241_22 {E : aEnv} {c : Nat} {ah : aHp} {Q : Option Value → aHp → Prop} {a0 a1 a2 : Option Value} {x : Int32} (hx : x = 0 ∨ x = 1) : WP E c 241 22 [a0, a1, a2] ([.int x]) ah Q = Q (some (.int x)) ah := wp_rt i241_22 (by simp only [rtA, if_pos hx])
theorem e242 {E : aEnv} {c : Nat} {ah ahF : aHp} {r : Option Value} {p0 : Nat} {p1 : Int32} (h : WP E c 242 0 [some (.ref p0), some (.int p1)] [] ah (fun r1 x1 => r1 = r ∧ x1 = ahF)) : EV E c 242 [.ref p0, .int p1] ah r ahF := EV.of (by rw [mr242.2.1]; exact h)
theorem i242_0 : insAt 242 0 = some (.aload 0, 1) := by decide +kernel
theorem r242_0 {E : aEnv} {c : Nat} {ah : aHp} {st : List Value} {Q : Option Value → aHp → Prop} {a1 : Option Value} {x : Nat} : WP E c 242 0 [some (.ref x), a1] (st) ah Q = WP E c 242 1 [some (.ref x), a1] (.ref x :: st) ah Q := wp_s i242_0 rfl rfl rfl rfl
theorem i242_1 : insAt 242 1 = some (.getfield 11350, 4) := by decide +kernel
theorem r242_1 {E : aEnv} {c : Nat} {ah : aHp} {st : List Value} {Q : Option Value → aHp → Prop} {a0 a1 : Option Value} {a : Nat} : WP E c 242 1 [a0, a1] (.ref a :: st) ah Q = WPo (oGF (hg E ah a) 11 35) (fun v => WP E c 242 4 [a0, a1] (v :: st) ah Q) := wp_getf i242_1
theorem i242_4 : insAt 242 4 = some (.iconst 3, 5) := by decide +kernel
theorem r242_4 {E : aEnv} {c : Nat} {ah : aHp} {st : List Value} {Q : Option Value → aHp → Prop} {a0 a1 : Option Value} : WP E c 242 4 [a0, a1] (st) ah Q = WP E c 242 5 [a0, a1] (.int (3) :: st) ah Q := wp_s i242_4 rfl rfl rfl rfl
theorem i242_5 : insAt 242 5 = some (.if_icmp .ne 22, 8) := by decide +kernel
theorem r242_5 {E : aEnv} {c : Nat} {ah : aHp} {st : List Value} {Q : Option Value → aHp → Prop} {a0 a1 : Option Value} {x y : Int32} : WP E c 242 5 [a0, a1] (.int y :: .int x :: st) ah Q = if ¬ x = y then WP E c 242 22 [a0, a1] st ah Q else WP E c 242 8 [a0, a1] st ah Q := wp_j i242_5 rfl rfl rfl rfl
theorem i242_8 : insAt 242 8 = some (.aload 0, 9) := by decide +kernel
theorem r242_8 {E : aEnv} {c : Nat} {ah : aHp} {st : List Value} {Q : Option Value → aHp → Prop} {a1 : Option Value} {x : Nat} : WP E c 242 8 [some (.ref x), a1] (st) ah Q = WP E c 242 9 [some (.ref x), a1] (.ref x :: st) ah Q := wp_s i242_8 rfl rfl rfl rfl
theorem i242_9 : insAt 242 9 = some (.getfield 11401, 12) := by decide +kernel
theorem r242_9 {E : aEnv} {c : Nat} {ah : aHp} {st : List Value} {Q : Option Value → aHp → Prop} {a0 a1 : Option Value} {a : Nat} : WP E c 242 9 [a0, a1] (.ref a :: st) ah Q = WPo (oGF (hg E ah a) 11 40) (fun v => WP E c 242 12 [a0, a1] (v :: st) ah Q) := wp_getf i242_9
theorem i242_12 : insAt 242 12 = some (.iload 1, 13) := by decide +kernel
theorem r242_12 {E : aEnv} {c : Nat} {ah : aHp} {st : List Value} {Q : Option Value → aHp → Prop} {a0 : Option Value} {x : Int32} : WP E c 242 12 [a0, some (.int x)] (st) ah Q = WP E c 242 13 [a0, some (.int x)] (.int x :: st) ah Q := wp_s i242_12 rfl rfl rfl rfl
theorem i242_13 : insAt 242 13 = some (.i2l, 14) := by decide +kernel
theorem r242_13 {E : aEnv} {c : Nat} {ah : aHp} {st : List Value} {Q : Option Value → aHp → Prop} {a0 a1 : Option Value} {x : Int32} : WP E c 242 13 [a0, a1] (.int x :: st) ah Q = WP E c 242 14 [a0, a1] (.long x.toInt64 :: st) ah Q := wp_s i242_13 rfl rfl rfl rfl
theorem i242_14 : insAt 242 14 = some (.lcmp, 15) := by decide +kernel
theorem r242_14 {E : aEnv} {c : Nat} {ah : aHp} {st : List Value} {Q : Option Value → aHp → Prop} {a0 a1 : Option Value} {x y : Int64} : WP E c 242 14 [a0, a1] (.long y :: .long x :: st) ah Q = WP E c 242 15 [a0, a1] (.int (lg_cmp x y) :: st) ah Q := wp_s i242_14 rfl rfl rfl rfl
theorem i242_15 : insAt 242 15 = some (.ifCond .ne 22, 18) := by decide +kernel
theorem r242_15 {E : aEnv} {c : Nat} {ah : aHp} {st : List Value} {Q : Option Value → aHp → Prop} {a0 a1 : Option Value} {x : Int32} : WP E c 242 15 [a0, a1] (.int x :: st) ah Q = if ¬ x = 0 then WP E c 242 22 [a0, a1] st ah Q else WP E c 242 18 [a0, a1] st ah Q := wp_j i242_15 rfl rfl rfl rfl
theorem i242_18 : insAt 242 18 = some (.iconst 1, 19) := by decide +kernel
theorem r242_18 {E : aEnv} {c : Nat} {ah : aHp} {st : List Value} {Q : Option Value → aHp → Prop} {a0 a1 : Option Value} : WP E c 242 18 [a0, a1] (st) ah Q = WP E c 242 19 [a0, a1] (.int (1) :: st) ah Q := wp_s i242_18 rfl rfl rfl rfl
theorem i242_19 : insAt 242 19 = some (.goto 23, 22) := by decide +kernel
theorem r242_19 {E : aEnv} {c : Nat} {ah : aHp} {st : List Value} {Q : Option Value → aHp → Prop} {a0 a1 : Option Value} : WP E c 242 19 [a0, a1] (st) ah Q = WP E c 242 23 [a0, a1] st ah Q := wp_s i242_19 rfl rfl rfl rfl
theorem i242_22 : insAt 242 22 = some (.iconst 0, 23) := by decide +kernel
theorem r242_22 {E : aEnv} {c : Nat} {ah : aHp} {st : List Value} {Q : Option Value → aHp → Prop} {a0 a1 : Option Value} : WP E c 242 22 [a0, a1] (st) ah Q = WP E c 242 23 [a0, a1] (.int (0) :: st) ah Q := wp_s i242_22 rfl rfl rfl rfl
theorem i242_23 : insAt 242 23 = some (.freturn, 24) := by decide +kernel
theorem r242_23 {E : aEnv} {c : Nat} {ah : aHp} {Q : Option Value → aHp → Prop} {a0 a1 : Option Value} {x : Int32} (hx : x = 0 ∨ x = 1) : WP E c 242 23 [a0, a1] ([.int x]) ah Q = Q (some (.int x)) ah := wp_rt i242_23 (by simp only [rtA, if_pos hx])
theorem e243 {E : aEnv} {c : Nat} {ah ahF : aHp} {r : Option Value} {p0 : Nat} {p1 : Int32} {p2 : Int32} (h : WP E c 243 0 [some (.ref p0), some (.int p1), some (.int p2)] [] ah (fun r1 x1 => r1 = r ∧ x1 = ahF)) : EV E c 243 [.ref p0, .int p1, .int p2] ah r ahF := EV.of (by rw [mr243.2.1]; exact h)
theorem i243_0 : insAt 243 0 = some (.aload 0, 1) := by decide +kernel
theorem r243_0 {E : aEnv} {c : Nat} {ah : aHp} {st : List Value} {Q : Option Value → aHp → Prop} {a1 a2 : Option Value} {x : Nat} : WP E c 243 0 [some (.ref x), a1, a2] (st) ah Q = WP E c 243 1 [some (.ref x), a1, a2] (.ref x :: st) ah Q := wp_s i243_0 rfl rfl rfl rfl
theorem i243_1 : insAt 243 1 = some (.getfield 11330, 4) := by decide +kernel
theorem r243_1 {E : aEnv} {c : Nat} {ah : aHp} {st : List Value} {Q : Option Value → aHp → Prop} {a0 a1 a2 : Option Value} {a : Nat} : WP E c 243 1 [a0, a1, a2] (.ref a :: st) ah Q = WPo (oGF (hg E ah a) 11 33) (fun v => WP E c 243 4 [a0, a1, a2] (v :: st) ah Q) := wp_getf i243_1
theorem i243_4 : insAt 243 4 = some (.ifCond .le 8, 7) := by decide +kernel
theorem r243_4 {E : aEnv} {c : Nat} {ah : aHp} {st : List Value} {Q : Option Value → aHp → Prop} {a0 a1 a2 : Option Value} {x : Int32} : WP E c 243 4 [a0, a1, a2] (.int x :: st) ah Q = if x ≤ 0 then WP E c 243 8 [a0, a1, a2] st ah Q else WP E c 243 7 [a0, a1, a2] st ah Q := wp_j i243_4 rfl rfl rfl rfl
theorem i243_7 : insAt 243 7 = some (.return_, 8) := by decide +kernel
theorem r243_7 {E : aEnv} {c : Nat} {ah : aHp} {Q : Option Value → aHp → Prop} {a0 a1 a2 : Option Value} : WP E c 243 7 [a0, a1, a2] ([]) ah Q = Q none ah := wp_rt i243_7 rfl
theorem i243_8 : insAt 243 8 = some (.aload 0, 9) := by decide +kernel
theorem r243_8 {E : aEnv} {c : Nat} {ah : aHp} {st : List Value} {Q : Option Value → aHp → Prop} {a1 a2 : Option Value} {x : Nat} : WP E c 243 8 [some (.ref x), a1, a2] (st) ah Q = WP E c 243 9 [some (.ref x), a1, a2] (.ref x :: st) ah Q := wp_s i243_8 rfl rfl rfl rfl
theorem i243_9 : insAt 243 9 = some (.iload 1, 10) := by decide +kernel
theorem r243_9 {E : aEnv} {c : Nat} {ah : aHp} {st : List Value} {Q : Option Value → aHp → Prop} {a0 a2 : Option Value} {x : Int32} : WP E c 243 9 [a0, some (.int x), a2] (st) ah Q = WP E c 243 10 [a0, some (.int x), a2] (.int x :: st) ah Q := wp_s i243_9 rfl rfl rfl rfl
theorem i243_10 : insAt 243 10 = some (.putfield 11330, 13) := by decide +kernel
theorem r243_10 {E : aEnv} {c : Nat} {ah : aHp} {st : List Value} {Q : Option Value → aHp → Prop} {a0 a1 a2 : Option Value} {a : Nat} {v : Value} : WP E c 243 10 [a0, a1, a2] (v :: .ref a :: st) ah Q = WPo (oPF (hg E ah a) 11330 v) (fun e => WP E c 243 13 [a0, a1, a2] st (hs E ah a e) Q) := wp_putf i243_10
theorem i243_13 : insAt 243 13 = some (.aload 0, 14) := by decide +kernel
theorem r243_13 {E : aEnv} {c : Nat} {ah : aHp} {st : List Value} {Q : Option Value → aHp → Prop} {a1 a2 : Option Value} {x : Nat} : WP E c 243 13 [some (.ref x), a1, a2] (st) ah Q = WP E c 243 14 [some (.ref x), a1, a2] (.ref x :: st) ah Q := wp_s i243_13 rfl rfl rfl rfl
theorem i243_14 : insAt 243 14 = some (.iload 2, 15) := by decide +kernel
theorem r243_14 {E : aEnv} {c : Nat} {ah : aHp} {st : List Value} {Q : Option Value → aHp → Prop} {a0 a1 : Option Value} {x : Int32} : WP E c 243 14 [a0, a1, some (.int x)] (st) ah Q = WP E c 243 15 [a0, a1, some (.int x)] (.int x :: st) ah Q := wp_s i243_14 rfl rfl rfl rfl
theorem i243_15 : insAt 243 15 = some (.putfield 11340, 18) := by decide +kernel
theorem r243_15 {E : aEnv} {c : Nat} {ah : aHp} {st : List Value} {Q : Option Value → aHp → Prop} {a0 a1 a2 : Option Value} {a : Nat} {v : Value} : WP E c 243 15 [a0, a1, a2] (v :: .ref a :: st) ah Q = WPo (oPF (hg E ah a) 11340 v) (fun e => WP E c 243 18 [a0, a1, a2] st (hs E ah a e) Q) := wp_putf i243_15
theorem i243_18 : insAt 243 18 = some (.return_, 19) := by decide +kernel
theorem r243_18 {E : aEnv} {c : Nat} {ah : aHp} {Q : Option Value → aHp → Prop} {a0 a1 a2 : Option Value} : WP E c 243 18 [a0, a1, a2] ([]) ah Q = Q none ah := wp_rt i243_18 rfl
theorem e244 {E : aEnv} {c : Nat} {ah ahF : aHp} {r : Option Value} {p0 : Nat} (h : WP E c 244 0 [some (.ref p0)] [] ah (fun r1 x1 => r1 = r ∧ x1 = ahF)) : EV E c 244 [.ref p0] ah r ahF := EV.of (by rw [mr244.2.1]; exact h)
theorem i244_0 : insAt 244 0 = some (.aload 0, 1) := by decide +kernel
theorem r244_0 {E : aEnv} {c : Nat} {ah : aHp} {st : List Value} {Q : Option Value → aHp → Prop} {x : Nat} : WP E c 244 0 [some (.ref x)] (st) ah Q = WP E c 244 1 [some (.ref x)] (.ref x :: st) ah Q := wp_s i244_0 rfl rfl rfl rfl
theorem i244_1 : insAt 244 1 = some (.aload 0, 2) := by decide +kernel
theorem r244_1 {E : aEnv} {c : Nat} {ah : aHp} {st : List Value} {Q : Option Value → aHp → Prop} {x : Nat} : WP E c 244 1 [some (.ref x)] (st) ah Q = WP E c 244 2 [some (.ref x)] (.ref x :: st) ah Q := wp_s i244_1 rfl rfl rfl rfl
theorem i244_2 : insAt 244 2 = some (.getfield 11350, 5) := by decide +kernel
theorem r244_2 {E : aEnv} {c : Nat} {ah : aHp} {st : List Value} {Q : Option Value → aHp → Prop} {a0 : Option Value} {a : Nat} : WP E c 244 2 [a0] (.ref a :: st) ah Q = WPo (oGF (hg E ah a) 11 35) (fun v => WP E c 244 5 [a0] (v :: st) ah Q) := wp_getf i244_2
theorem i244_5 : insAt 244 5 = some (.iconst 4, 6) := by decide +kernel
theorem r244_5 {E : aEnv} {c : Nat} {ah : aHp} {st : List Value} {Q : Option Value → aHp → Prop} {a0 : Option Value} : WP E c 244 5 [a0] (st) ah Q = WP E c 244 6 [a0] (.int (4) :: st) ah Q := wp_s i244_5 rfl rfl rfl rfl
theorem i244_6 : insAt 244 6 = some (.if_icmp .ne 13, 9) := by decide +kernel
theorem r244_6 {E : aEnv} {c : Nat} {ah : aHp} {st : List Value} {Q : Option Value → aHp → Prop} {a0 : Option Value} {x y : Int32} : WP E c 244 6 [a0] (.int y :: .int x :: st) ah Q = if ¬ x = y then WP E c 244 13 [a0] st ah Q else WP E c 244 9 [a0] st ah Q := wp_j i244_6 rfl rfl rfl rfl
theorem i244_9 : insAt 244 9 = some (.iconst 1, 10) := by decide +kernel
theorem r244_9 {E : aEnv} {c : Nat} {ah : aHp} {st : List Value} {Q : Option Value → aHp → Prop} {a0 : Option Value} : WP E c 244 9 [a0] (st) ah Q = WP E c 244 10 [a0] (.int (1) :: st) ah Q := wp_s i244_9 rfl rfl rfl rfl
theorem i244_10 : insAt 244 10 = some (.goto 14, 13) := by decide +kernel
theorem r244_10 {E : aEnv} {c : Nat} {ah : aHp} {st : List Value} {Q : Option Value → aHp → Prop} {a0 : Option Value} : WP E c 244 10 [a0] (st) ah Q = WP E c 244 14 [a0] st ah Q := wp_s i244_10 rfl rfl rfl rfl
theorem i244_13 : insAt 244 13 = some (.iconst 2, 14) := by decide +kernel
theorem r244_13 {E : aEnv} {c : Nat} {ah : aHp} {st : List Value} {Q : Option Value → aHp → Prop} {a0 : Option Value} : WP E c 244 13 [a0] (st) ah Q = WP E c 244 14 [a0] (.int (2) :: st) ah Q := wp_s i244_13 rfl rfl rfl rfl
theorem i244_14 : insAt 244 14 = some (.aload 0, 15) := by decide +kernel
theorem r244_14 {E : aEnv} {c : Nat} {ah : aHp} {st : List Value} {Q : Option Value → aHp → Prop} {x : Nat} : WP E c 244 14 [some (.ref x)] (st) ah Q = WP E c 244 15 [some (.ref x)] (.ref x :: st) ah Q := wp_s i244_14 rfl rfl rfl rfl
theorem i244_15 : insAt 244 15 = some (.getfield 11360, 18) := by decide +kernel
theorem r244_15 {E : aEnv} {c : Nat} {ah : aHp} {st : List Value} {Q : Option Value → aHp → Prop} {a0 : Option Value} {a : Nat} : WP E c 244 15 [a0] (.ref a :: st) ah Q = WPo (oGF (hg E ah a) 11 36) (fun v => WP E c 244 18 [a0] (v :: st) ah Q) := wp_getf i244_15
theorem i244_18 : insAt 244 18 = some (.invokevirtual 243, 21) := by decide +kernel
theorem r244_18 {E : aEnv} {c : Nat} {ah ah1 : aHp} {r : Option Value} {st : List Value} {Q : Option Value → aHp → Prop} {a0 : Option Value} {p0 : Nat} {p1 : Int32} {p2 : Int32} (h : EV E c 243 [.ref p0, .int p1, .int p2] ah r ah1) (h2 : oCI (hg E ah p0) = 11) (h3 : wds st ≤ 8) : WP E (c + 1) 244 18 [a0] (.int p2 :: .int p1 :: .ref p0 :: st) ah Q = WP E (c + 1) 244 21 [a0] (r.toList ++ st) ah1 Q := wp_call (As := [.ref p0, .int p1, .int p2]) i244_18 (fun _ => rfl) rfl mr243.1 (rcv_1 h2 mr243.2.2 (by decide)) h3 (by rw [mr243.2.1]; exact Nat.le_of_ble_eq_true rfl) h
theorem i244_21 : insAt 244 21 = some (.return_, 22) := by decide +kernel
theorem r244_21 {E : aEnv} {c : Nat} {ah : aHp} {Q : Option Value → aHp → Prop} {a0 : Option Value} : WP E c 244 21 [a0] ([]) ah Q = Q none ah := wp_rt i244_21 rfl
theorem e245 {E : aEnv} {c : Nat} {ah ahF : aHp} {r : Option Value} {p0 : Nat} {p1 : Int32} {p2 : Int32} (h : WP E c 245 0 [some (.ref p0), some (.int p1), some (.int p2), none] [] ah (fun r1 x1 => r1 = r ∧ x1 = ahF)) : EV E c 245 [.ref p0, .int p1, .int p2] ah r ahF := EV.of (by rw [mr245.2.1]; exact h)
theorem i245_0 : insAt 245 0 = some (.aload 0, 1) := by decide +kernel
theorem r245_0 {E : aEnv} {c : Nat} {ah : aHp} {st : List Value} {Q : Option Value → aHp → Prop} {a1 a2 a3 : Option Value} {x : Nat} : WP E c 245 0 [some (.ref x), a1, a2, a3] (st) ah Q = WP E c 245 1 [some (.ref x), a1, a2, a3] (.ref x :: st) ah Q := wp_s i245_0 rfl rfl rfl rfl
theorem i245_1 : insAt 245 1 = some (.getfield 11330, 4) := by decide +kernel
theorem r245_1 {E : aEnv} {c : Nat} {ah : aHp} {st : List Value} {Q : Option Value → aHp → Prop} {a0 a1 a2 a3 : Option Value} {a : Nat} : WP E c 245 1 [a0, a1, a2, a3] (.ref a :: st) ah Q = WPo (oGF (hg E ah a) 11 33) (fun v => WP E c 245 4 [a0, a1, a2, a3] (v :: st) ah Q) := wp_getf i245_1
theorem i245_4 : insAt 245 4 = some (.ifCond .ne 19, 7) := by decide +kernel
theorem r245_4 {E : aEnv} {c : Nat} {ah : aHp} {st : List Value} {Q : Option Value → aHp → Prop} {a0 a1 a2 a3 : Option Value} {x : Int32} : WP E c 245 4 [a0, a1, a2, a3] (.int x :: st) ah Q = if ¬ x = 0 then WP E c 245 19 [a0, a1, a2, a3] st ah Q else WP E c 245 7 [a0, a1, a2, a3] st ah Q := wp_j i245_4 rfl rfl rfl rfl
theorem i245_7 : insAt 245 7 = some (.aload 0, 8) := by decide +kernel
theorem r245_7 {E : aEnv} {c : Nat} {ah : aHp} {st : List Value} {Q : Option Value → aHp → Prop} {a1 a2 a3 : Option Value} {x : Nat} : WP E c 245 7 [some (.ref x), a1, a2, a3] (st) ah Q = WP E c 245 8 [some (.ref x), a1, a2, a3] (.ref x :: st) ah Q := wp_s i245_7 rfl rfl rfl rfl
theorem i245_8 : insAt 245 8 = some (.getfield 11350, 11) := by decide +kernel
theorem r245_8 {E : aEnv} {c : Nat} {ah : aHp} {st : List Value} {Q : Option Value → aHp → Prop} {a0 a1 a2 a3 : Option Value} {a : Nat} : WP E c 245 8 [a0, a1, a2, a3] (.ref a :: st) ah Q = WPo (oGF (hg E ah a) 11 35) (fun v => WP E c 245 11 [a0, a1, a2, a3] (v :: st) ah Q) := wp_getf i245_8
theorem i245_11 : insAt 245 11 = some (.iconst 2, 12) := by decide +kernel
theorem r245_11 {E : aEnv} {c : Nat} {ah : aHp} {st : List Value} {Q : Option Value → aHp → Prop} {a0 a1 a2 a3 : Option Value} : WP E c 245 11 [a0, a1, a2, a3] (st) ah Q = WP E c 245 12 [a0, a1, a2, a3] (.int (2) :: st) ah Q := wp_s i245_11 rfl rfl rfl rfl
theorem i245_12 : insAt 245 12 = some (.if_icmp .eq 19, 15) := by decide +kernel
theorem r245_12 {E : aEnv} {c : Nat} {ah : aHp} {st : List Value} {Q : Option Value → aHp → Prop} {a0 a1 a2 a3 : Option Value} {x y : Int32} : WP E c 245 12 [a0, a1, a2, a3] (.int y :: .int x :: st) ah Q = if x = y then WP E c 245 19 [a0, a1, a2, a3] st ah Q else WP E c 245 15 [a0, a1, a2, a3] st ah Q := wp_j i245_12 rfl rfl rfl rfl
theorem i245_15 : insAt 245 15 = some (.aload 0, 16) := by decide +kernel
theorem r245_15 {E : aEnv} {c : Nat} {ah : aHp} {st : List Value} {Q : Option Value → aHp → Prop} {a1 a2 a3 : Option Value} {x : Nat} : WP E c 245 15 [some (.ref x), a1, a2, a3] (st) ah Q = WP E c 245 16 [some (.ref x), a1, a2, a3] (.ref x :: st) ah Q := wp_s i245_15 rfl rfl rfl rfl
theorem i245_16 : insAt 245 16 = some (.invokevirtual 244, 19) := by decide +kernel
theorem r245_16 {E : aEnv} {c : Nat} {ah ah1 : aHp} {r : Option Value} {st : List Value} {Q : Option Value → aHp → Prop} {a0 a1 a2 a3 : Option Value} {p0 : Nat} (h : EV E c 244 [.ref p0] ah r ah1) (h2 : oCI (hg E ah p0) = 11) (h3 : wds st ≤ 8) : WP E (c + 1) 245 16 [a0, a1, a2, a3] (.ref p0 :: st) ah Q = WP E (c + 1) 245 19 [a0, a1, a2, a3] (r.toList ++ st) ah1 Q := wp_call (As := [.ref p0]) i245_16 (fun _ => rfl) rfl mr244.1 (rcv_1 h2 mr244.2.2 (by decide)) h3 (by rw [mr244.2.1]; exact Nat.le_of_ble_eq_true rfl) h
theorem i245_19 : insAt 245 19 = some (.aload 0, 20) := by decide +kernel
theorem r245_19 {E : aEnv} {c : Nat} {ah : aHp} {st : List Value} {Q : Option Value → aHp → Prop} {a1 a2 a3 : Option Value} {x : Nat} : WP E c 245 19 [some (.ref x), a1, a2, a3] (st) ah Q = WP E c 245 20 [some (.ref x), a1, a2, a3] (.ref x :: st) ah Q := wp_s i245_19 rfl rfl rfl rfl
theorem i245_20 : insAt 245 20 = some (.getfield 11330, 23) := by decide +kernel
theorem r245_20 {E : aEnv} {c : Nat} {ah : aHp} {st : List Value} {Q : Option Value → aHp → Prop} {a0 a1 a2 a3 : Option Value} {a : Nat} : WP E c 245 20 [a0, a1, a2, a3] (.ref a :: st) ah Q = WPo (oGF (hg E ah a) 11 33) (fun v => WP E c 245 23 [a0, a1, a2, a3] (v :: st) ah Q) := wp_getf i245_20
theorem i245_23 : insAt 245 23 = some (.ifCond .ne 49, 26) := by decide +kernel
theorem r245_23 {E : aEnv} {c : Nat} {ah : aHp} {st : List Value} {Q : Option Value → aHp → Prop} {a0 a1 a2 a3 : Option Value} {x : Int32} : WP E c 245 23 [a0, a1, a2, a3] (.int x :: st) ah Q = if ¬ x = 0 then WP E c 245 49 [a0, a1, a2, a3] st ah Q else WP E c 245 26 [a0, a1, a2, a3] st ah Q := wp_j i245_23 rfl rfl rfl rfl
theorem i245_26 : insAt 245 26 = some (.aload 0, 27) := by decide +kernel
theorem r245_26 {E : aEnv} {c : Nat} {ah : aHp} {st : List Value} {Q : Option Value → aHp → Prop} {a1 a2 a3 : Option Value} {x : Nat} : WP E c 245 26 [some (.ref x), a1, a2, a3] (st) ah Q = WP E c 245 27 [some (.ref x), a1, a2, a3] (.ref x :: st) ah Q := wp_s i245_26 rfl rfl rfl rfl
theorem i245_27 : insAt 245 27 = some (.getfield 11401, 30) := by decide +kernel
theorem r245_27 {E : aEnv} {c : Nat} {ah : aHp} {st : List Value} {Q : Option Value → aHp → Prop} {a0 a1 a2 a3 : Option Value} {a : Nat} : WP E c 245 27 [a0, a1, a2, a3] (.ref a :: st) ah Q = WPo (oGF (hg E ah a) 11 40) (fun v => WP E c 245 30 [a0, a1, a2, a3] (v :: st) ah Q) := wp_getf i245_27
theorem i245_30 : insAt 245 30 = some (.iload 1, 31) := by decide +kernel
theorem r245_30 {E : aEnv} {c : Nat} {ah : aHp} {st : List Value} {Q : Option Value → aHp → Prop} {a0 a2 a3 : Option Value} {x : Int32} : WP E c 245 30 [a0, some (.int x), a2, a3] (st) ah Q = WP E c 245 31 [a0, some (.int x), a2, a3] (.int x :: st) ah Q := wp_s i245_30 rfl rfl rfl rfl
theorem i245_31 : insAt 245 31 = some (.i2l, 32) := by decide +kernel
theorem r245_31 {E : aEnv} {c : Nat} {ah : aHp} {st : List Value} {Q : Option Value → aHp → Prop} {a0 a1 a2 a3 : Option Value} {x : Int32} : WP E c 245 31 [a0, a1, a2, a3] (.int x :: st) ah Q = WP E c 245 32 [a0, a1, a2, a3] (.long x.toInt64 :: st) ah Q := wp_s i245_31 rfl rfl rfl rfl
theorem i245_32 : insAt 245 32 = some (.iload 2, 33) := by decide +kernel
theorem r245_32 {E : aEnv} {c : Nat} {ah : aHp} {st : List Value} {Q : Option Value → aHp → Prop} {a0 a1 a3 : Option Value} {x : Int32} : WP E c 245 32 [a0, a1, some (.int x), a3] (st) ah Q = WP E c 245 33 [a0, a1, some (.int x), a3] (.int x :: st) ah Q := wp_s i245_32 rfl rfl rfl rfl
theorem i245_33 : insAt 245 33 = some (.i2l, 34) := by decide +kernel
theorem r245_33 {E : aEnv} {c : Nat} {ah : aHp} {st : List Value} {Q : Option Value → aHp → Prop} {a0 a1 a2 a3 : Option Value} {x : Int32} : WP E c 245 33 [a0, a1, a2, a3] (.int x :: st) ah Q = WP E c 245 34 [a0, a1, a2, a3] (.long x.toInt64 :: st) ah Q := wp_s i245_33 rfl rfl rfl rfl
theorem i245_34 : insAt 245 34 = some (.invokestatic 199, 37) := by decide +kernel
theorem r245_34 {E : aEnv} {c : Nat} {ah ah1 : aHp} {r : Option Value} {st : List Value} {Q : Option Value → aHp → Prop} {a0 a1 a2 a3 : Option Value} {p0 : Int64} {p1 : Int64} {p2 : Int64} (h : EV E c 199 [.long p0, .long p1, .long p2] ah r ah1) (h3 : wds st ≤ 8) : WP E (c + 1) 245 34 [a0, a1, a2, a3] (.long p2 :: .long p1 :: .long p0 :: st) ah Q = WP E (c + 1) 245 37 [a0, a1, a2, a3] (r.toList ++ st) ah1 Q := wp_call (As := [.long p0, .long p1, .long p2]) i245_34 (fun _ => rfl) rfl mr199.1 rfl h3 (by rw [mr199.2.1]; exact Nat.le_of_ble_eq_true rfl) h
theorem i245_37 : insAt 245 37 = some (.ifCond .ne 49, 40) := by decide +kernel
theorem r245_37 {E : aEnv} {c : Nat} {ah : aHp} {st : List Value} {Q : Option Value → aHp → Prop} {a0 a1 a2 a3 : Option Value} {x : Int32} : WP E c 245 37 [a0, a1, a2, a3] (.int x :: st) ah Q = if ¬ x = 0 then WP E c 245 49 [a0, a1, a2, a3] st ah Q else WP E c 245 40 [a0, a1, a2, a3] st ah Q := wp_j i245_37 rfl rfl rfl rfl
theorem i245_40 : insAt 245 40 = some (.aload 0, 41) := by decide +kernel
theorem r245_40 {E : aEnv} {c : Nat} {ah : aHp} {st : List Value} {Q : Option Value → aHp → Prop} {a1 a2 a3 : Option Value} {x : Nat} : WP E c 245 40 [some (.ref x), a1, a2, a3] (st) ah Q = WP E c 245 41 [some (.ref x), a1, a2, a3] (.ref x :: st) ah Q := wp_s i245_40 rfl rfl rfl rfl
theorem i245_41 : insAt 245 41 = some (.iconst 4, 42) := by decide +kernel
theorem r245_41 {E : aEnv} {c : Nat} {ah : aHp} {st : List Value} {Q : Option Value → aHp → Prop} {a0 a1 a2 a3 : Option Value} : WP E c 245 41 [a0, a1, a2, a3] (st) ah Q = WP E c 245 42 [a0, a1, a2, a3] (.int (4) :: st) ah Q := wp_s i245_41 rfl rfl rfl rfl
theorem i245_42 : insAt 245 42 = some (.aload 0, 43) := by decide +kernel
theorem r245_42 {E : aEnv} {c : Nat} {ah : aHp} {st : List Value} {Q : Option Value → aHp → Prop} {a1 a2 a3 : Option Value} {x : Nat} : WP E c 245 42 [some (.ref x), a1, a2, a3] (st) ah Q = WP E c 245 43 [some (.ref x), a1, a2, a3] (.ref x :: st) ah Q := wp_s i245_42 rfl rfl rfl rfl
theorem i245_43 : insAt 245 43 = some (.getfield 11360, 46) := by decide +kernel
theorem r245_43 {E : aEnv} {c : Nat} {ah : aHp} {st : List Value} {Q : Option Value → aHp → Prop} {a0 a1 a2 a3 : Option Value} {a : Nat} : WP E c 245 43 [a0, a1, a2, a3] (.ref a :: st) ah Q = WPo (oGF (hg E ah a) 11 36) (fun v => WP E c 245 46 [a0, a1, a2, a3] (v :: st) ah Q) := wp_getf i245_43
theorem i245_46 : insAt 245 46 = some (.invokevirtual 243, 49) := by decide +kernel
theorem r245_46 {E : aEnv} {c : Nat} {ah ah1 : aHp} {r : Option Value} {st : List Value} {Q : Option Value → aHp → Prop} {a0 a1 a2 a3 : Option Value} {p0 : Nat} {p1 : Int32} {p2 : Int32} (h : EV E c 243 [.ref p0, .int p1, .int p2] ah r ah1) (h2 : oCI (hg E ah p0) = 11) (h3 : wds st ≤ 8) : WP E (c + 1) 245 46 [a0, a1, a2, a3] (.int p2 :: .int p1 :: .ref p0 :: st) ah Q = WP E (c + 1) 245 49 [a0, a1, a2, a3] (r.toList ++ st) ah1 Q := wp_call (As := [.ref p0, .int p1, .int p2]) i245_46 (fun _ => rfl) rfl mr243.1 (rcv_1 h2 mr243.2.2 (by decide)) h3 (by rw [mr243.2.1]; exact Nat.le_of_ble_eq_true rfl) h
theorem i245_49 : insAt 245 49 = some (.aload 0, 50) := by decide +kernel
theorem r245_49 {E : aEnv} {c : Nat} {ah : aHp} {st : List Value} {Q : Option Value → aHp → Prop} {a1 a2 a3 : Option Value} {x : Nat} : WP E c 245 49 [some (.ref x), a1, a2, a3] (st) ah Q = WP E c 245 50 [some (.ref x), a1, a2, a3] (.ref x :: st) ah Q := wp_s i245_49 rfl rfl rfl rfl
theorem i245_50 : insAt 245 50 = some (.getfield 11330, 53) := by decide +kernel
theorem r245_50 {E : aEnv} {c : Nat} {ah : aHp} {st : List Value} {Q : Option Value → aHp → Prop} {a0 a1 a2 a3 : Option Value} {a : Nat} : WP E c 245 50 [a0, a1, a2, a3] (.ref a :: st) ah Q = WPo (oGF (hg E ah a) 11 33) (fun v => WP E c 245 53 [a0, a1, a2, a3] (v :: st) ah Q) := wp_getf i245_50
theorem i245_53 : insAt 245 53 = some (.ifCond .le 58, 56) := by decide +kernel
theorem r245_53 {E : aEnv} {c : Nat} {ah : aHp} {st : List Value} {Q : Option Value → aHp → Prop} {a0 a1 a2 a3 : Option Value} {x : Int32} : WP E c 245 53 [a0, a1, a2, a3] (.int x :: st) ah Q = if x ≤ 0 then WP E c 245 58 [a0, a1, a2, a3] st ah Q else WP E c 245 56 [a0, a1, a2, a3] st ah Q := wp_j i245_53 rfl rfl rfl rfl
theorem i245_56 : insAt 245 56 = some (.iconst 0, 57) := by decide +kernel
theorem r245_56 {E : aEnv} {c : Nat} {ah : aHp} {st : List Value} {Q : Option Value → aHp → Prop} {a0 a1 a2 a3 : Option Value} : WP E c 245 56 [a0, a1, a2, a3] (st) ah Q = WP E c 245 57 [a0, a1, a2, a3] (.int (0) :: st) ah Q := wp_s i245_56 rfl rfl rfl rfl
theorem i245_57 : insAt 245 57 = some (.ireturn, 58) := by decide +kernel
theorem r245_57 {E : aEnv} {c : Nat} {ah : aHp} {Q : Option Value → aHp → Prop} {a0 a1 a2 a3 : Option Value} {x : Int32} : WP E c 245 57 [a0, a1, a2, a3] ([.int x]) ah Q = Q (some (.int x)) ah := wp_rt i245_57 rfl
theorem i245_58 : insAt 245 58 = some (.aload 0, 59) := by decide +kernel
theorem r245_58 {E : aEnv} {c : Nat} {ah : aHp} {st : List Value} {Q : Option Value → aHp → Prop} {a1 a2 a3 : Option Value} {x : Nat} : WP E c 245 58 [some (.ref x), a1, a2, a3] (st) ah Q = WP E c 245 59 [some (.ref x), a1, a2, a3] (.ref x :: st) ah Q := wp_s i245_58 rfl rfl rfl rfl
theorem i245_59 : insAt 245 59 = some (.getfield 11401, 62) := by decide +kernel
theorem r245_59 {E : aEnv} {c : Nat} {ah : aHp} {st : List Value} {Q : Option Value → aHp → Prop} {a0 a1 a2 a3 : Option Value} {a : Nat} : WP E c 245 59 [a0, a1, a2, a3] (.ref a :: st) ah Q = WPo (oGF (hg E ah a) 11 40) (fun v => WP E c 245 62 [a0, a1, a2, a3] (v :: st) ah Q) := wp_getf i245_59
theorem i245_62 : insAt 245 62 = some (.l2i, 63) := by decide +kernel
theorem r245_62 {E : aEnv} {c : Nat} {ah : aHp} {st : List Value} {Q : Option Value → aHp → Prop} {a0 a1 a2 a3 : Option Value} {x : Int64} : WP E c 245 62 [a0, a1, a2, a3] (.long x :: st) ah Q = WP E c 245 63 [a0, a1, a2, a3] (.int x.toInt32 :: st) ah Q := wp_s i245_62 rfl rfl rfl rfl
theorem i245_63 : insAt 245 63 = some (.istore 3, 64) := by decide +kernel
theorem r245_63 {E : aEnv} {c : Nat} {ah : aHp} {st : List Value} {Q : Option Value → aHp → Prop} {a0 a1 a2 a3 : Option Value} {x : Int32} : WP E c 245 63 [a0, a1, a2, a3] (.int x :: st) ah Q = WP E c 245 64 [a0, a1, kil a2, some (.int x)] (st) ah Q := wp_s i245_63 rfl rfl rfl rfl
theorem i245_64 : insAt 245 64 = some (.aload 0, 65) := by decide +kernel
theorem r245_64 {E : aEnv} {c : Nat} {ah : aHp} {st : List Value} {Q : Option Value → aHp → Prop} {a1 a2 a3 : Option Value} {x : Nat} : WP E c 245 64 [some (.ref x), a1, a2, a3] (st) ah Q = WP E c 245 65 [some (.ref x), a1, a2, a3] (.ref x :: st) ah Q := wp_s i245_64 rfl rfl rfl rfl
theorem i245_65 : insAt 245 65 = some (.invokevirtual 239, 68) := by decide +kernel
theorem r245_65 {E : aEnv} {c : Nat} {ah ah1 : aHp} {r : Option Value} {st : List Value} {Q : Option Value → aHp → Prop} {a0 a1 a2 a3 : Option Value} {p0 : Nat} (h : EV E c 239 [.ref p0] ah r ah1) (h2 : oCI (hg E ah p0) = 11) (h3 : wds st ≤ 8) : WP E (c + 1) 245 65 [a0, a1, a2, a3] (.ref p0 :: st) ah Q = WP E (c + 1) 245 68 [a0, a1, a2, a3] (r.toList ++ st) ah1 Q := wp_call (As := [.ref p0]) i245_65 (fun _ => rfl) rfl mr239.1 (rcv_1 h2 mr239.2.2 (by decide)) h3 (by rw [mr239.2.1]; exact Nat.le_of_ble_eq_true rfl) h
theorem i245_68 : insAt 245 68 = some (.iload 3, 69) := by decide +kernel
theorem r245_68 {E : aEnv} {c : Nat} {ah : aHp} {st : List Value} {Q : Option Value → aHp → Prop} {a0 a1 a2 : Option Value} {x : Int32} : WP E c 245 68 [a0, a1, a2, some (.int x)] (st) ah Q = WP E c 245 69 [a0, a1, a2, some (.int x)] (.int x :: st) ah Q := wp_s i245_68 rfl rfl rfl rfl
theorem i245_69 : insAt 245 69 = some (.ireturn, 70) := by decide +kernel
theorem r245_69 {E : aEnv} {c : Nat} {ah : aHp} {Q : Option Value → aHp → Prop} {a0 a1 a2 a3 : Option Value} {x : Int32} : WP E c 245 69 [a0, a1, a2, a3] ([.int x]) ah Q = Q (some (.int x)) ah := wp_rt i245_69 rfl
theorem e246 {E : aEnv} {c : Nat} {ah ahF : aHp} {r : Option Value} {p0 : Nat} (h : WP E c 246 0 [some (.ref p0)] [] ah (fun r1 x1 => r1 = r ∧ x1 = ahF)) : EV E c 246 [.ref p0] ah r ahF := EV.of (by rw [mr246.2.1]; exact h)
theorem i246_0 : insAt 246 0 = some (.aload 0, 1) := by decide +kernel
theorem r246_0 {E : aEnv} {c : Nat} {ah : aHp} {st : List Value} {Q : Option Value → aHp → Prop} {x : Nat} : WP E c 246 0 [some (.ref x)] (st) ah Q = WP E c 246 1 [some (.ref x)] (.ref x :: st) ah Q := wp_s i246_0 rfl rfl rfl rfl
theorem i246_1 : insAt 246 1 = some (.iconst 112, 3) := by decide +kernel
theorem r246_1 {E : aEnv} {c : Nat} {ah : aHp} {st : List Value} {Q : Option Value → aHp → Prop} {a0 : Option Value} : WP E c 246 1 [a0] (st) ah Q = WP E c 246 3 [a0] (.int (112) :: st) ah Q := wp_s i246_1 rfl rfl rfl rfl
theorem i246_3 : insAt 246 3 = some (.iconst 117, 5) := by decide +kernel
theorem r246_3 {E : aEnv} {c : Nat} {ah : aHp} {st : List Value} {Q : Option Value → aHp → Prop} {a0 : Option Value} : WP E c 246 3 [a0] (st) ah Q = WP E c 246 5 [a0] (.int (117) :: st) ah Q := wp_s i246_3 rfl rfl rfl rfl
theorem i246_5 : insAt 246 5 = some (.iconst 116, 7) := by decide +kernel
theorem r246_5 {E : aEnv} {c : Nat} {ah : aHp} {st : List Value} {Q : Option Value → aHp → Prop} {a0 : Option Value} : WP E c 246 5 [a0] (st) ah Q = WP E c 246 7 [a0] (.int (116) :: st) ah Q := wp_s i246_5 rfl rfl rfl rfl
theorem i246_7 : insAt 246 7 = some (.iconst 0, 8) := by decide +kernel
theorem r246_7 {E : aEnv} {c : Nat} {ah : aHp} {st : List Value} {Q : Option Value → aHp → Prop} {a0 : Option Value} : WP E c 246 7 [a0] (st) ah Q = WP E c 246 8 [a0] (.int (0) :: st) ah Q := wp_s i246_7 rfl rfl rfl rfl
theorem i246_8 : insAt 246 8 = some (.iconst 0, 9) := by decide +kernel
theorem r246_8 {E : aEnv} {c : Nat} {ah : aHp} {st : List Value} {Q : Option Value → aHp → Prop} {a0 : Option Value} : WP E c 246 8 [a0] (st) ah Q = WP E c 246 9 [a0] (.int (0) :: st) ah Q := wp_s i246_8 rfl rfl rfl rfl
theorem i246_9 : insAt 246 9 = some (.invokestatic 240, 12) := by decide +kernel
theorem r246_9 {E : aEnv} {c : Nat} {ah ah1 : aHp} {r : Option Value} {st : List Value} {Q : Option Value → aHp → Prop} {a0 : Option Value} {p0 : Int32} {p1 : Int32} {p2 : Int32} {p3 : Int32} {p4 : Int32} (h : EV E c 240 [.int p0, .int p1, .int p2, .int p3, .int p4] ah r ah1) (h3 : wds st ≤ 8) : WP E (c + 1) 246 9 [a0] (.int p4 :: .int p3 :: .int p2 :: .int p1 :: .int p0 :: st) ah Q = WP E (c + 1) 246 12 [a0] (r.toList ++ st) ah1 Q := wp_call (As := [.int p0, .int p1, .int p2, .int p3, .int p4]) i246_9 (fun _ => rfl) rfl mr240.1 rfl h3 (by rw [mr240.2.1]; exact Nat.le_of_ble_eq_true rfl) h
theorem i246_12 : insAt 246 12 = some (.invokevirtual 241, 15) := by decide +kernel
theorem r246_12 {E : aEnv} {c : Nat} {ah ah1 : aHp} {r : Option Value} {st : List Value} {Q : Option Value → aHp → Prop} {a0 : Option Value} {p0 : Nat} {p1 : Int64} (h : EV E c 241 [.ref p0, .long p1] ah r ah1) (h2 : oCI (hg E ah p0) = 11) (h3 : wds st ≤ 8) : WP E (c + 1) 246 12 [a0] (.long p1 :: .ref p0 :: st) ah Q = WP E (c + 1) 246 15 [a0] (r.toList ++ st) ah1 Q := wp_call (As := [.ref p0, .long p1]) i246_12 (fun _ => rfl) rfl mr241.1 (rcv_1 h2 mr241.2.2 (by decide)) h3 (by rw [mr241.2.1]; exact Nat.le_of_ble_eq_true rfl) h
theorem i246_15 : insAt 246 15 = some (.ifCond .eq 20, 18) := by decide +kernel
theorem r246_15 {E : aEnv} {c : Nat} {ah : aHp} {st : List Value} {Q : Option Value → aHp → Prop} {a0 : Option Value} {x : Int32} : WP E c 246 15 [a0] (.int x :: st) ah Q = if x = 0 then WP E c 246 20 [a0] st ah Q else WP E c 246 18 [a0] st ah Q := wp_j i246_15 rfl rfl rfl rfl
theorem i246_18 : insAt 246 18 = some (.iconst 0, 19) := by decide +kernel
theorem r246_18 {E : aEnv} {c : Nat} {ah : aHp} {st : List Value} {Q : Option Value → aHp → Prop} {a0 : Option Value} : WP E c 246 18 [a0] (st) ah Q = WP E c 246 19 [a0] (.int (0) :: st) ah Q := wp_s i246_18 rfl rfl rfl rfl
theorem i246_19 : insAt 246 19 = some (.ireturn, 20) := by decide +kernel
theorem r246_19 {E : aEnv} {c : Nat} {ah : aHp} {Q : Option Value → aHp → Prop} {a0 : Option Value} {x : Int32} : WP E c 246 19 [a0] ([.int x]) ah Q = Q (some (.int x)) ah := wp_rt i246_19 rfl
theorem i246_20 : insAt 246 20 = some (.aload 0, 21) := by decide +kernel
theorem r246_20 {E : aEnv} {c : Nat} {ah : aHp} {st : List Value} {Q : Option Value → aHp → Prop} {x : Nat} : WP E c 246 20 [some (.ref x)] (st) ah Q = WP E c 246 21 [some (.ref x)] (.ref x :: st) ah Q := wp_s i246_20 rfl rfl rfl rfl
theorem i246_21 : insAt 246 21 = some (.iconst 97, 23) := by decide +kernel
theorem r246_21 {E : aEnv} {c : Nat} {ah : aHp} {st : List Value} {Q : Option Value → aHp → Prop} {a0 : Option Value} : WP E c 246 21 [a0] (st) ah Q = WP E c 246 23 [a0] (.int (97) :: st) ah Q := wp_s i246_21 rfl rfl rfl rfl
theorem i246_23 : insAt 246 23 = some (.iconst 100, 25) := by decide +kernel
theorem r246_23 {E : aEnv} {c : Nat} {ah : aHp} {st : List Value} {Q : Option Value → aHp → Prop} {a0 : Option Value} : WP E c 246 23 [a0] (st) ah Q = WP E c 246 25 [a0] (.int (100) :: st) ah Q := wp_s i246_23 rfl rfl rfl rfl
theorem i246_25 : insAt 246 25 = some (.iconst 100, 27) := by decide +kernel
theorem r246_25 {E : aEnv} {c : Nat} {ah : aHp} {st : List Value} {Q : Option Value → aHp → Prop} {a0 : Option Value} : WP E c 246 25 [a0] (st) ah Q = WP E c 246 27 [a0] (.int (100) :: st) ah Q := wp_s i246_25 rfl rfl rfl rfl
theorem i246_27 : insAt 246 27 = some (.iconst 0, 28) := by decide +kernel
theorem r246_27 {E : aEnv} {c : Nat} {ah : aHp} {st : List Value} {Q : Option Value → aHp → Prop} {a0 : Option Value} : WP E c 246 27 [a0] (st) ah Q = WP E c 246 28 [a0] (.int (0) :: st) ah Q := wp_s i246_27 rfl rfl rfl rfl
theorem i246_28 : insAt 246 28 = some (.iconst 0, 29) := by decide +kernel
theorem r246_28 {E : aEnv} {c : Nat} {ah : aHp} {st : List Value} {Q : Option Value → aHp → Prop} {a0 : Option Value} : WP E c 246 28 [a0] (st) ah Q = WP E c 246 29 [a0] (.int (0) :: st) ah Q := wp_s i246_28 rfl rfl rfl rfl
theorem i246_29 : insAt 246 29 = some (.invokestatic 240, 32) := by decide +kernel
theorem r246_29 {E : aEnv} {c : Nat} {ah ah1 : aHp} {r : Option Value} {st : List Value} {Q : Option Value → aHp → Prop} {a0 : Option Value} {p0 : Int32} {p1 : Int32} {p2 : Int32} {p3 : Int32} {p4 : Int32} (h : EV E c 240 [.int p0, .int p1, .int p2, .int p3, .int p4] ah r ah1) (h3 : wds st ≤ 8) : WP E (c + 1) 246 29 [a0] (.int p4 :: .int p3 :: .int p2 :: .int p1 :: .int p0 :: st) ah Q = WP E (c + 1) 246 32 [a0] (r.toList ++ st) ah1 Q := wp_call (As := [.int p0, .int p1, .int p2, .int p3, .int p4]) i246_29 (fun _ => rfl) rfl mr240.1 rfl h3 (by rw [mr240.2.1]; exact Nat.le_of_ble_eq_true rfl) h
theorem i246_32 : insAt 246 32 = some (.invokevirtual 241, 35) := by decide +kernel
theorem r246_32 {E : aEnv} {c : Nat} {ah ah1 : aHp} {r : Option Value} {st : List Value} {Q : Option Value → aHp → Prop} {a0 : Option Value} {p0 : Nat} {p1 : Int64} (h : EV E c 241 [.ref p0, .long p1] ah r ah1) (h2 : oCI (hg E ah p0) = 11) (h3 : wds st ≤ 8) : WP E (c + 1) 246 32 [a0] (.long p1 :: .ref p0 :: st) ah Q = WP E (c + 1) 246 35 [a0] (r.toList ++ st) ah1 Q := wp_call (As := [.ref p0, .long p1]) i246_32 (fun _ => rfl) rfl mr241.1 (rcv_1 h2 mr241.2.2 (by decide)) h3 (by rw [mr241.2.1]; exact Nat.le_of_ble_eq_true rfl) h
theorem i246_35 : insAt 246 35 = some (.ifCond .eq 40, 38) := by decide +kernel
theorem r246_35 {E : aEnv} {c : Nat} {ah : aHp} {st : List Value} {Q : Option Value → aHp → Prop} {a0 : Option Value} {x : Int32} : WP E c 246 35 [a0] (.int x :: st) ah Q = if x = 0 then WP E c 246 40 [a0] st ah Q else WP E c 246 38 [a0] st ah Q := wp_j i246_35 rfl rfl rfl rfl
theorem i246_38 : insAt 246 38 = some (.iconst 1, 39) := by decide +kernel
theorem r246_38 {E : aEnv} {c : Nat} {ah : aHp} {st : List Value} {Q : Option Value → aHp → Prop} {a0 : Option Value} : WP E c 246 38 [a0] (st) ah Q = WP E c 246 39 [a0] (.int (1) :: st) ah Q := wp_s i246_38 rfl rfl rfl rfl
theorem i246_39 : insAt 246 39 = some (.ireturn, 40) := by decide +kernel
theorem r246_39 {E : aEnv} {c : Nat} {ah : aHp} {Q : Option Value → aHp → Prop} {a0 : Option Value} {x : Int32} : WP E c 246 39 [a0] ([.int x]) ah Q = Q (some (.int x)) ah := wp_rt i246_39 rfl
theorem i246_40 : insAt 246 40 = some (.aload 0, 41) := by decide +kernel
theorem r246_40 {E : aEnv} {c : Nat} {ah : aHp} {st : List Value} {Q : Option Value → aHp → Prop} {x : Nat} : WP E c 246 40 [some (.ref x)] (st) ah Q = WP E c 246 41 [some (.ref x)] (.ref x :: st) ah Q := wp_s i246_40 rfl rfl rfl rfl
theorem i246_41 : insAt 246 41 = some (.iconst 115, 43) := by decide +kernel
theorem r246_41 {E : aEnv} {c : Nat} {ah : aHp} {st : List Value} {Q : Option Value → aHp → Prop} {a0 : Option Value} : WP E c 246 41 [a0] (st) ah Q = WP E c 246 43 [a0] (.int (115) :: st) ah Q := wp_s i246_41 rfl rfl rfl rfl
theorem i246_43 : insAt 246 43 = some (.iconst 117, 45) := by decide +kernel
theorem r246_43 {E : aEnv} {c : Nat} {ah : aHp} {st : List Value} {Q : Option Value → aHp → Prop} {a0 : Option Value} : WP E c 246 43 [a0] (st) ah Q = WP E c 246 45 [a0] (.int (117) :: st) ah Q := wp_s i246_43 rfl rfl rfl rfl
theorem i246_45 : insAt 246 45 = some (.iconst 98, 47) := by decide +kernel
theorem r246_45 {E : aEnv} {c : Nat} {ah : aHp} {st : List Value} {Q : Option Value → aHp → Prop} {a0 : Option Value} : WP E c 246 45 [a0] (st) ah Q = WP E c 246 47 [a0] (.int (98) :: st) ah Q := wp_s i246_45 rfl rfl rfl rfl
theorem i246_47 : insAt 246 47 = some (.iconst 0, 48) := by decide +kernel
theorem r246_47 {E : aEnv} {c : Nat} {ah : aHp} {st : List Value} {Q : Option Value → aHp → Prop} {a0 : Option Value} : WP E c 246 47 [a0] (st) ah Q = WP E c 246 48 [a0] (.int (0) :: st) ah Q := wp_s i246_47 rfl rfl rfl rfl
theorem i246_48 : insAt 246 48 = some (.iconst 0, 49) := by decide +kernel
theorem r246_48 {E : aEnv} {c : Nat} {ah : aHp} {st : List Value} {Q : Option Value → aHp → Prop} {a0 : Option Value} : WP E c 246 48 [a0] (st) ah Q = WP E c 246 49 [a0] (.int (0) :: st) ah Q := wp_s i246_48 rfl rfl rfl rfl
theorem i246_49 : insAt 246 49 = some (.invokestatic 240, 52) := by decide +kernel
theorem r246_49 {E : aEnv} {c : Nat} {ah ah1 : aHp} {r : Option Value} {st : List Value} {Q : Option Value → aHp → Prop} {a0 : Option Value} {p0 : Int32} {p1 : Int32} {p2 : Int32} {p3 : Int32} {p4 : Int32} (h : EV E c 240 [.int p0, .int p1, .int p2, .int p3, .int p4] ah r ah1) (h3 : wds st ≤ 8) : WP E (c + 1) 246 49 [a0] (.int p4 :: .int p3 :: .int p2 :: .int p1 :: .int p0 :: st) ah Q = WP E (c + 1) 246 52 [a0] (r.toList ++ st) ah1 Q := wp_call (As := [.int p0, .int p1, .int p2, .int p3, .int p4]) i246_49 (fun _ => rfl) rfl mr240.1 rfl h3 (by rw [mr240.2.1]; exact Nat.le_of_ble_eq_true rfl) h
theorem i246_52 : insAt 246 52 = some (.invokevirtual 241, 55) := by decide +kernel
theorem r246_52 {E : aEnv} {c : Nat} {ah ah1 : aHp} {r : Option Value} {st : List Value} {Q : Option Value → aHp → Prop} {a0 : Option Value} {p0 : Nat} {p1 : Int64} (h : EV E c 241 [.ref p0, .long p1] ah r ah1) (h2 : oCI (hg E ah p0) = 11) (h3 : wds st ≤ 8) : WP E (c + 1) 246 52 [a0] (.long p1 :: .ref p0 :: st) ah Q = WP E (c + 1) 246 55 [a0] (r.toList ++ st) ah1 Q := wp_call (As := [.ref p0, .long p1]) i246_52 (fun _ => rfl) rfl mr241.1 (rcv_1 h2 mr241.2.2 (by decide)) h3 (by rw [mr241.2.1]; exact Nat.le_of_ble_eq_true rfl) h
theorem i246_55 : insAt 246 55 = some (.ifCond .eq 60, 58) := by decide +kernel
theorem r246_55 {E : aEnv} {c : Nat} {ah : aHp} {st : List Value} {Q : Option Value → aHp → Prop} {a0 : Option Value} {x : Int32} : WP E c 246 55 [a0] (.int x :: st) ah Q = if x = 0 then WP E c 246 60 [a0] st ah Q else WP E c 246 58 [a0] st ah Q := wp_j i246_55 rfl rfl rfl rfl
theorem i246_58 : insAt 246 58 = some (.iconst 2, 59) := by decide +kernel
theorem r246_58 {E : aEnv} {c : Nat} {ah : aHp} {st : List Value} {Q : Option Value → aHp → Prop} {a0 : Option Value} : WP E c 246 58 [a0] (st) ah Q = WP E c 246 59 [a0] (.int (2) :: st) ah Q := wp_s i246_58 rfl rfl rfl rfl
theorem i246_59 : insAt 246 59 = some (.ireturn, 60) := by decide +kernel
theorem r246_59 {E : aEnv} {c : Nat} {ah : aHp} {Q : Option Value → aHp → Prop} {a0 : Option Value} {x : Int32} : WP E c 246 59 [a0] ([.int x]) ah Q = Q (some (.int x)) ah := wp_rt i246_59 rfl
theorem i246_60 : insAt 246 60 = some (.aload 0, 61) := by decide +kernel
theorem r246_60 {E : aEnv} {c : Nat} {ah : aHp} {st : List Value} {Q : Option Value → aHp → Prop} {x : Nat} : WP E c 246 60 [some (.ref x)] (st) ah Q = WP E c 246 61 [some (.ref x)] (.ref x :: st) ah Q := wp_s i246_60 rfl rfl rfl rfl
theorem i246_61 : insAt 246 61 = some (.iconst 109, 63) := by decide +kernel
theorem r246_61 {E : aEnv} {c : Nat} {ah : aHp} {st : List Value} {Q : Option Value → aHp → Prop} {a0 : Option Value} : WP E c 246 61 [a0] (st) ah Q = WP E c 246 63 [a0] (.int (109) :: st) ah Q := wp_s i246_61 rfl rfl rfl rfl
theorem i246_63 : insAt 246 63 = some (.iconst 117, 65) := by decide +kernel
theorem r246_63 {E : aEnv} {c : Nat} {ah : aHp} {st : List Value} {Q : Option Value → aHp → Prop} {a0 : Option Value} : WP E c 246 63 [a0] (st) ah Q = WP E c 246 65 [a0] (.int (117) :: st) ah Q := wp_s i246_63 rfl rfl rfl rfl
theorem i246_65 : insAt 246 65 = some (.iconst 108, 67) := by decide +kernel
theorem r246_65 {E : aEnv} {c : Nat} {ah : aHp} {st : List Value} {Q : Option Value → aHp → Prop} {a0 : Option Value} : WP E c 246 65 [a0] (st) ah Q = WP E c 246 67 [a0] (.int (108) :: st) ah Q := wp_s i246_65 rfl rfl rfl rfl
theorem i246_67 : insAt 246 67 = some (.iconst 0, 68) := by decide +kernel
theorem r246_67 {E : aEnv} {c : Nat} {ah : aHp} {st : List Value} {Q : Option Value → aHp → Prop} {a0 : Option Value} : WP E c 246 67 [a0] (st) ah Q = WP E c 246 68 [a0] (.int (0) :: st) ah Q := wp_s i246_67 rfl rfl rfl rfl
theorem i246_68 : insAt 246 68 = some (.iconst 0, 69) := by decide +kernel
theorem r246_68 {E : aEnv} {c : Nat} {ah : aHp} {st : List Value} {Q : Option Value → aHp → Prop} {a0 : Option Value} : WP E c 246 68 [a0] (st) ah Q = WP E c 246 69 [a0] (.int (0) :: st) ah Q := wp_s i246_68 rfl rfl rfl rfl
theorem i246_69 : insAt 246 69 = some (.invokestatic 240, 72) := by decide +kernel
theorem r246_69 {E : aEnv} {c : Nat} {ah ah1 : aHp} {r : Option Value} {st : List Value} {Q : Option Value → aHp → Prop} {a0 : Option Value} {p0 : Int32} {p1 : Int32} {p2 : Int32} {p3 : Int32} {p4 : Int32} (h : EV E c 240 [.int p0, .int p1, .int p2, .int p3, .int p4] ah r ah1) (h3 : wds st ≤ 8) : WP E (c + 1) 246 69 [a0] (.int p4 :: .int p3 :: .int p2 :: .int p1 :: .int p0 :: st) ah Q = WP E (c + 1) 246 72 [a0] (r.toList ++ st) ah1 Q := wp_call (As := [.int p0, .int p1, .int p2, .int p3, .int p4]) i246_69 (fun _ => rfl) rfl mr240.1 rfl h3 (by rw [mr240.2.1]; exact Nat.le_of_ble_eq_true rfl) h
theorem i246_72 : insAt 246 72 = some (.invokevirtual 241, 75) := by decide +kernel
theorem r246_72 {E : aEnv} {c : Nat} {ah ah1 : aHp} {r : Option Value} {st : List Value} {Q : Option Value → aHp → Prop} {a0 : Option Value} {p0 : Nat} {p1 : Int64} (h : EV E c 241 [.ref p0, .long p1] ah r ah1) (h2 : oCI (hg E ah p0) = 11) (h3 : wds st ≤ 8) : WP E (c + 1) 246 72 [a0] (.long p1 :: .ref p0 :: st) ah Q = WP E (c + 1) 246 75 [a0] (r.toList ++ st) ah1 Q := wp_call (As := [.ref p0, .long p1]) i246_72 (fun _ => rfl) rfl mr241.1 (rcv_1 h2 mr241.2.2 (by decide)) h3 (by rw [mr241.2.1]; exact Nat.le_of_ble_eq_true rfl) h
theorem i246_75 : insAt 246 75 = some (.ifCond .eq 80, 78) := by decide +kernel
theorem r246_75 {E : aEnv} {c : Nat} {ah : aHp} {st : List Value} {Q : Option Value → aHp → Prop} {a0 : Option Value} {x : Int32} : WP E c 246 75 [a0] (.int x :: st) ah Q = if x = 0 then WP E c 246 80 [a0] st ah Q else WP E c 246 78 [a0] st ah Q := wp_j i246_75 rfl rfl rfl rfl
theorem i246_78 : insAt 246 78 = some (.iconst 3, 79) := by decide +kernel
theorem r246_78 {E : aEnv} {c : Nat} {ah : aHp} {st : List Value} {Q : Option Value → aHp → Prop} {a0 : Option Value} : WP E c 246 78 [a0] (st) ah Q = WP E c 246 79 [a0] (.int (3) :: st) ah Q := wp_s i246_78 rfl rfl rfl rfl
theorem i246_79 : insAt 246 79 = some (.ireturn, 80) := by decide +kernel
theorem r246_79 {E : aEnv} {c : Nat} {ah : aHp} {Q : Option Value → aHp → Prop} {a0 : Option Value} {x : Int32} : WP E c 246 79 [a0] ([.int x]) ah Q = Q (some (.int x)) ah := wp_rt i246_79 rfl
theorem i246_80 : insAt 246 80 = some (.aload 0, 81) := by decide +kernel
theorem r246_80 {E : aEnv} {c : Nat} {ah : aHp} {st : List Value} {Q : Option Value → aHp → Prop} {x : Nat} : WP E c 246 80 [some (.ref x)] (st) ah Q = WP E c 246 81 [some (.ref x)] (.ref x :: st) ah Q := wp_s i246_80 rfl rfl rfl rfl
theorem i246_81 : insAt 246 81 = some (.iconst 100, 83) := by decide +kernel
theorem r246_81 {E : aEnv} {c : Nat} {ah : aHp} {st : List Value} {Q : Option Value → aHp → Prop} {a0 : Option Value} : WP E c 246 81 [a0] (st) ah Q = WP E c 246 83 [a0] (.int (100) :: st) ah Q := wp_s i246_81 rfl rfl rfl rfl
theorem i246_83 : insAt 246 83 = some (.iconst 105, 85) := by decide +kernel
theorem r246_83 {E : aEnv} {c : Nat} {ah : aHp} {st : List Value} {Q : Option Value → aHp → Prop} {a0 : Option Value} : WP E c 246 83 [a0] (st) ah Q = WP E c 246 85 [a0] (.int (105) :: st) ah Q := wp_s i246_83 rfl rfl rfl rfl
theorem i246_85 : insAt 246 85 = some (.iconst 118, 87) := by decide +kernel
theorem r246_85 {E : aEnv} {c : Nat} {ah : aHp} {st : List Value} {Q : Option Value → aHp → Prop} {a0 : Option Value} : WP E c 246 85 [a0] (st) ah Q = WP E c 246 87 [a0] (.int (118) :: st) ah Q := wp_s i246_85 rfl rfl rfl rfl
theorem i246_87 : insAt 246 87 = some (.iconst 0, 88) := by decide +kernel
theorem r246_87 {E : aEnv} {c : Nat} {ah : aHp} {st : List Value} {Q : Option Value → aHp → Prop} {a0 : Option Value} : WP E c 246 87 [a0] (st) ah Q = WP E c 246 88 [a0] (.int (0) :: st) ah Q := wp_s i246_87 rfl rfl rfl rfl
theorem i246_88 : insAt 246 88 = some (.iconst 0, 89) := by decide +kernel
theorem r246_88 {E : aEnv} {c : Nat} {ah : aHp} {st : List Value} {Q : Option Value → aHp → Prop} {a0 : Option Value} : WP E c 246 88 [a0] (st) ah Q = WP E c 246 89 [a0] (.int (0) :: st) ah Q := wp_s i246_88 rfl rfl rfl rfl
theorem i246_89 : insAt 246 89 = some (.invokestatic 240, 92) := by decide +kernel
theorem r246_89 {E : aEnv} {c : Nat} {ah ah1 : aHp} {r : Option Value} {st : List Value} {Q : Option Value → aHp → Prop} {a0 : Option Value} {p0 : Int32} {p1 : Int32} {p2 : Int32} {p3 : Int32} {p4 : Int32} (h : EV E c 240 [.int p0, .int p1, .int p2, .int p3, .int p4] ah r ah1) (h3 : wds st ≤ 8) : WP E (c + 1) 246 89 [a0] (.int p4 :: .int p3 :: .int p2 :: .int p1 :: .int p0 :: st) ah Q = WP E (c + 1) 246 92 [a0] (r.toList ++ st) ah1 Q := wp_call (As := [.int p0, .int p1, .int p2, .int p3, .int p4]) i246_89 (fun _ => rfl) rfl mr240.1 rfl h3 (by rw [mr240.2.1]; exact Nat.le_of_ble_eq_true rfl) h
theorem i246_92 : insAt 246 92 = some (.invokevirtual 241, 95) := by decide +kernel
theorem r246_92 {E : aEnv} {c : Nat} {ah ah1 : aHp} {r : Option Value} {st : List Value} {Q : Option Value → aHp → Prop} {a0 : Option Value} {p0 : Nat} {p1 : Int64} (h : EV E c 241 [.ref p0, .long p1] ah r ah1) (h2 : oCI (hg E ah p0) = 11) (h3 : wds st ≤ 8) : WP E (c + 1) 246 92 [a0] (.long p1 :: .ref p0 :: st) ah Q = WP E (c + 1) 246 95 [a0] (r.toList ++ st) ah1 Q := wp_call (As := [.ref p0, .long p1]) i246_92 (fun _ => rfl) rfl mr241.1 (rcv_1 h2 mr241.2.2 (by decide)) h3 (by rw [mr241.2.1]; exact Nat.le_of_ble_eq_true rfl) h
theorem i246_95 : insAt 246 95 = some (.ifCond .eq 100, 98) := by decide +kernel
theorem r246_95 {E : aEnv} {c : Nat} {ah : aHp} {st : List Value} {Q : Option Value → aHp → Prop} {a0 : Option Value} {x : Int32} : WP E c 246 95 [a0] (.int x :: st) ah Q = if x = 0 then WP E c 246 100 [a0] st ah Q else WP E c 246 98 [a0] st ah Q := wp_j i246_95 rfl rfl rfl rfl
theorem i246_98 : insAt 246 98 = some (.iconst 4, 99) := by decide +kernel
theorem r246_98 {E : aEnv} {c : Nat} {ah : aHp} {st : List Value} {Q : Option Value → aHp → Prop} {a0 : Option Value} : WP E c 246 98 [a0] (st) ah Q = WP E c 246 99 [a0] (.int (4) :: st) ah Q := wp_s i246_98 rfl rfl rfl rfl
theorem i246_99 : insAt 246 99 = some (.ireturn, 100) := by decide +kernel
theorem r246_99 {E : aEnv} {c : Nat} {ah : aHp} {Q : Option Value → aHp → Prop} {a0 : Option Value} {x : Int32} : WP E c 246 99 [a0] ([.int x]) ah Q = Q (some (.int x)) ah := wp_rt i246_99 rfl
theorem i246_100 : insAt 246 100 = some (.aload 0, 101) := by decide +kernel
theorem r246_100 {E : aEnv} {c : Nat} {ah : aHp} {st : List Value} {Q : Option Value → aHp → Prop} {x : Nat} : WP E c 246 100 [some (.ref x)] (st) ah Q = WP E c 246 101 [some (.ref x)] (.ref x :: st) ah Q := wp_s i246_100 rfl rfl rfl rfl
theorem i246_101 : insAt 246 101 = some (.iconst 112, 103) := by decide +kernel
theorem r246_101 {E : aEnv} {c : Nat} {ah : aHp} {st : List Value} {Q : Option Value → aHp → Prop} {a0 : Option Value} : WP E c 246 101 [a0] (st) ah Q = WP E c 246 103 [a0] (.int (112) :: st) ah Q := wp_s i246_101 rfl rfl rfl rfl
theorem i246_103 : insAt 246 103 = some (.iconst 114, 105) := by decide +kernel
theorem r246_103 {E : aEnv} {c : Nat} {ah : aHp} {st : List Value} {Q : Option Value → aHp → Prop} {a0 : Option Value} : WP E c 246 103 [a0] (st) ah Q = WP E c 246 105 [a0] (.int (114) :: st) ah Q := wp_s i246_103 rfl rfl rfl rfl
theorem i246_105 : insAt 246 105 = some (.iconst 105, 107) := by decide +kernel
theorem r246_105 {E : aEnv} {c : Nat} {ah : aHp} {st : List Value} {Q : Option Value → aHp → Prop} {a0 : Option Value} : WP E c 246 105 [a0] (st) ah Q = WP E c 246 107 [a0] (.int (105) :: st) ah Q := wp_s i246_105 rfl rfl rfl rfl
theorem i246_107 : insAt 246 107 = some (.iconst 110, 109) := by decide +kernel
theorem r246_107 {E : aEnv} {c : Nat} {ah : aHp} {st : List Value} {Q : Option Value → aHp → Prop} {a0 : Option Value} : WP E c 246 107 [a0] (st) ah Q = WP E c 246 109 [a0] (.int (110) :: st) ah Q := wp_s i246_107 rfl rfl rfl rfl
theorem i246_109 : insAt 246 109 = some (.iconst 116, 111) := by decide +kernel
theorem r246_109 {E : aEnv} {c : Nat} {ah : aHp} {st : List Value} {Q : Option Value → aHp → Prop} {a0 : Option Value} : WP E c 246 109 [a0] (st) ah Q = WP E c 246 111 [a0] (.int (116) :: st) ah Q := wp_s i246_109 rfl rfl rfl rfl
theorem i246_111 : insAt 246 111 = some (.invokestatic 240, 114) := by decide +kernel
theorem r246_111 {E : aEnv} {c : Nat} {ah ah1 : aHp} {r : Option Value} {st : List Value} {Q : Option Value → aHp → Prop} {a0 : Option Value} {p0 : Int32} {p1 : Int32} {p2 : Int32} {p3 : Int32} {p4 : Int32} (h : EV E c 240 [.int p0, .int p1, .int p2, .int p3, .int p4] ah r ah1) (h3 : wds st ≤ 8) : WP E (c + 1) 246 111 [a0] (.int p4 :: .int p3 :: .int p2 :: .int p1 :: .int p0 :: st) ah Q = WP E (c + 1) 246 114 [a0] (r.toList ++ st) ah1 Q := wp_call (As := [.int p0, .int p1, .int p2, .int p3, .int p4]) i246_111 (fun _ => rfl) rfl mr240.1 rfl h3 (by rw [mr240.2.1]; exact Nat.le_of_ble_eq_true rfl) h
theorem i246_114 : insAt 246 114 = some (.invokevirtual 241, 117) := by decide +kernel
theorem r246_114 {E : aEnv} {c : Nat} {ah ah1 : aHp} {r : Option Value} {st : List Value} {Q : Option Value → aHp → Prop} {a0 : Option Value} {p0 : Nat} {p1 : Int64} (h : EV E c 241 [.ref p0, .long p1] ah r ah1) (h2 : oCI (hg E ah p0) = 11) (h3 : wds st ≤ 8) : WP E (c + 1) 246 114 [a0] (.long p1 :: .ref p0 :: st) ah Q = WP E (c + 1) 246 117 [a0] (r.toList ++ st) ah1 Q := wp_call (As := [.ref p0, .long p1]) i246_114 (fun _ => rfl) rfl mr241.1 (rcv_1 h2 mr241.2.2 (by decide)) h3 (by rw [mr241.2.1]; exact Nat.le_of_ble_eq_true rfl) h
theorem i246_117 : insAt 246 117 = some (.ifCond .eq 122, 120) := by decide +kernel
theorem r246_117 {E : aEnv} {c : Nat} {ah : aHp} {st : List Value} {Q : Option Value → aHp → Prop} {a0 : Option Value} {x : Int32} : WP E c 246 117 [a0] (.int x :: st) ah Q = if x = 0 then WP E c 246 122 [a0] st ah Q else WP E c 246 120 [a0] st ah Q := wp_j i246_117 rfl rfl rfl rfl
theorem i246_120 : insAt 246 120 = some (.iconst 5, 121) := by decide +kernel
theorem r246_120 {E : aEnv} {c : Nat} {ah : aHp} {st : List Value} {Q : Option Value → aHp → Prop} {a0 : Option Value} : WP E c 246 120 [a0] (st) ah Q = WP E c 246 121 [a0] (.int (5) :: st) ah Q := wp_s i246_120 rfl rfl rfl rfl
theorem i246_121 : insAt 246 121 = some (.ireturn, 122) := by decide +kernel
theorem r246_121 {E : aEnv} {c : Nat} {ah : aHp} {Q : Option Value → aHp → Prop} {a0 : Option Value} {x : Int32} : WP E c 246 121 [a0] ([.int x]) ah Q = Q (some (.int x)) ah := wp_rt i246_121 rfl
theorem i246_122 : insAt 246 122 = some (.aload 0, 123) := by decide +kernel
theorem r246_122 {E : aEnv} {c : Nat} {ah : aHp} {st : List Value} {Q : Option Value → aHp → Prop} {x : Nat} : WP E c 246 122 [some (.ref x)] (st) ah Q = WP E c 246 123 [some (.ref x)] (.ref x :: st) ah Q := wp_s i246_122 rfl rfl rfl rfl
theorem i246_123 : insAt 246 123 = some (.iconst 98, 125) := by decide +kernel
theorem r246_123 {E : aEnv} {c : Nat} {ah : aHp} {st : List Value} {Q : Option Value → aHp → Prop} {a0 : Option Value} : WP E c 246 123 [a0] (st) ah Q = WP E c 246 125 [a0] (.int (98) :: st) ah Q := wp_s i246_123 rfl rfl rfl rfl
theorem i246_125 : insAt 246 125 = some (.iconst 97, 127) := by decide +kernel
theorem r246_125 {E : aEnv} {c : Nat} {ah : aHp} {st : List Value} {Q : Option Value → aHp → Prop} {a0 : Option Value} : WP E c 246 125 [a0] (st) ah Q = WP E c 246 127 [a0] (.int (97) :: st) ah Q := wp_s i246_125 rfl rfl rfl rfl
theorem i246_127 : insAt 246 127 = some (.iconst 99, 129) := by decide +kernel
theorem r246_127 {E : aEnv} {c : Nat} {ah : aHp} {st : List Value} {Q : Option Value → aHp → Prop} {a0 : Option Value} : WP E c 246 127 [a0] (st) ah Q = WP E c 246 129 [a0] (.int (99) :: st) ah Q := wp_s i246_127 rfl rfl rfl rfl
theorem i246_129 : insAt 246 129 = some (.iconst 107, 131) := by decide +kernel
theorem r246_129 {E : aEnv} {c : Nat} {ah : aHp} {st : List Value} {Q : Option Value → aHp → Prop} {a0 : Option Value} : WP E c 246 129 [a0] (st) ah Q = WP E c 246 131 [a0] (.int (107) :: st) ah Q := wp_s i246_129 rfl rfl rfl rfl
theorem i246_131 : insAt 246 131 = some (.iconst 0, 132) := by decide +kernel
theorem r246_131 {E : aEnv} {c : Nat} {ah : aHp} {st : List Value} {Q : Option Value → aHp → Prop} {a0 : Option Value} : WP E c 246 131 [a0] (st) ah Q = WP E c 246 132 [a0] (.int (0) :: st) ah Q := wp_s i246_131 rfl rfl rfl rfl
theorem i246_132 : insAt 246 132 = some (.invokestatic 240, 135) := by decide +kernel
theorem r246_132 {E : aEnv} {c : Nat} {ah ah1 : aHp} {r : Option Value} {st : List Value} {Q : Option Value → aHp → Prop} {a0 : Option Value} {p0 : Int32} {p1 : Int32} {p2 : Int32} {p3 : Int32} {p4 : Int32} (h : EV E c 240 [.int p0, .int p1, .int p2, .int p3, .int p4] ah r ah1) (h3 : wds st ≤ 8) : WP E (c + 1) 246 132 [a0] (.int p4 :: .int p3 :: .int p2 :: .int p1 :: .int p0 :: st) ah Q = WP E (c + 1) 246 135 [a0] (r.toList ++ st) ah1 Q := wp_call (As := [.int p0, .int p1, .int p2, .int p3, .int p4]) i246_132 (fun _ => rfl) rfl mr240.1 rfl h3 (by rw [mr240.2.1]; exact Nat.le_of_ble_eq_true rfl) h
theorem i246_135 : insAt 246 135 = some (.invokevirtual 241, 138) := by decide +kernel
theorem r246_135 {E : aEnv} {c : Nat} {ah ah1 : aHp} {r : Option Value} {st : List Value} {Q : Option Value → aHp → Prop} {a0 : Option Value} {p0 : Nat} {p1 : Int64} (h : EV E c 241 [.ref p0, .long p1] ah r ah1) (h2 : oCI (hg E ah p0) = 11) (h3 : wds st ≤ 8) : WP E (c + 1) 246 135 [a0] (.long p1 :: .ref p0 :: st) ah Q = WP E (c + 1) 246 138 [a0] (r.toList ++ st) ah1 Q := wp_call (As := [.ref p0, .long p1]) i246_135 (fun _ => rfl) rfl mr241.1 (rcv_1 h2 mr241.2.2 (by decide)) h3 (by rw [mr241.2.1]; exact Nat.le_of_ble_eq_true rfl) h
theorem i246_138 : insAt 246 138 = some (.ifCond .eq 144, 141) := by decide +kernel
theorem r246_138 {E : aEnv} {c : Nat} {ah : aHp} {st : List Value} {Q : Option Value → aHp → Prop} {a0 : Option Value} {x : Int32} : WP E c 246 138 [a0] (.int x :: st) ah Q = if x = 0 then WP E c 246 144 [a0] st ah Q else WP E c 246 141 [a0] st ah Q := wp_j i246_138 rfl rfl rfl rfl
theorem i246_141 : insAt 246 141 = some (.iconst 6, 143) := by decide +kernel
theorem r246_141 {E : aEnv} {c : Nat} {ah : aHp} {st : List Value} {Q : Option Value → aHp → Prop} {a0 : Option Value} : WP E c 246 141 [a0] (st) ah Q = WP E c 246 143 [a0] (.int (6) :: st) ah Q := wp_s i246_141 rfl rfl rfl rfl
theorem i246_143 : insAt 246 143 = some (.ireturn, 144) := by decide +kernel
theorem r246_143 {E : aEnv} {c : Nat} {ah : aHp} {Q : Option Value → aHp → Prop} {a0 : Option Value} {x : Int32} : WP E c 246 143 [a0] ([.int x]) ah Q = Q (some (.int x)) ah := wp_rt i246_143 rfl
theorem i246_144 : insAt 246 144 = some (.aload 0, 145) := by decide +kernel
theorem r246_144 {E : aEnv} {c : Nat} {ah : aHp} {st : List Value} {Q : Option Value → aHp → Prop} {x : Nat} : WP E c 246 144 [some (.ref x)] (st) ah Q = WP E c 246 145 [some (.ref x)] (.ref x :: st) ah Q := wp_s i246_144 rfl rfl rfl rfl
theorem i246_145 : insAt 246 145 = some (.iconst 111, 147) := by decide +kernel
theorem r246_145 {E : aEnv} {c : Nat} {ah : aHp} {st : List Value} {Q : Option Value → aHp → Prop} {a0 : Option Value} : WP E c 246 145 [a0] (st) ah Q = WP E c 246 147 [a0] (.int (111) :: st) ah Q := wp_s i246_145 rfl rfl rfl rfl
theorem i246_147 : insAt 246 147 = some (.iconst 110, 149) := by decide +kernel
theorem r246_147 {E : aEnv} {c : Nat} {ah : aHp} {st : List Value} {Q : Option Value → aHp → Prop} {a0 : Option Value} : WP E c 246 147 [a0] (st) ah Q = WP E c 246 149 [a0] (.int (110) :: st) ah Q := wp_s i246_147 rfl rfl rfl rfl
theorem i246_149 : insAt 246 149 = some (.iconst 0, 150) := by decide +kernel
theorem r246_149 {E : aEnv} {c : Nat} {ah : aHp} {st : List Value} {Q : Option Value → aHp → Prop} {a0 : Option Value} : WP E c 246 149 [a0] (st) ah Q = WP E c 246 150 [a0] (.int (0) :: st) ah Q := wp_s i246_149 rfl rfl rfl rfl
theorem i246_150 : insAt 246 150 = some (.iconst 0, 151) := by decide +kernel
theorem r246_150 {E : aEnv} {c : Nat} {ah : aHp} {st : List Value} {Q : Option Value → aHp → Prop} {a0 : Option Value} : WP E c 246 150 [a0] (st) ah Q = WP E c 246 151 [a0] (.int (0) :: st) ah Q := wp_s i246_150 rfl rfl rfl rfl
theorem i246_151 : insAt 246 151 = some (.iconst 0, 152) := by decide +kernel
theorem r246_151 {E : aEnv} {c : Nat} {ah : aHp} {st : List Value} {Q : Option Value → aHp → Prop} {a0 : Option Value} : WP E c 246 151 [a0] (st) ah Q = WP E c 246 152 [a0] (.int (0) :: st) ah Q := wp_s i246_151 rfl rfl rfl rfl
theorem i246_152 : insAt 246 152 = some (.invokestatic 240, 155) := by decide +kernel
theorem r246_152 {E : aEnv} {c : Nat} {ah ah1 : aHp} {r : Option Value} {st : List Value} {Q : Option Value → aHp → Prop} {a0 : Option Value} {p0 : Int32} {p1 : Int32} {p2 : Int32} {p3 : Int32} {p4 : Int32} (h : EV E c 240 [.int p0, .int p1, .int p2, .int p3, .int p4] ah r ah1) (h3 : wds st ≤ 8) : WP E (c + 1) 246 152 [a0] (.int p4 :: .int p3 :: .int p2 :: .int p1 :: .int p0 :: st) ah Q = WP E (c + 1) 246 155 [a0] (r.toList ++ st) ah1 Q := wp_call (As := [.int p0, .int p1, .int p2, .int p3, .int p4]) i246_152 (fun _ => rfl) rfl mr240.1 rfl h3 (by rw [mr240.2.1]; exact Nat.le_of_ble_eq_true rfl) h
theorem i246_155 : insAt 246 155 = some (.invokevirtual 241, 158) := by decide +kernel
theorem r246_155 {E : aEnv} {c : Nat} {ah ah1 : aHp} {r : Option Value} {st : List Value} {Q : Option Value → aHp → Prop} {a0 : Option Value} {p0 : Nat} {p1 : Int64} (h : EV E c 241 [.ref p0, .long p1] ah r ah1) (h2 : oCI (hg E ah p0) = 11) (h3 : wds st ≤ 8) : WP E (c + 1) 246 155 [a0] (.long p1 :: .ref p0 :: st) ah Q = WP E (c + 1) 246 158 [a0] (r.toList ++ st) ah1 Q := wp_call (As := [.ref p0, .long p1]) i246_155 (fun _ => rfl) rfl mr241.1 (rcv_1 h2 mr241.2.2 (by decide)) h3 (by rw [mr241.2.1]; exact Nat.le_of_ble_eq_true rfl) h
theorem i246_158 : insAt 246 158 = some (.ifCond .eq 166, 161) := by decide +kernel
theorem r246_158 {E : aEnv} {c : Nat} {ah : aHp} {st : List Value} {Q : Option Value → aHp → Prop} {a0 : Option Value} {x : Int32} : WP E c 246 158 [a0] (.int x :: st) ah Q = if x = 0 then WP E c 246 166 [a0] st ah Q else WP E c 246 161 [a0] st ah Q := wp_j i246_158 rfl rfl rfl rfl
theorem i246_161 : insAt 246 161 = some (.iconst 7, 163) := by decide +kernel
theorem r246_161 {E : aEnv} {c : Nat} {ah : aHp} {st : List Value} {Q : Option Value → aHp → Prop} {a0 : Option Value} : WP E c 246 161 [a0] (st) ah Q = WP E c 246 163 [a0] (.int (7) :: st) ah Q := wp_s i246_161 rfl rfl rfl rfl
theorem i246_163 : insAt 246 163 = some (.goto 167, 166) := by decide +kernel
theorem r246_163 {E : aEnv} {c : Nat} {ah : aHp} {st : List Value} {Q : Option Value → aHp → Prop} {a0 : Option Value} : WP E c 246 163 [a0] (st) ah Q = WP E c 246 167 [a0] st ah Q := wp_s i246_163 rfl rfl rfl rfl
theorem i246_166 : insAt 246 166 = some (.iconst (-1), 167) := by decide +kernel
theorem r246_166 {E : aEnv} {c : Nat} {ah : aHp} {st : List Value} {Q : Option Value → aHp → Prop} {a0 : Option Value} : WP E c 246 166 [a0] (st) ah Q = WP E c 246 167 [a0] (.int ((-1)) :: st) ah Q := wp_s i246_166 rfl rfl rfl rfl
theorem i246_167 : insAt 246 167 = some (.ireturn, 168) := by decide +kernel
theorem r246_167 {E : aEnv} {c : Nat} {ah : aHp} {Q : Option Value → aHp → Prop} {a0 : Option Value} {x : Int32} : WP E c 246 167 [a0] ([.int x]) ah Q = Q (some (.int x)) ah := wp_rt i246_167 rfl
theorem e247 {E : aEnv} {c : Nat} {ah ahF : aHp} {r : Option Value} {p0 : Nat} (h : WP E c 247 0 [some (.ref p0), none, none] [] ah (fun r1 x1 => r1 = r ∧ x1 = ahF)) : EV E c 247 [.ref p0] ah r ahF := EV.of (by rw [mr247.2.1]; exact h)
theorem i247_0 : insAt 247 0 = some (.aload 0, 1) := by decide +kernel
theorem r247_0 {E : aEnv} {c : Nat} {ah : aHp} {st : List Value} {Q : Option Value → aHp → Prop} {a1 a2 : Option Value} {x : Nat} : WP E c 247 0 [some (.ref x), a1, a2] (st) ah Q = WP E c 247 1 [some (.ref x), a1, a2] (.ref x :: st) ah Q := wp_s i247_0 rfl rfl rfl rfl
theorem i247_1 : insAt 247 1 = some (.invokevirtual 246, 4) := by decide +kernel
theorem r247_1 {E : aEnv} {c : Nat} {ah ah1 : aHp} {r : Option Value} {st : List Value} {Q : Option Value → aHp → Prop} {a0 a1 a2 : Option Value} {p0 : Nat} (h : EV E c 246 [.ref p0] ah r ah1) (h2 : oCI (hg E ah p0) = 11) (h3 : wds st ≤ 8) : WP E (c + 1) 247 1 [a0, a1, a2] (.ref p0 :: st) ah Q = WP E (c + 1) 247 4 [a0, a1, a2] (r.toList ++ st) ah1 Q := wp_call (As := [.ref p0]) i247_1 (fun _ => rfl) rfl mr246.1 (rcv_1 h2 mr246.2.2 (by decide)) h3 (by rw [mr246.2.1]; exact Nat.le_of_ble_eq_true rfl) h
theorem i247_4 : insAt 247 4 = some (.istore 1, 5) := by decide +kernel
theorem r247_4 {E : aEnv} {c : Nat} {ah : aHp} {st : List Value} {Q : Option Value → aHp → Prop} {a0 a1 a2 : Option Value} {x : Int32} : WP E c 247 4 [a0, a1, a2] (.int x :: st) ah Q = WP E c 247 5 [kil a0, some (.int x), a2] (st) ah Q := wp_s i247_4 rfl rfl rfl rfl
theorem i247_5 : insAt 247 5 = some (.iload 1, 6) := by decide +kernel
theorem r247_5 {E : aEnv} {c : Nat} {ah : aHp} {st : List Value} {Q : Option Value → aHp → Prop} {a0 a2 : Option Value} {x : Int32} : WP E c 247 5 [a0, some (.int x), a2] (st) ah Q = WP E c 247 6 [a0, some (.int x), a2] (.int x :: st) ah Q := wp_s i247_5 rfl rfl rfl rfl
theorem i247_6 : insAt 247 6 = some (.ifCond .ge 13, 9) := by decide +kernel
theorem r247_6 {E : aEnv} {c : Nat} {ah : aHp} {st : List Value} {Q : Option Value → aHp → Prop} {a0 a1 a2 : Option Value} {x : Int32} : WP E c 247 6 [a0, a1, a2] (.int x :: st) ah Q = if 0 ≤ x then WP E c 247 13 [a0, a1, a2] st ah Q else WP E c 247 9 [a0, a1, a2] st ah Q := wp_j i247_6 rfl rfl rfl rfl
theorem i247_9 : insAt 247 9 = some (.aload 0, 10) := by decide +kernel
theorem r247_9 {E : aEnv} {c : Nat} {ah : aHp} {st : List Value} {Q : Option Value → aHp → Prop} {a1 a2 : Option Value} {x : Nat} : WP E c 247 9 [some (.ref x), a1, a2] (st) ah Q = WP E c 247 10 [some (.ref x), a1, a2] (.ref x :: st) ah Q := wp_s i247_9 rfl rfl rfl rfl
theorem i247_10 : insAt 247 10 = some (.invokevirtual 244, 13) := by decide +kernel
theorem r247_10 {E : aEnv} {c : Nat} {ah ah1 : aHp} {r : Option Value} {st : List Value} {Q : Option Value → aHp → Prop} {a0 a1 a2 : Option Value} {p0 : Nat} (h : EV E c 244 [.ref p0] ah r ah1) (h2 : oCI (hg E ah p0) = 11) (h3 : wds st ≤ 8) : WP E (c + 1) 247 10 [a0, a1, a2] (.ref p0 :: st) ah Q = WP E (c + 1) 247 13 [a0, a1, a2] (r.toList ++ st) ah1 Q := wp_call (As := [.ref p0]) i247_10 (fun _ => rfl) rfl mr244.1 (rcv_1 h2 mr244.2.2 (by decide)) h3 (by rw [mr244.2.1]; exact Nat.le_of_ble_eq_true rfl) h
theorem i247_13 : insAt 247 13 = some (.aload 0, 14) := by decide +kernel
theorem r247_13 {E : aEnv} {c : Nat} {ah : aHp} {st : List Value} {Q : Option Value → aHp → Prop} {a1 a2 : Option Value} {x : Nat} : WP E c 247 13 [some (.ref x), a1, a2] (st) ah Q = WP E c 247 14 [some (.ref x), a1, a2] (.ref x :: st) ah Q := wp_s i247_13 rfl rfl rfl rfl
theorem i247_14 : insAt 247 14 = some (.getfield 11330, 17) := by decide +kernel
theorem r247_14 {E : aEnv} {c : Nat} {ah : aHp} {st : List Value} {Q : Option Value → aHp → Prop} {a0 a1 a2 : Option Value} {a : Nat} : WP E c 247 14 [a0, a1, a2] (.ref a :: st) ah Q = WPo (oGF (hg E ah a) 11 33) (fun v => WP E c 247 17 [a0, a1, a2] (v :: st) ah Q) := wp_getf i247_14
theorem i247_17 : insAt 247 17 = some (.ifCond .ne 38, 20) := by decide +kernel
theorem r247_17 {E : aEnv} {c : Nat} {ah : aHp} {st : List Value} {Q : Option Value → aHp → Prop} {a0 a1 a2 : Option Value} {x : Int32} : WP E c 247 17 [a0, a1, a2] (.int x :: st) ah Q = if ¬ x = 0 then WP E c 247 38 [a0, a1, a2] st ah Q else WP E c 247 20 [a0, a1, a2] st ah Q := wp_j i247_17 rfl rfl rfl rfl
theorem i247_20 : insAt 247 20 = some (.aload 0, 21) := by decide +kernel
theorem r247_20 {E : aEnv} {c : Nat} {ah : aHp} {st : List Value} {Q : Option Value → aHp → Prop} {a1 a2 : Option Value} {x : Nat} : WP E c 247 20 [some (.ref x), a1, a2] (st) ah Q = WP E c 247 21 [some (.ref x), a1, a2] (.ref x :: st) ah Q := wp_s i247_20 rfl rfl rfl rfl
theorem i247_21 : insAt 247 21 = some (.getfield 11420, 24) := by decide +kernel
theorem r247_21 {E : aEnv} {c : Nat} {ah : aHp} {st : List Value} {Q : Option Value → aHp → Prop} {a0 a1 a2 : Option Value} {a : Nat} : WP E c 247 21 [a0, a1, a2] (.ref a :: st) ah Q = WPo (oGF (hg E ah a) 11 42) (fun v => WP E c 247 24 [a0, a1, a2] (v :: st) ah Q) := wp_getf i247_21
theorem i247_24 : insAt 247 24 = some (.iconst 40, 26) := by decide +kernel
theorem r247_24 {E : aEnv} {c : Nat} {ah : aHp} {st : List Value} {Q : Option Value → aHp → Prop} {a0 a1 a2 : Option Value} : WP E c 247 24 [a0, a1, a2] (st) ah Q = WP E c 247 26 [a0, a1, a2] (.int (40) :: st) ah Q := wp_s i247_24 rfl rfl rfl rfl
theorem i247_26 : insAt 247 26 = some (.if_icmp .ne 38, 29) := by decide +kernel
theorem r247_26 {E : aEnv} {c : Nat} {ah : aHp} {st : List Value} {Q : Option Value → aHp → Prop} {a0 a1 a2 : Option Value} {x y : Int32} : WP E c 247 26 [a0, a1, a2] (.int y :: .int x :: st) ah Q = if ¬ x = y then WP E c 247 38 [a0, a1, a2] st ah Q else WP E c 247 29 [a0, a1, a2] st ah Q := wp_j i247_26 rfl rfl rfl rfl
theorem i247_29 : insAt 247 29 = some (.aload 0, 30) := by decide +kernel
theorem r247_29 {E : aEnv} {c : Nat} {ah : aHp} {st : List Value} {Q : Option Value → aHp → Prop} {a1 a2 : Option Value} {x : Nat} : WP E c 247 29 [some (.ref x), a1, a2] (st) ah Q = WP E c 247 30 [some (.ref x), a1, a2] (.ref x :: st) ah Q := wp_s i247_29 rfl rfl rfl rfl
theorem i247_30 : insAt 247 30 = some (.iconst 3, 31) := by decide +kernel
theorem r247_30 {E : aEnv} {c : Nat} {ah : aHp} {st : List Value} {Q : Option Value → aHp → Prop} {a0 a1 a2 : Option Value} : WP E c 247 30 [a0, a1, a2] (st) ah Q = WP E c 247 31 [a0, a1, a2] (.int (3) :: st) ah Q := wp_s i247_30 rfl rfl rfl rfl
theorem i247_31 : insAt 247 31 = some (.aload 0, 32) := by decide +kernel
theorem r247_31 {E : aEnv} {c : Nat} {ah : aHp} {st : List Value} {Q : Option Value → aHp → Prop} {a1 a2 : Option Value} {x : Nat} : WP E c 247 31 [some (.ref x), a1, a2] (st) ah Q = WP E c 247 32 [some (.ref x), a1, a2] (.ref x :: st) ah Q := wp_s i247_31 rfl rfl rfl rfl
theorem i247_32 : insAt 247 32 = some (.getfield 11360, 35) := by decide +kernel
theorem r247_32 {E : aEnv} {c : Nat} {ah : aHp} {st : List Value} {Q : Option Value → aHp → Prop} {a0 a1 a2 : Option Value} {a : Nat} : WP E c 247 32 [a0, a1, a2] (.ref a :: st) ah Q = WPo (oGF (hg E ah a) 11 36) (fun v => WP E c 247 35 [a0, a1, a2] (v :: st) ah Q) := wp_getf i247_32
theorem i247_35 : insAt 247 35 = some (.invokevirtual 243, 38) := by decide +kernel
theorem r247_35 {E : aEnv} {c : Nat} {ah ah1 : aHp} {r : Option Value} {st : List Value} {Q : Option Value → aHp → Prop} {a0 a1 a2 : Option Value} {p0 : Nat} {p1 : Int32} {p2 : Int32} (h : EV E c 243 [.ref p0, .int p1, .int p2] ah r ah1) (h2 : oCI (hg E ah p0) = 11) (h3 : wds st ≤ 8) : WP E (c + 1) 247 35 [a0, a1, a2] (.int p2 :: .int p1 :: .ref p0 :: st) ah Q = WP E (c + 1) 247 38 [a0, a1, a2] (r.toList ++ st) ah1 Q := wp_call (As := [.ref p0, .int p1, .int p2]) i247_35 (fun _ => rfl) rfl mr243.1 (rcv_1 h2 mr243.2.2 (by decide)) h3 (by rw [mr243.2.1]; exact Nat.le_of_ble_eq_true rfl) h
theorem i247_38 : insAt 247 38 = some (.aload 0, 39) := by decide +kernel
theorem r247_38 {E : aEnv} {c : Nat} {ah : aHp} {st : List Value} {Q : Option Value → aHp → Prop} {a1 a2 : Option Value} {x : Nat} : WP E c 247 38 [some (.ref x), a1, a2] (st) ah Q = WP E c 247 39 [some (.ref x), a1, a2] (.ref x :: st) ah Q := wp_s i247_38 rfl rfl rfl rfl
theorem i247_39 : insAt 247 39 = some (.getfield 11330, 42) := by decide +kernel
theorem r247_39 {E : aEnv} {c : Nat} {ah : aHp} {st : List Value} {Q : Option Value → aHp → Prop} {a0 a1 a2 : Option Value} {a : Nat} : WP E c 247 39 [a0, a1, a2] (.ref a :: st) ah Q = WPo (oGF (hg E ah a) 11 33) (fun v => WP E c 247 42 [a0, a1, a2] (v :: st) ah Q) := wp_getf i247_39
theorem i247_42 : insAt 247 42 = some (.ifCond .le 46, 45) := by decide +kernel
theorem r247_42 {E : aEnv} {c : Nat} {ah : aHp} {st : List Value} {Q : Option Value → aHp → Prop} {a0 a1 a2 : Option Value} {x : Int32} : WP E c 247 42 [a0, a1, a2] (.int x :: st) ah Q = if x ≤ 0 then WP E c 247 46 [a0, a1, a2] st ah Q else WP E c 247 45 [a0, a1, a2] st ah Q := wp_j i247_42 rfl rfl rfl rfl
theorem i247_45 : insAt 247 45 = some (.return_, 46) := by decide +kernel
theorem r247_45 {E : aEnv} {c : Nat} {ah : aHp} {Q : Option Value → aHp → Prop} {a0 a1 a2 : Option Value} : WP E c 247 45 [a0, a1, a2] ([]) ah Q = Q none ah := wp_rt i247_45 rfl
theorem i247_46 : insAt 247 46 = some (.aload 0, 47) := by decide +kernel
theorem r247_46 {E : aEnv} {c : Nat} {ah : aHp} {st : List Value} {Q : Option Value → aHp → Prop} {a1 a2 : Option Value} {x : Nat} : WP E c 247 46 [some (.ref x), a1, a2] (st) ah Q = WP E c 247 47 [some (.ref x), a1, a2] (.ref x :: st) ah Q := wp_s i247_46 rfl rfl rfl rfl
theorem i247_47 : insAt 247 47 = some (.getfield 11420, 50) := by decide +kernel
theorem r247_47 {E : aEnv} {c : Nat} {ah : aHp} {st : List Value} {Q : Option Value → aHp → Prop} {a0 a1 a2 : Option Value} {a : Nat} : WP E c 247 47 [a0, a1, a2] (.ref a :: st) ah Q = WPo (oGF (hg E ah a) 11 42) (fun v => WP E c 247 50 [a0, a1, a2] (v :: st) ah Q) := wp_getf i247_47
theorem i247_50 : insAt 247 50 = some (.istore 2, 51) := by decide +kernel
theorem r247_50 {E : aEnv} {c : Nat} {ah : aHp} {st : List Value} {Q : Option Value → aHp → Prop} {a0 a1 a2 : Option Value} {x : Int32} : WP E c 247 50 [a0, a1, a2] (.int x :: st) ah Q = WP E c 247 51 [a0, kil a1, some (.int x)] (st) ah Q := wp_s i247_50 rfl rfl rfl rfl
theorem i247_51 : insAt 247 51 = some (.aload 0, 52) := by decide +kernel
theorem r247_51 {E : aEnv} {c : Nat} {ah : aHp} {st : List Value} {Q : Option Value → aHp → Prop} {a1 a2 : Option Value} {x : Nat} : WP E c 247 51 [some (.ref x), a1, a2] (st) ah Q = WP E c 247 52 [some (.ref x), a1, a2] (.ref x :: st) ah Q := wp_s i247_51 rfl rfl rfl rfl
theorem i247_52 : insAt 247 52 = some (.getfield 11492, 55) := by decide +kernel
theorem r247_52 {E : aEnv} {c : Nat} {ah : aHp} {st : List Value} {Q : Option Value → aHp → Prop} {a0 a1 a2 : Option Value} {a : Nat} : WP E c 247 52 [a0, a1, a2] (.ref a :: st) ah Q = WPo (oGF (hg E ah a) 11 49) (fun v => WP E c 247 55 [a0, a1, a2] (v :: st) ah Q) := wp_getf i247_52
theorem i247_55 : insAt 247 55 = some (.iload 2, 56) := by decide +kernel
theorem r247_55 {E : aEnv} {c : Nat} {ah : aHp} {st : List Value} {Q : Option Value → aHp → Prop} {a0 a1 : Option Value} {x : Int32} : WP E c 247 55 [a0, a1, some (.int x)] (st) ah Q = WP E c 247 56 [a0, a1, some (.int x)] (.int x :: st) ah Q := wp_s i247_55 rfl rfl rfl rfl
theorem i247_56 : insAt 247 56 = some (.iload 1, 57) := by decide +kernel
theorem r247_56 {E : aEnv} {c : Nat} {ah : aHp} {st : List Value} {Q : Option Value → aHp → Prop} {a0 a2 : Option Value} {x : Int32} : WP E c 247 56 [a0, some (.int x), a2] (st) ah Q = WP E c 247 57 [a0, some (.int x), a2] (.int x :: st) ah Q := wp_s i247_56 rfl rfl rfl rfl
theorem i247_57 : insAt 247 57 = some (.iastore, 58) := by decide +kernel
theorem r247_57 {E : aEnv} {c : Nat} {ah : aHp} {st : List Value} {Q : Option Value → aHp → Prop} {a0 a1 a2 : Option Value} {x : Int32} {i : Int32} {a : Nat} : WP E c 247 57 [a0, a1, a2] (.int x :: .int i :: .ref a :: st) ah Q = WPo (pI E ah (.int x :: .int i :: .ref a :: st)) (fun q9 => WP E c 247 58 [a0, a1, a2] q9.1 q9.2 Q) := wp_hw i247_57 rfl rfl rfl rfl rfl rfl rfl rfl
theorem i247_58 : insAt 247 58 = some (.aload 0, 59) := by decide +kernel
theorem r247_58 {E : aEnv} {c : Nat} {ah : aHp} {st : List Value} {Q : Option Value → aHp → Prop} {a1 a2 : Option Value} {x : Nat} : WP E c 247 58 [some (.ref x), a1, a2] (st) ah Q = WP E c 247 59 [some (.ref x), a1, a2] (.ref x :: st) ah Q := wp_s i247_58 rfl rfl rfl rfl
theorem i247_59 : insAt 247 59 = some (.getfield 11542, 62) := by decide +kernel
theorem r247_59 {E : aEnv} {c : Nat} {ah : aHp} {st : List Value} {Q : Option Value → aHp → Prop} {a0 a1 a2 : Option Value} {a : Nat} : WP E c 247 59 [a0, a1, a2] (.ref a :: st) ah Q = WPo (oGF (hg E ah a) 11 54) (fun v => WP E c 247 62 [a0, a1, a2] (v :: st) ah Q) := wp_getf i247_59
theorem i247_62 : insAt 247 62 = some (.iload 2, 63) := by decide +kernel
theorem r247_62 {E : aEnv} {c : Nat} {ah : aHp} {st : List Value} {Q : Option Value → aHp → Prop} {a0 a1 : Option Value} {x : Int32} : WP E c 247 62 [a0, a1, some (.int x)] (st) ah Q = WP E c 247 63 [a0, a1, some (.int x)] (.int x :: st) ah Q := wp_s i247_62 rfl rfl rfl rfl
theorem i247_63 : insAt 247 63 = some (.iconst 0, 64) := by decide +kernel
theorem r247_63 {E : aEnv} {c : Nat} {ah : aHp} {st : List Value} {Q : Option Value → aHp → Prop} {a0 a1 a2 : Option Value} : WP E c 247 63 [a0, a1, a2] (st) ah Q = WP E c 247 64 [a0, a1, a2] (.int (0) :: st) ah Q := wp_s i247_63 rfl rfl rfl rfl
theorem i247_64 : insAt 247 64 = some (.iastore, 65) := by decide +kernel
theorem r247_64 {E : aEnv} {c : Nat} {ah : aHp} {st : List Value} {Q : Option Value → aHp → Prop} {a0 a1 a2 : Option Value} {x : Int32} {i : Int32} {a : Nat} : WP E c 247 64 [a0, a1, a2] (.int x :: .int i :: .ref a :: st) ah Q = WPo (pI E ah (.int x :: .int i :: .ref a :: st)) (fun q9 => WP E c 247 65 [a0, a1, a2] q9.1 q9.2 Q) := wp_hw i247_64 rfl rfl rfl rfl rfl rfl rfl rfl
theorem i247_65 : insAt 247 65 = some (.aload 0, 66) := by decide +kernel
theorem r247_65 {E : aEnv} {c : Nat} {ah : aHp} {st : List Value} {Q : Option Value → aHp → Prop} {a1 a2 : Option Value} {x : Nat} : WP E c 247 65 [some (.ref x), a1, a2] (st) ah Q = WP E c 247 66 [some (.ref x), a1, a2] (.ref x :: st) ah Q := wp_s i247_65 rfl rfl rfl rfl
theorem i247_66 : insAt 247 66 = some (.getfield 11572, 69) := by decide +kernel
theorem r247_66 {E : aEnv} {c : Nat} {ah : aHp} {st : List Value} {Q : Option Value → aHp → Prop} {a0 a1 a2 : Option Value} {a : Nat} : WP E c 247 66 [a0, a1, a2] (.ref a :: st) ah Q = WPo (oGF (hg E ah a) 11 57) (fun v => WP E c 247 69 [a0, a1, a2] (v :: st) ah Q) := wp_getf i247_66
theorem i247_69 : insAt 247 69 = some (.iload 2, 70) := by decide +kernel
theorem r247_69 {E : aEnv} {c : Nat} {ah : aHp} {st : List Value} {Q : Option Value → aHp → Prop} {a0 a1 : Option Value} {x : Int32} : WP E c 247 69 [a0, a1, some (.int x)] (st) ah Q = WP E c 247 70 [a0, a1, some (.int x)] (.int x :: st) ah Q := wp_s i247_69 rfl rfl rfl rfl
theorem i247_70 : insAt 247 70 = some (.jsr_w 0, 71) := by decide +kernel
theorem r247_70 {E : aEnv} {c : Nat} {ah : aHp} {st : List Value} {Q : Option Value → aHp → Prop} {a0 a1 a2 : Option Value} : WP E c 247 70 [a0, a1, a2] (st) ah Q = WP E c 247 71 [a0, a1, a2] (.long (0) :: st) ah Q := wp_s i247_70 rfl rfl rfl rfl
theorem i247_71 : insAt 247 71 = some (.lastore, 72) := by decide +kernel
theorem r247_71 {E : aEnv} {c : Nat} {ah : aHp} {st : List Value} {Q : Option Value → aHp → Prop} {a0 a1 a2 : Option Value} {x : Int64} {i : Int32} {a : Nat} : WP E c 247 71 [a0, a1, a2] (.long x :: .int i :: .ref a :: st) ah Q = WPo (pL E ah (.long x :: .int i :: .ref a :: st)) (fun q9 => WP E c 247 72 [a0, a1, a2] q9.1 q9.2 Q) := wp_hw i247_71 rfl rfl rfl rfl rfl rfl rfl rfl
theorem i247_72 : insAt 247 72 = some (.aload 0, 73) := by decide +kernel
theorem r247_72 {E : aEnv} {c : Nat} {ah : aHp} {st : List Value} {Q : Option Value → aHp → Prop} {a1 a2 : Option Value} {x : Nat} : WP E c 247 72 [some (.ref x), a1, a2] (st) ah Q = WP E c 247 73 [some (.ref x), a1, a2] (.ref x :: st) ah Q := wp_s i247_72 rfl rfl rfl rfl
theorem i247_73 : insAt 247 73 = some (.invokevirtual 239, 76) := by decide +kernel
theorem r247_73 {E : aEnv} {c : Nat} {ah ah1 : aHp} {r : Option Value} {st : List Value} {Q : Option Value → aHp → Prop} {a0 a1 a2 : Option Value} {p0 : Nat} (h : EV E c 239 [.ref p0] ah r ah1) (h2 : oCI (hg E ah p0) = 11) (h3 : wds st ≤ 8) : WP E (c + 1) 247 73 [a0, a1, a2] (.ref p0 :: st) ah Q = WP E (c + 1) 247 76 [a0, a1, a2] (r.toList ++ st) ah1 Q := wp_call (As := [.ref p0]) i247_73 (fun _ => rfl) rfl mr239.1 (rcv_1 h2 mr239.2.2 (by decide)) h3 (by rw [mr239.2.1]; exact Nat.le_of_ble_eq_true rfl) h
theorem i247_76 : insAt 247 76 = some (.iload 1, 77) := by decide +kernel
theorem r247_76 {E : aEnv} {c : Nat} {ah : aHp} {st : List Value} {Q : Option Value → aHp → Prop} {a0 a2 : Option Value} {x : Int32} : WP E c 247 76 [a0, some (.int x), a2] (st) ah Q = WP E c 247 77 [a0, some (.int x), a2] (.int x :: st) ah Q := wp_s i247_76 rfl rfl rfl rfl
theorem i247_77 : insAt 247 77 = some (.iconst 6, 79) := by decide +kernel
theorem r247_77 {E : aEnv} {c : Nat} {ah : aHp} {st : List Value} {Q : Option Value → aHp → Prop} {a0 a1 a2 : Option Value} : WP E c 247 77 [a0, a1, a2] (st) ah Q = WP E c 247 79 [a0, a1, a2] (.int (6) :: st) ah Q := wp_s i247_77 rfl rfl rfl rfl
theorem i247_79 : insAt 247 79 = some (.if_icmp .eq 88, 82) := by decide +kernel
theorem r247_79 {E : aEnv} {c : Nat} {ah : aHp} {st : List Value} {Q : Option Value → aHp → Prop} {a0 a1 a2 : Option Value} {x y : Int32} : WP E c 247 79 [a0, a1, a2] (.int y :: .int x :: st) ah Q = if x = y then WP E c 247 88 [a0, a1, a2] st ah Q else WP E c 247 82 [a0, a1, a2] st ah Q := wp_j i247_79 rfl rfl rfl rfl
theorem i247_82 : insAt 247 82 = some (.iload 1, 83) := by decide +kernel
theorem r247_82 {E : aEnv} {c : Nat} {ah : aHp} {st : List Value} {Q : Option Value → aHp → Prop} {a0 a2 : Option Value} {x : Int32} : WP E c 247 82 [a0, some (.int x), a2] (st) ah Q = WP E c 247 83 [a0, some (.int x), a2] (.int x :: st) ah Q := wp_s i247_82 rfl rfl rfl rfl
theorem i247_83 : insAt 247 83 = some (.iconst 7, 85) := by decide +kernel
theorem r247_83 {E : aEnv} {c : Nat} {ah : aHp} {st : List Value} {Q : Option Value → aHp → Prop} {a0 a1 a2 : Option Value} : WP E c 247 83 [a0, a1, a2] (st) ah Q = WP E c 247 85 [a0, a1, a2] (.int (7) :: st) ah Q := wp_s i247_83 rfl rfl rfl rfl
theorem i247_85 : insAt 247 85 = some (.if_icmp .ne 96, 88) := by decide +kernel
theorem r247_85 {E : aEnv} {c : Nat} {ah : aHp} {st : List Value} {Q : Option Value → aHp → Prop} {a0 a1 a2 : Option Value} {x y : Int32} : WP E c 247 85 [a0, a1, a2] (.int y :: .int x :: st) ah Q = if ¬ x = y then WP E c 247 96 [a0, a1, a2] st ah Q else WP E c 247 88 [a0, a1, a2] st ah Q := wp_j i247_85 rfl rfl rfl rfl
theorem i247_88 : insAt 247 88 = some (.aload 0, 89) := by decide +kernel
theorem r247_88 {E : aEnv} {c : Nat} {ah : aHp} {st : List Value} {Q : Option Value → aHp → Prop} {a1 a2 : Option Value} {x : Nat} : WP E c 247 88 [some (.ref x), a1, a2] (st) ah Q = WP E c 247 89 [some (.ref x), a1, a2] (.ref x :: st) ah Q := wp_s i247_88 rfl rfl rfl rfl
theorem i247_89 : insAt 247 89 = some (.iload 2, 90) := by decide +kernel
theorem r247_89 {E : aEnv} {c : Nat} {ah : aHp} {st : List Value} {Q : Option Value → aHp → Prop} {a0 a1 : Option Value} {x : Int32} : WP E c 247 89 [a0, a1, some (.int x)] (st) ah Q = WP E c 247 90 [a0, a1, some (.int x)] (.int x :: st) ah Q := wp_s i247_89 rfl rfl rfl rfl
theorem i247_90 : insAt 247 90 = some (.invokevirtual 249, 93) := by decide +kernel
theorem r247_90 {E : aEnv} {c : Nat} {ah ah1 : aHp} {r : Option Value} {st : List Value} {Q : Option Value → aHp → Prop} {a0 a1 a2 : Option Value} {p0 : Nat} {p1 : Int32} (h : EV E c 249 [.ref p0, .int p1] ah r ah1) (h2 : oCI (hg E ah p0) = 11) (h3 : wds st ≤ 8) : WP E (c + 1) 247 90 [a0, a1, a2] (.int p1 :: .ref p0 :: st) ah Q = WP E (c + 1) 247 93 [a0, a1, a2] (r.toList ++ st) ah1 Q := wp_call (As := [.ref p0, .int p1]) i247_90 (fun _ => rfl) rfl mr249.1 (rcv_1 h2 mr249.2.2 (by decide)) h3 (by rw [mr249.2.1]; exact Nat.le_of_ble_eq_true rfl) h
theorem i247_93 : insAt 247 93 = some (.goto 186, 96) := by decide +kernel
theorem r247_93 {E : aEnv} {c : Nat} {ah : aHp} {st : List Value} {Q : Option Value → aHp → Prop} {a0 a1 a2 : Option Value} : WP E c 247 93 [a0, a1, a2] (st) ah Q = WP E c 247 186 [a0, a1, a2] st ah Q := wp_s i247_93 rfl rfl rfl rfl
theorem i247_96 : insAt 247 96 = some (.aload 0, 97) := by decide +kernel
theorem r247_96 {E : aEnv} {c : Nat} {ah : aHp} {st : List Value} {Q : Option Value → aHp → Prop} {a1 a2 : Option Value} {x : Nat} : WP E c 247 96 [some (.ref x), a1, a2] (st) ah Q = WP E c 247 97 [some (.ref x), a1, a2] (.ref x :: st) ah Q := wp_s i247_96 rfl rfl rfl rfl
theorem i247_97 : insAt 247 97 = some (.getfield 11502, 100) := by decide +kernel
theorem r247_97 {E : aEnv} {c : Nat} {ah : aHp} {st : List Value} {Q : Option Value → aHp → Prop} {a0 a1 a2 : Option Value} {a : Nat} : WP E c 247 97 [a0, a1, a2] (.ref a :: st) ah Q = WPo (oGF (hg E ah a) 11 50) (fun v => WP E c 247 100 [a0, a1, a2] (v :: st) ah Q) := wp_getf i247_97
theorem i247_100 : insAt 247 100 = some (.iload 2, 101) := by decide +kernel
theorem r247_100 {E : aEnv} {c : Nat} {ah : aHp} {st : List Value} {Q : Option Value → aHp → Prop} {a0 a1 : Option Value} {x : Int32} : WP E c 247 100 [a0, a1, some (.int x)] (st) ah Q = WP E c 247 101 [a0, a1, some (.int x)] (.int x :: st) ah Q := wp_s i247_100 rfl rfl rfl rfl
theorem i247_101 : insAt 247 101 = some (.aload 0, 102) := by decide +kernel
theorem r247_101 {E : aEnv} {c : Nat} {ah : aHp} {st : List Value} {Q : Option Value → aHp → Prop} {a1 a2 : Option Value} {x : Nat} : WP E c 247 101 [some (.ref x), a1, a2] (st) ah Q = WP E c 247 102 [some (.ref x), a1, a2] (.ref x :: st) ah Q := wp_s i247_101 rfl rfl rfl rfl
theorem i247_102 : insAt 247 102 = some (.iconst 0, 103) := by decide +kernel
theorem r247_102 {E : aEnv} {c : Nat} {ah : aHp} {st : List Value} {Q : Option Value → aHp → Prop} {a0 a1 a2 : Option Value} : WP E c 247 102 [a0, a1, a2] (st) ah Q = WP E c 247 103 [a0, a1, a2] (.int (0) :: st) ah Q := wp_s i247_102 rfl rfl rfl rfl
theorem i247_103 : insAt 247 103 = some (.iconst 19, 105) := by decide +kernel
theorem r247_103 {E : aEnv} {c : Nat} {ah : aHp} {st : List Value} {Q : Option Value → aHp → Prop} {a0 a1 a2 : Option Value} : WP E c 247 103 [a0, a1, a2] (st) ah Q = WP E c 247 105 [a0, a1, a2] (.int (19) :: st) ah Q := wp_s i247_103 rfl rfl rfl rfl
theorem i247_105 : insAt 247 105 = some (.invokevirtual 245, 108) := by decide +kernel
theorem r247_105 {E : aEnv} {c : Nat} {ah ah1 : aHp} {r : Option Value} {st : List Value} {Q : Option Value → aHp → Prop} {a0 a1 a2 : Option Value} {p0 : Nat} {p1 : Int32} {p2 : Int32} (h : EV E c 245 [.ref p0, .int p1, .int p2] ah r ah1) (h2 : oCI (hg E ah p0) = 11) (h3 : wds st ≤ 8) : WP E (c + 1) 247 105 [a0, a1, a2] (.int p2 :: .int p1 :: .ref p0 :: st) ah Q = WP E (c + 1) 247 108 [a0, a1, a2] (r.toList ++ st) ah1 Q := wp_call (As := [.ref p0, .int p1, .int p2]) i247_105 (fun _ => rfl) rfl mr245.1 (rcv_1 h2 mr245.2.2 (by decide)) h3 (by rw [mr245.2.1]; exact Nat.le_of_ble_eq_true rfl) h
theorem i247_108 : insAt 247 108 = some (.iastore, 109) := by decide +kernel
theorem r247_108 {E : aEnv} {c : Nat} {ah : aHp} {st : List Value} {Q : Option Value → aHp → Prop} {a0 a1 a2 : Option Value} {x : Int32} {i : Int32} {a : Nat} : WP E c 247 108 [a0, a1, a2] (.int x :: .int i :: .ref a :: st) ah Q = WPo (pI E ah (.int x :: .int i :: .ref a :: st)) (fun q9 => WP E c 247 109 [a0, a1, a2] q9.1 q9.2 Q) := wp_hw i247_108 rfl rfl rfl rfl rfl rfl rfl rfl
theorem i247_109 : insAt 247 109 = some (.iload 1, 110) := by decide +kernel
theorem r247_109 {E : aEnv} {c : Nat} {ah : aHp} {st : List Value} {Q : Option Value → aHp → Prop} {a0 a2 : Option Value} {x : Int32} : WP E c 247 109 [a0, some (.int x), a2] (st) ah Q = WP E c 247 110 [a0, some (.int x), a2] (.int x :: st) ah Q := wp_s i247_109 rfl rfl rfl rfl
theorem i247_110 : insAt 247 110 = some (.ifCond .ne 118, 113) := by decide +kernel
theorem r247_110 {E : aEnv} {c : Nat} {ah : aHp} {st : List Value} {Q : Option Value → aHp → Prop} {a0 a1 a2 : Option Value} {x : Int32} : WP E c 247 110 [a0, a1, a2] (.int x :: st) ah Q = if ¬ x = 0 then WP E c 247 118 [a0, a1, a2] st ah Q else WP E c 247 113 [a0, a1, a2] st ah Q := wp_j i247_110 rfl rfl rfl rfl
theorem i247_113 : insAt 247 113 = some (.aload 0, 114) := by decide +kernel
theorem r247_113 {E : aEnv} {c : Nat} {ah : aHp} {st : List Value} {Q : Option Value → aHp → Prop} {a1 a2 : Option Value} {x : Nat} : WP E c 247 113 [some (.ref x), a1, a2] (st) ah Q = WP E c 247 114 [some (.ref x), a1, a2] (.ref x :: st) ah Q := wp_s i247_113 rfl rfl rfl rfl
theorem i247_114 : insAt 247 114 = some (.iload 2, 115) := by decide +kernel
theorem r247_114 {E : aEnv} {c : Nat} {ah : aHp} {st : List Value} {Q : Option Value → aHp → Prop} {a0 a1 : Option Value} {x : Int32} : WP E c 247 114 [a0, a1, some (.int x)] (st) ah Q = WP E c 247 115 [a0, a1, some (.int x)] (.int x :: st) ah Q := wp_s i247_114 rfl rfl rfl rfl
theorem i247_115 : insAt 247 115 = some (.invokevirtual 248, 118) := by decide +kernel
theorem r247_115 {E : aEnv} {c : Nat} {ah ah1 : aHp} {r : Option Value} {st : List Value} {Q : Option Value → aHp → Prop} {a0 a1 a2 : Option Value} {p0 : Nat} {p1 : Int32} (h : EV E c 248 [.ref p0, .int p1] ah r ah1) (h2 : oCI (hg E ah p0) = 11) (h3 : wds st ≤ 8) : WP E (c + 1) 247 115 [a0, a1, a2] (.int p1 :: .ref p0 :: st) ah Q = WP E (c + 1) 247 118 [a0, a1, a2] (r.toList ++ st) ah1 Q := wp_call (As := [.ref p0, .int p1]) i247_115 (fun _ => rfl) rfl mr248.1 (rcv_1 h2 mr248.2.2 (by decide)) h3 (by rw [mr248.2.1]; exact Nat.le_of_ble_eq_true rfl) h
theorem i247_118 : insAt 247 118 = some (.iload 1, 119) := by decide +kernel
theorem r247_118 {E : aEnv} {c : Nat} {ah : aHp} {st : List Value} {Q : Option Value → aHp → Prop} {a0 a2 : Option Value} {x : Int32} : WP E c 247 118 [a0, some (.int x), a2] (st) ah Q = WP E c 247 119 [a0, some (.int x), a2] (.int x :: st) ah Q := wp_s i247_118 rfl rfl rfl rfl
theorem i247_119 : insAt 247 119 = some (.i2l, 120) := by decide +kernel
theorem r247_119 {E : aEnv} {c : Nat} {ah : aHp} {st : List Value} {Q : Option Value → aHp → Prop} {a0 a1 a2 : Option Value} {x : Int32} : WP E c 247 119 [a0, a1, a2] (.int x :: st) ah Q = WP E c 247 120 [a0, a1, a2] (.long x.toInt64 :: st) ah Q := wp_s i247_119 rfl rfl rfl rfl
theorem i247_120 : insAt 247 120 = some (.jsr_w 1, 121) := by decide +kernel
theorem r247_120 {E : aEnv} {c : Nat} {ah : aHp} {st : List Value} {Q : Option Value → aHp → Prop} {a0 a1 a2 : Option Value} : WP E c 247 120 [a0, a1, a2] (st) ah Q = WP E c 247 121 [a0, a1, a2] (.long (1) :: st) ah Q := wp_s i247_120 rfl rfl rfl rfl
theorem i247_121 : insAt 247 121 = some (.jsr_w 4, 124) := by decide +kernel
theorem r247_121 {E : aEnv} {c : Nat} {ah : aHp} {st : List Value} {Q : Option Value → aHp → Prop} {a0 a1 a2 : Option Value} : WP E c 247 121 [a0, a1, a2] (st) ah Q = WP E c 247 124 [a0, a1, a2] (.long (4) :: st) ah Q := wp_s i247_121 rfl rfl rfl rfl
theorem i247_124 : insAt 247 124 = some (.invokestatic 199, 127) := by decide +kernel
theorem r247_124 {E : aEnv} {c : Nat} {ah ah1 : aHp} {r : Option Value} {st : List Value} {Q : Option Value → aHp → Prop} {a0 a1 a2 : Option Value} {p0 : Int64} {p1 : Int64} {p2 : Int64} (h : EV E c 199 [.long p0, .long p1, .long p2] ah r ah1) (h3 : wds st ≤ 8) : WP E (c + 1) 247 124 [a0, a1, a2] (.long p2 :: .long p1 :: .long p0 :: st) ah Q = WP E (c + 1) 247 127 [a0, a1, a2] (r.toList ++ st) ah1 Q := wp_call (As := [.long p0, .long p1, .long p2]) i247_124 (fun _ => rfl) rfl mr199.1 rfl h3 (by rw [mr199.2.1]; exact Nat.le_of_ble_eq_true rfl) h
theorem i247_127 : insAt 247 127 = some (.ifCond .eq 143, 130) := by decide +kernel
theorem r247_127 {E : aEnv} {c : Nat} {ah : aHp} {st : List Value} {Q : Option Value → aHp → Prop} {a0 a1 a2 : Option Value} {x : Int32} : WP E c 247 127 [a0, a1, a2] (.int x :: st) ah Q = if x = 0 then WP E c 247 143 [a0, a1, a2] st ah Q else WP E c 247 130 [a0, a1, a2] st ah Q := wp_j i247_127 rfl rfl rfl rfl
theorem i247_130 : insAt 247 130 = some (.aload 0, 131) := by decide +kernel
theorem r247_130 {E : aEnv} {c : Nat} {ah : aHp} {st : List Value} {Q : Option Value → aHp → Prop} {a1 a2 : Option Value} {x : Nat} : WP E c 247 130 [some (.ref x), a1, a2] (st) ah Q = WP E c 247 131 [some (.ref x), a1, a2] (.ref x :: st) ah Q := wp_s i247_130 rfl rfl rfl rfl
theorem i247_131 : insAt 247 131 = some (.getfield 11512, 134) := by decide +kernel
theorem r247_131 {E : aEnv} {c : Nat} {ah : aHp} {st : List Value} {Q : Option Value → aHp → Prop} {a0 a1 a2 : Option Value} {a : Nat} : WP E c 247 131 [a0, a1, a2] (.ref a :: st) ah Q = WPo (oGF (hg E ah a) 11 51) (fun v => WP E c 247 134 [a0, a1, a2] (v :: st) ah Q) := wp_getf i247_131
theorem i247_134 : insAt 247 134 = some (.iload 2, 135) := by decide +kernel
theorem r247_134 {E : aEnv} {c : Nat} {ah : aHp} {st : List Value} {Q : Option Value → aHp → Prop} {a0 a1 : Option Value} {x : Int32} : WP E c 247 134 [a0, a1, some (.int x)] (st) ah Q = WP E c 247 135 [a0, a1, some (.int x)] (.int x :: st) ah Q := wp_s i247_134 rfl rfl rfl rfl
theorem i247_135 : insAt 247 135 = some (.aload 0, 136) := by decide +kernel
theorem r247_135 {E : aEnv} {c : Nat} {ah : aHp} {st : List Value} {Q : Option Value → aHp → Prop} {a1 a2 : Option Value} {x : Nat} : WP E c 247 135 [some (.ref x), a1, a2] (st) ah Q = WP E c 247 136 [some (.ref x), a1, a2] (.ref x :: st) ah Q := wp_s i247_135 rfl rfl rfl rfl
theorem i247_136 : insAt 247 136 = some (.iconst 0, 137) := by decide +kernel
theorem r247_136 {E : aEnv} {c : Nat} {ah : aHp} {st : List Value} {Q : Option Value → aHp → Prop} {a0 a1 a2 : Option Value} : WP E c 247 136 [a0, a1, a2] (st) ah Q = WP E c 247 137 [a0, a1, a2] (.int (0) :: st) ah Q := wp_s i247_136 rfl rfl rfl rfl
theorem i247_137 : insAt 247 137 = some (.iconst 19, 139) := by decide +kernel
theorem r247_137 {E : aEnv} {c : Nat} {ah : aHp} {st : List Value} {Q : Option Value → aHp → Prop} {a0 a1 a2 : Option Value} : WP E c 247 137 [a0, a1, a2] (st) ah Q = WP E c 247 139 [a0, a1, a2] (.int (19) :: st) ah Q := wp_s i247_137 rfl rfl rfl rfl
theorem i247_139 : insAt 247 139 = some (.invokevirtual 245, 142) := by decide +kernel
theorem r247_139 {E : aEnv} {c : Nat} {ah ah1 : aHp} {r : Option Value} {st : List Value} {Q : Option Value → aHp → Prop} {a0 a1 a2 : Option Value} {p0 : Nat} {p1 : Int32} {p2 : Int32} (h : EV E c 245 [.ref p0, .int p1, .int p2] ah r ah1) (h2 : oCI (hg E ah p0) = 11) (h3 : wds st ≤ 8) : WP E (c + 1) 247 139 [a0, a1, a2] (.int p2 :: .int p1 :: .ref p0 :: st) ah Q = WP E (c + 1) 247 142 [a0, a1, a2] (r.toList ++ st) ah1 Q := wp_call (As := [.ref p0, .int p1, .int p2]) i247_139 (fun _ => rfl) rfl mr245.1 (rcv_1 h2 mr245.2.2 (by decide)) h3 (by rw [mr245.2.1]; exact Nat.le_of_ble_eq_true rfl) h
theorem i247_142 : insAt 247 142 = some (.iastore, 143) := by decide +kernel
theorem r247_142 {E : aEnv} {c : Nat} {ah : aHp} {st : List Value} {Q : Option Value → aHp → Prop} {a0 a1 a2 : Option Value} {x : Int32} {i : Int32} {a : Nat} : WP E c 247 142 [a0, a1, a2] (.int x :: .int i :: .ref a :: st) ah Q = WPo (pI E ah (.int x :: .int i :: .ref a :: st)) (fun q9 => WP E c 247 143 [a0, a1, a2] q9.1 q9.2 Q) := wp_hw i247_142 rfl rfl rfl rfl rfl rfl rfl rfl
theorem i247_143 : insAt 247 143 = some (.iload 1, 144) := by decide +kernel
theorem r247_143 {E : aEnv} {c : Nat} {ah : aHp} {st : List Value} {Q : Option Value → aHp → Prop} {a0 a2 : Option Value} {x : Int32} : WP E c 247 143 [a0, some (.int x), a2] (st) ah Q = WP E c 247 144 [a0, some (.int x), a2] (.int x :: st) ah Q := wp_s i247_143 rfl rfl rfl rfl
theorem i247_144 : insAt 247 144 = some (.i2l, 145) := by decide +kernel
theorem r247_144 {E : aEnv} {c : Nat} {ah : aHp} {st : List Value} {Q : Option Value → aHp → Prop} {a0 a1 a2 : Option Value} {x : Int32} : WP E c 247 144 [a0, a1, a2] (.int x :: st) ah Q = WP E c 247 145 [a0, a1, a2] (.long x.toInt64 :: st) ah Q := wp_s i247_144 rfl rfl rfl rfl
theorem i247_145 : insAt 247 145 = some (.jsr_w 1, 146) := by decide +kernel
theorem r247_145 {E : aEnv} {c : Nat} {ah : aHp} {st : List Value} {Q : Option Value → aHp → Prop} {a0 a1 a2 : Option Value} : WP E c 247 145 [a0, a1, a2] (st) ah Q = WP E c 247 146 [a0, a1, a2] (.long (1) :: st) ah Q := wp_s i247_145 rfl rfl rfl rfl
theorem i247_146 : insAt 247 146 = some (.jsr_w 4, 149) := by decide +kernel
theorem r247_146 {E : aEnv} {c : Nat} {ah : aHp} {st : List Value} {Q : Option Value → aHp → Prop} {a0 a1 a2 : Option Value} : WP E c 247 146 [a0, a1, a2] (st) ah Q = WP E c 247 149 [a0, a1, a2] (.long (4) :: st) ah Q := wp_s i247_146 rfl rfl rfl rfl
theorem i247_149 : insAt 247 149 = some (.invokestatic 199, 152) := by decide +kernel
theorem r247_149 {E : aEnv} {c : Nat} {ah ah1 : aHp} {r : Option Value} {st : List Value} {Q : Option Value → aHp → Prop} {a0 a1 a2 : Option Value} {p0 : Int64} {p1 : Int64} {p2 : Int64} (h : EV E c 199 [.long p0, .long p1, .long p2] ah r ah1) (h3 : wds st ≤ 8) : WP E (c + 1) 247 149 [a0, a1, a2] (.long p2 :: .long p1 :: .long p0 :: st) ah Q = WP E (c + 1) 247 152 [a0, a1, a2] (r.toList ++ st) ah1 Q := wp_call (As := [.long p0, .long p1, .long p2]) i247_149 (fun _ => rfl) rfl mr199.1 rfl h3 (by rw [mr199.2.1]; exact Nat.le_of_ble_eq_true rfl) h
theorem i247_152 : insAt 247 152 = some (.ifCond .eq 168, 155) := by decide +kernel
theorem r247_152 {E : aEnv} {c : Nat} {ah : aHp} {st : List Value} {Q : Option Value → aHp → Prop} {a0 a1 a2 : Option Value} {x : Int32} : WP E c 247 152 [a0, a1, a2] (.int x :: st) ah Q = if x = 0 then WP E c 247 168 [a0, a1, a2] st ah Q else WP E c 247 155 [a0, a1, a2] st ah Q := wp_j i247_152 rfl rfl rfl rfl
theorem i247_155 : insAt 247 155 = some (.aload 0, 156) := by decide +kernel
theorem r247_155 {E : aEnv} {c : Nat} {ah : aHp} {st : List Value} {Q : Option Value → aHp → Prop} {a1 a2 : Option Value} {x : Nat} : WP E c 247 155 [some (.ref x), a1, a2] (st) ah Q = WP E c 247 156 [some (.ref x), a1, a2] (.ref x :: st) ah Q := wp_s i247_155 rfl rfl rfl rfl
theorem i247_156 : insAt 247 156 = some (.getfield 11522, 159) := by decide +kernel
theorem r247_156 {E : aEnv} {c : Nat} {ah : aHp} {st : List Value} {Q : Option Value → aHp → Prop} {a0 a1 a2 : Option Value} {a : Nat} : WP E c 247 156 [a0, a1, a2] (.ref a :: st) ah Q = WPo (oGF (hg E ah a) 11 52) (fun v => WP E c 247 159 [a0, a1, a2] (v :: st) ah Q) := wp_getf i247_156
theorem i247_159 : insAt 247 159 = some (.iload 2, 160) := by decide +kernel
theorem r247_159 {E : aEnv} {c : Nat} {ah : aHp} {st : List Value} {Q : Option Value → aHp → Prop} {a0 a1 : Option Value} {x : Int32} : WP E c 247 159 [a0, a1, some (.int x)] (st) ah Q = WP E c 247 160 [a0, a1, some (.int x)] (.int x :: st) ah Q := wp_s i247_159 rfl rfl rfl rfl
theorem i247_160 : insAt 247 160 = some (.aload 0, 161) := by decide +kernel
theorem r247_160 {E : aEnv} {c : Nat} {ah : aHp} {st : List Value} {Q : Option Value → aHp → Prop} {a1 a2 : Option Value} {x : Nat} : WP E c 247 160 [some (.ref x), a1, a2] (st) ah Q = WP E c 247 161 [some (.ref x), a1, a2] (.ref x :: st) ah Q := wp_s i247_160 rfl rfl rfl rfl
theorem i247_161 : insAt 247 161 = some (.iconst 0, 162) := by decide +kernel
theorem r247_161 {E : aEnv} {c : Nat} {ah : aHp} {st : List Value} {Q : Option Value → aHp → Prop} {a0 a1 a2 : Option Value} : WP E c 247 161 [a0, a1, a2] (st) ah Q = WP E c 247 162 [a0, a1, a2] (.int (0) :: st) ah Q := wp_s i247_161 rfl rfl rfl rfl
theorem i247_162 : insAt 247 162 = some (.iconst 19, 164) := by decide +kernel
theorem r247_162 {E : aEnv} {c : Nat} {ah : aHp} {st : List Value} {Q : Option Value → aHp → Prop} {a0 a1 a2 : Option Value} : WP E c 247 162 [a0, a1, a2] (st) ah Q = WP E c 247 164 [a0, a1, a2] (.int (19) :: st) ah Q := wp_s i247_162 rfl rfl rfl rfl
theorem i247_164 : insAt 247 164 = some (.invokevirtual 245, 167) := by decide +kernel
theorem r247_164 {E : aEnv} {c : Nat} {ah ah1 : aHp} {r : Option Value} {st : List Value} {Q : Option Value → aHp → Prop} {a0 a1 a2 : Option Value} {p0 : Nat} {p1 : Int32} {p2 : Int32} (h : EV E c 245 [.ref p0, .int p1, .int p2] ah r ah1) (h2 : oCI (hg E ah p0) = 11) (h3 : wds st ≤ 8) : WP E (c + 1) 247 164 [a0, a1, a2] (.int p2 :: .int p1 :: .ref p0 :: st) ah Q = WP E (c + 1) 247 167 [a0, a1, a2] (r.toList ++ st) ah1 Q := wp_call (As := [.ref p0, .int p1, .int p2]) i247_164 (fun _ => rfl) rfl mr245.1 (rcv_1 h2 mr245.2.2 (by decide)) h3 (by rw [mr245.2.1]; exact Nat.le_of_ble_eq_true rfl) h
theorem i247_167 : insAt 247 167 = some (.iastore, 168) := by decide +kernel
theorem r247_167 {E : aEnv} {c : Nat} {ah : aHp} {st : List Value} {Q : Option Value → aHp → Prop} {a0 a1 a2 : Option Value} {x : Int32} {i : Int32} {a : Nat} : WP E c 247 167 [a0, a1, a2] (.int x :: .int i :: .ref a :: st) ah Q = WPo (pI E ah (.int x :: .int i :: .ref a :: st)) (fun q9 => WP E c 247 168 [a0, a1, a2] q9.1 q9.2 Q) := wp_hw i247_167 rfl rfl rfl rfl rfl rfl rfl rfl
theorem i247_168 : insAt 247 168 = some (.iload 1, 169) := by decide +kernel
theorem r247_168 {E : aEnv} {c : Nat} {ah : aHp} {st : List Value} {Q : Option Value → aHp → Prop} {a0 a2 : Option Value} {x : Int32} : WP E c 247 168 [a0, some (.int x), a2] (st) ah Q = WP E c 247 169 [a0, some (.int x), a2] (.int x :: st) ah Q := wp_s i247_168 rfl rfl rfl rfl
theorem i247_169 : insAt 247 169 = some (.iconst 4, 170) := by decide +kernel
theorem r247_169 {E : aEnv} {c : Nat} {ah : aHp} {st : List Value} {Q : Option Value → aHp → Prop} {a0 a1 a2 : Option Value} : WP E c 247 169 [a0, a1, a2] (st) ah Q = WP E c 247 170 [a0, a1, a2] (.int (4) :: st) ah Q := wp_s i247_169 rfl rfl rfl rfl
theorem i247_170 : insAt 247 170 = some (.if_icmp .ne 186, 173) := by decide +kernel
theorem r247_170 {E : aEnv} {c : Nat} {ah : aHp} {st : List Value} {Q : Option Value → aHp → Prop} {a0 a1 a2 : Option Value} {x y : Int32} : WP E c 247 170 [a0, a1, a2] (.int y :: .int x :: st) ah Q = if ¬ x = y then WP E c 247 186 [a0, a1, a2] st ah Q else WP E c 247 173 [a0, a1, a2] st ah Q := wp_j i247_170 rfl rfl rfl rfl
theorem i247_173 : insAt 247 173 = some (.aload 0, 174) := by decide +kernel
theorem r247_173 {E : aEnv} {c : Nat} {ah : aHp} {st : List Value} {Q : Option Value → aHp → Prop} {a1 a2 : Option Value} {x : Nat} : WP E c 247 173 [some (.ref x), a1, a2] (st) ah Q = WP E c 247 174 [some (.ref x), a1, a2] (.ref x :: st) ah Q := wp_s i247_173 rfl rfl rfl rfl
theorem i247_174 : insAt 247 174 = some (.getfield 11532, 177) := by decide +kernel
theorem r247_174 {E : aEnv} {c : Nat} {ah : aHp} {st : List Value} {Q : Option Value → aHp → Prop} {a0 a1 a2 : Option Value} {a : Nat} : WP E c 247 174 [a0, a1, a2] (.ref a :: st) ah Q = WPo (oGF (hg E ah a) 11 53) (fun v => WP E c 247 177 [a0, a1, a2] (v :: st) ah Q) := wp_getf i247_174
theorem i247_177 : insAt 247 177 = some (.iload 2, 178) := by decide +kernel
theorem r247_177 {E : aEnv} {c : Nat} {ah : aHp} {st : List Value} {Q : Option Value → aHp → Prop} {a0 a1 : Option Value} {x : Int32} : WP E c 247 177 [a0, a1, some (.int x)] (st) ah Q = WP E c 247 178 [a0, a1, some (.int x)] (.int x :: st) ah Q := wp_s i247_177 rfl rfl rfl rfl
theorem i247_178 : insAt 247 178 = some (.aload 0, 179) := by decide +kernel
theorem r247_178 {E : aEnv} {c : Nat} {ah : aHp} {st : List Value} {Q : Option Value → aHp → Prop} {a1 a2 : Option Value} {x : Nat} : WP E c 247 178 [some (.ref x), a1, a2] (st) ah Q = WP E c 247 179 [some (.ref x), a1, a2] (.ref x :: st) ah Q := wp_s i247_178 rfl rfl rfl rfl
theorem i247_179 : insAt 247 179 = some (.iconst 0, 180) := by decide +kernel
theorem r247_179 {E : aEnv} {c : Nat} {ah : aHp} {st : List Value} {Q : Option Value → aHp → Prop} {a0 a1 a2 : Option Value} : WP E c 247 179 [a0, a1, a2] (st) ah Q = WP E c 247 180 [a0, a1, a2] (.int (0) :: st) ah Q := wp_s i247_179 rfl rfl rfl rfl
theorem i247_180 : insAt 247 180 = some (.iconst 19, 182) := by decide +kernel
theorem r247_180 {E : aEnv} {c : Nat} {ah : aHp} {st : List Value} {Q : Option Value → aHp → Prop} {a0 a1 a2 : Option Value} : WP E c 247 180 [a0, a1, a2] (st) ah Q = WP E c 247 182 [a0, a1, a2] (.int (19) :: st) ah Q := wp_s i247_180 rfl rfl rfl rfl
theorem i247_182 : insAt 247 182 = some (.invokevirtual 245, 185) := by decide +kernel
theorem r247_182 {E : aEnv} {c : Nat} {ah ah1 : aHp} {r : Option Value} {st : List Value} {Q : Option Value → aHp → Prop} {a0 a1 a2 : Option Value} {p0 : Nat} {p1 : Int32} {p2 : Int32} (h : EV E c 245 [.ref p0, .int p1, .int p2] ah r ah1) (h2 : oCI (hg E ah p0) = 11) (h3 : wds st ≤ 8) : WP E (c + 1) 247 182 [a0, a1, a2] (.int p2 :: .int p1 :: .ref p0 :: st) ah Q = WP E (c + 1) 247 185 [a0, a1, a2] (r.toList ++ st) ah1 Q := wp_call (As := [.ref p0, .int p1, .int p2]) i247_182 (fun _ => rfl) rfl mr245.1 (rcv_1 h2 mr245.2.2 (by decide)) h3 (by rw [mr245.2.1]; exact Nat.le_of_ble_eq_true rfl) h
theorem i247_185 : insAt 247 185 = some (.iastore, 186) := by decide +kernel
theorem r247_185 {E : aEnv} {c : Nat} {ah : aHp} {st : List Value} {Q : Option Value → aHp → Prop} {a0 a1 a2 : Option Value} {x : Int32} {i : Int32} {a : Nat} : WP E c 247 185 [a0, a1, a2] (.int x :: .int i :: .ref a :: st) ah Q = WPo (pI E ah (.int x :: .int i :: .ref a :: st)) (fun q9 => WP E c 247 186 [a0, a1, a2] q9.1 q9.2 Q) := wp_hw i247_185 rfl rfl rfl rfl rfl rfl rfl rfl
theorem i247_186 : insAt 247 186 = some (.aload 0, 187) := by decide +kernel
theorem r247_186 {E : aEnv} {c : Nat} {ah : aHp} {st : List Value} {Q : Option Value → aHp → Prop} {a1 a2 : Option Value} {x : Nat} : WP E c 247 186 [some (.ref x), a1, a2] (st) ah Q = WP E c 247 187 [some (.ref x), a1, a2] (.ref x :: st) ah Q := wp_s i247_186 rfl rfl rfl rfl
theorem i247_187 : insAt 247 187 = some (.getfield 11330, 190) := by decide +kernel
theorem r247_187 {E : aEnv} {c : Nat} {ah : aHp} {st : List Value} {Q : Option Value → aHp → Prop} {a0 a1 a2 : Option Value} {a : Nat} : WP E c 247 187 [a0, a1, a2] (.ref a :: st) ah Q = WPo (oGF (hg E ah a) 11 33) (fun v => WP E c 247 190 [a0, a1, a2] (v :: st) ah Q) := wp_getf i247_187
theorem i247_190 : insAt 247 190 = some (.ifCond .ne 206, 193) := by decide +kernel
theorem r247_190 {E : aEnv} {c : Nat} {ah : aHp} {st : List Value} {Q : Option Value → aHp → Prop} {a0 a1 a2 : Option Value} {x : Int32} : WP E c 247 190 [a0, a1, a2] (.int x :: st) ah Q = if ¬ x = 0 then WP E c 247 206 [a0, a1, a2] st ah Q else WP E c 247 193 [a0, a1, a2] st ah Q := wp_j i247_190 rfl rfl rfl rfl
theorem i247_193 : insAt 247 193 = some (.aload 0, 194) := by decide +kernel
theorem r247_193 {E : aEnv} {c : Nat} {ah : aHp} {st : List Value} {Q : Option Value → aHp → Prop} {a1 a2 : Option Value} {x : Nat} : WP E c 247 193 [some (.ref x), a1, a2] (st) ah Q = WP E c 247 194 [some (.ref x), a1, a2] (.ref x :: st) ah Q := wp_s i247_193 rfl rfl rfl rfl
theorem i247_194 : insAt 247 194 = some (.iconst 59, 196) := by decide +kernel
theorem r247_194 {E : aEnv} {c : Nat} {ah : aHp} {st : List Value} {Q : Option Value → aHp → Prop} {a0 a1 a2 : Option Value} : WP E c 247 194 [a0, a1, a2] (st) ah Q = WP E c 247 196 [a0, a1, a2] (.int (59) :: st) ah Q := wp_s i247_194 rfl rfl rfl rfl
theorem i247_196 : insAt 247 196 = some (.invokevirtual 242, 199) := by decide +kernel
theorem r247_196 {E : aEnv} {c : Nat} {ah ah1 : aHp} {r : Option Value} {st : List Value} {Q : Option Value → aHp → Prop} {a0 a1 a2 : Option Value} {p0 : Nat} {p1 : Int32} (h : EV E c 242 [.ref p0, .int p1] ah r ah1) (h2 : oCI (hg E ah p0) = 11) (h3 : wds st ≤ 8) : WP E (c + 1) 247 196 [a0, a1, a2] (.int p1 :: .ref p0 :: st) ah Q = WP E (c + 1) 247 199 [a0, a1, a2] (r.toList ++ st) ah1 Q := wp_call (As := [.ref p0, .int p1]) i247_196 (fun _ => rfl) rfl mr242.1 (rcv_1 h2 mr242.2.2 (by decide)) h3 (by rw [mr242.2.1]; exact Nat.le_of_ble_eq_true rfl) h
theorem i247_199 : insAt 247 199 = some (.ifCond .ne 206, 202) := by decide +kernel
theorem r247_199 {E : aEnv} {c : Nat} {ah : aHp} {st : List Value} {Q : Option Value → aHp → Prop} {a0 a1 a2 : Option Value} {x : Int32} : WP E c 247 199 [a0, a1, a2] (.int x :: st) ah Q = if ¬ x = 0 then WP E c 247 206 [a0, a1, a2] st ah Q else WP E c 247 202 [a0, a1, a2] st ah Q := wp_j i247_199 rfl rfl rfl rfl
theorem i247_202 : insAt 247 202 = some (.aload 0, 203) := by decide +kernel
theorem r247_202 {E : aEnv} {c : Nat} {ah : aHp} {st : List Value} {Q : Option Value → aHp → Prop} {a1 a2 : Option Value} {x : Nat} : WP E c 247 202 [some (.ref x), a1, a2] (st) ah Q = WP E c 247 203 [some (.ref x), a1, a2] (.ref x :: st) ah Q := wp_s i247_202 rfl rfl rfl rfl
theorem i247_203 : insAt 247 203 = some (.invokevirtual 244, 206) := by decide +kernel
theorem r247_203 {E : aEnv} {c : Nat} {ah ah1 : aHp} {r : Option Value} {st : List Value} {Q : Option Value → aHp → Prop} {a0 a1 a2 : Option Value} {p0 : Nat} (h : EV E c 244 [.ref p0] ah r ah1) (h2 : oCI (hg E ah p0) = 11) (h3 : wds st ≤ 8) : WP E (c + 1) 247 203 [a0, a1, a2] (.ref p0 :: st) ah Q = WP E (c + 1) 247 206 [a0, a1, a2] (r.toList ++ st) ah1 Q := wp_call (As := [.ref p0]) i247_203 (fun _ => rfl) rfl mr244.1 (rcv_1 h2 mr244.2.2 (by decide)) h3 (by rw [mr244.2.1]; exact Nat.le_of_ble_eq_true rfl) h
theorem i247_206 : insAt 247 206 = some (.aload 0, 207) := by decide +kernel
theorem r247_206 {E : aEnv} {c : Nat} {ah : aHp} {st : List Value} {Q : Option Value → aHp → Prop} {a1 a2 : Option Value} {x : Nat} : WP E c 247 206 [some (.ref x), a1, a2] (st) ah Q = WP E c 247 207 [some (.ref x), a1, a2] (.ref x :: st) ah Q := wp_s i247_206 rfl rfl rfl rfl
theorem i247_207 : insAt 247 207 = some (.getfield 11330, 210) := by decide +kernel
theorem r247_207 {E : aEnv} {c : Nat} {ah : aHp} {st : List Value} {Q : Option Value → aHp → Prop} {a0 a1 a2 : Option Value} {a : Nat} : WP E c 247 207 [a0, a1, a2] (.ref a :: st) ah Q = WPo (oGF (hg E ah a) 11 33) (fun v => WP E c 247 210 [a0, a1, a2] (v :: st) ah Q) := wp_getf i247_207
theorem i247_210 : insAt 247 210 = some (.ifCond .le 214, 213) := by decide +kernel
theorem r247_210 {E : aEnv} {c : Nat} {ah : aHp} {st : List Value} {Q : Option Value → aHp → Prop} {a0 a1 a2 : Option Value} {x : Int32} : WP E c 247 210 [a0, a1, a2] (.int x :: st) ah Q = if x ≤ 0 then WP E c 247 214 [a0, a1, a2] st ah Q else WP E c 247 213 [a0, a1, a2] st ah Q := wp_j i247_210 rfl rfl rfl rfl
theorem i247_213 : insAt 247 213 = some (.return_, 214) := by decide +kernel
theorem r247_213 {E : aEnv} {c : Nat} {ah : aHp} {Q : Option Value → aHp → Prop} {a0 a1 a2 : Option Value} : WP E c 247 213 [a0, a1, a2] ([]) ah Q = Q none ah := wp_rt i247_213 rfl
theorem i247_214 : insAt 247 214 = some (.aload 0, 215) := by decide +kernel
theorem r247_214 {E : aEnv} {c : Nat} {ah : aHp} {st : List Value} {Q : Option Value → aHp → Prop} {a1 a2 : Option Value} {x : Nat} : WP E c 247 214 [some (.ref x), a1, a2] (st) ah Q = WP E c 247 215 [some (.ref x), a1, a2] (.ref x :: st) ah Q := wp_s i247_214 rfl rfl rfl rfl
theorem i247_215 : insAt 247 215 = some (.invokevirtual 239, 218) := by decide +kernel
theorem r247_215 {E : aEnv} {c : Nat} {ah ah1 : aHp} {r : Option Value} {st : List Value} {Q : Option Value → aHp → Prop} {a0 a1 a2 : Option Value} {p0 : Nat} (h : EV E c 239 [.ref p0] ah r ah1) (h2 : oCI (hg E ah p0) = 11) (h3 : wds st ≤ 8) : WP E (c + 1) 247 215 [a0, a1, a2] (.ref p0 :: st) ah Q = WP E (c + 1) 247 218 [a0, a1, a2] (r.toList ++ st) ah1 Q := wp_call (As := [.ref p0]) i247_215 (fun _ => rfl) rfl mr239.1 (rcv_1 h2 mr239.2.2 (by decide)) h3 (by rw [mr239.2.1]; exact Nat.le_of_ble_eq_true rfl) h
theorem i247_218 : insAt 247 218 = some (.aload 0, 219) := by decide +kernel
theorem r247_218 {E : aEnv} {c : Nat} {ah : aHp} {st : List Value} {Q : Option Value → aHp → Prop} {a1 a2 : Option Value} {x : Nat} : WP E c 247 218 [some (.ref x), a1, a2] (st) ah Q = WP E c 247 219 [some (.ref x), a1, a2] (.ref x :: st) ah Q := wp_s i247_218 rfl rfl rfl rfl
theorem i247_219 : insAt 247 219 = some (.dup, 220) := by decide +kernel
theorem r247_219 {E : aEnv} {c : Nat} {ah : aHp} {st : List Value} {Q : Option Value → aHp → Prop} {a0 a1 a2 : Option Value} {x : Nat} : WP E c 247 219 [a0, a1, a2] (.ref x :: st) ah Q = WP E c 247 220 [a0, a1, a2] (.ref x :: .ref x :: st) ah Q := wp_s i247_219 rfl rfl rfl rfl
theorem r247_219i {E : aEnv} {c : Nat} {ah : aHp} {st : List Value} {Q : Option Value → aHp → Prop} {a0 a1 a2 : Option Value} {x : Int32} : WP E c 247 219 [a0, a1, a2] (.int x :: st) ah Q = WP E c 247 220 [a0, a1, a2] (.int x :: .int x :: st) ah Q := wp_s i247_219 rfl rfl rfl rfl
theorem i247_220 : insAt 247 220 = some (.getfield 11420, 223) := by decide +kernel
theorem r247_220 {E : aEnv} {c : Nat} {ah : aHp} {st : List Value} {Q : Option Value → aHp → Prop} {a0 a1 a2 : Option Value} {a : Nat} : WP E c 247 220 [a0, a1, a2] (.ref a :: st) ah Q = WPo (oGF (hg E ah a) 11 42) (fun v => WP E c 247 223 [a0, a1, a2] (v :: st) ah Q) := wp_getf i247_220
theorem i247_223 : insAt 247 223 = some (.iconst 1, 224) := by decide +kernel
theorem r247_223 {E : aEnv} {c : Nat} {ah : aHp} {st : List Value} {Q : Option Value → aHp → Prop} {a0 a1 a2 : Option Value} : WP E c 247 223 [a0, a1, a2] (st) ah Q = WP E c 247 224 [a0, a1, a2] (.int (1) :: st) ah Q := wp_s i247_223 rfl rfl rfl rfl
theorem i247_224 : insAt 247 224 = some (.iadd, 225) := by decide +kernel
theorem r247_224 {E : aEnv} {c : Nat} {ah : aHp} {st : List Value} {Q : Option Value → aHp → Prop} {a0 a1 a2 : Option Value} {x y : Int32} : WP E c 247 224 [a0, a1, a2] (.int y :: .int x :: st) ah Q = WP E c 247 225 [a0, a1, a2] (.int (x + y) :: st) ah Q := wp_s i247_224 rfl rfl rfl rfl
theorem i247_225 : insAt 247 225 = some (.putfield 11420, 228) := by decide +kernel
theorem r247_225 {E : aEnv} {c : Nat} {ah : aHp} {st : List Value} {Q : Option Value → aHp → Prop} {a0 a1 a2 : Option Value} {a : Nat} {v : Value} : WP E c 247 225 [a0, a1, a2] (v :: .ref a :: st) ah Q = WPo (oPF (hg E ah a) 11420 v) (fun e => WP E c 247 228 [a0, a1, a2] st (hs E ah a e) Q) := wp_putf i247_225
theorem i247_228 : insAt 247 228 = some (.return_, 229) := by decide +kernel
theorem r247_228 {E : aEnv} {c : Nat} {ah : aHp} {Q : Option Value → aHp → Prop} {a0 a1 a2 : Option Value} : WP E c 247 228 [a0, a1, a2] ([]) ah Q = Q none ah := wp_rt i247_228 rfl
theorem e248 {E : aEnv} {c : Nat} {ah ahF : aHp} {r : Option Value} {p0 : Nat} {p1 : Int32} (h : WP E c 248 0 [some (.ref p0), some (.int p1), none] [] ah (fun r1 x1 => r1 = r ∧ x1 = ahF)) : EV E c 248 [.ref p0, .int p1] ah r ahF := EV.of (by rw [mr248.2.1]; exact h)
theorem i248_0 : insAt 248 0 = some (.aload 0, 1) := by decide +kernel
theorem r248_0 {E : aEnv} {c : Nat} {ah : aHp} {st : List Value} {Q : Option Value → aHp → Prop} {a1 a2 : Option Value} {x : Nat} : WP E c 248 0 [some (.ref x), a1, a2] (st) ah Q = WP E c 248 1 [some (.ref x), a1, a2] (.ref x :: st) ah Q := wp_s i248_0 rfl rfl rfl rfl
theorem i248_1 : insAt 248 1 = some (.getfield 11330, 4) := by decide +kernel
theorem r248_1 {E : aEnv} {c : Nat} {ah : aHp} {st : List Value} {Q : Option Value → aHp → Prop} {a0 a1 a2 : Option Value} {a : Nat} : WP E c 248 1 [a0, a1, a2] (.ref a :: st) ah Q = WPo (oGF (hg E ah a) 11 33) (fun v => WP E c 248 4 [a0, a1, a2] (v :: st) ah Q) := wp_getf i248_1
theorem i248_4 : insAt 248 4 = some (.ifCond .le 8, 7) := by decide +kernel
theorem r248_4 {E : aEnv} {c : Nat} {ah : aHp} {st : List Value} {Q : Option Value → aHp → Prop} {a0 a1 a2 : Option Value} {x : Int32} : WP E c 248 4 [a0, a1, a2] (.int x :: st) ah Q = if x ≤ 0 then WP E c 248 8 [a0, a1, a2] st ah Q else WP E c 248 7 [a0, a1, a2] st ah Q := wp_j i248_4 rfl rfl rfl rfl
theorem i248_7 : insAt 248 7 = some (.return_, 8) := by decide +kernel
theorem r248_7 {E : aEnv} {c : Nat} {ah : aHp} {Q : Option Value → aHp → Prop} {a0 a1 a2 : Option Value} : WP E c 248 7 [a0, a1, a2] ([]) ah Q = Q none ah := wp_rt i248_7 rfl
theorem i248_8 : insAt 248 8 = some (.aload 0, 9) := by decide +kernel
theorem r248_8 {E : aEnv} {c : Nat} {ah : aHp} {st : List Value} {Q : Option Value → aHp → Prop} {a1 a2 : Option Value} {x : Nat} : WP E c 248 8 [some (.ref x), a1, a2] (st) ah Q = WP E c 248 9 [some (.ref x), a1, a2] (.ref x :: st) ah Q := wp_s i248_8 rfl rfl rfl rfl
theorem i248_9 : insAt 248 9 = some (.iconst 45, 11) := by decide +kernel
theorem r248_9 {E : aEnv} {c : Nat} {ah : aHp} {st : List Value} {Q : Option Value → aHp → Prop} {a0 a1 a2 : Option Value} : WP E c 248 9 [a0, a1, a2] (st) ah Q = WP E c 248 11 [a0, a1, a2] (.int (45) :: st) ah Q := wp_s i248_9 rfl rfl rfl rfl
theorem i248_11 : insAt 248 11 = some (.invokevirtual 242, 14) := by decide +kernel
theorem r248_11 {E : aEnv} {c : Nat} {ah ah1 : aHp} {r : Option Value} {st : List Value} {Q : Option Value → aHp → Prop} {a0 a1 a2 : Option Value} {p0 : Nat} {p1 : Int32} (h : EV E c 242 [.ref p0, .int p1] ah r ah1) (h2 : oCI (hg E ah p0) = 11) (h3 : wds st ≤ 8) : WP E (c + 1) 248 11 [a0, a1, a2] (.int p1 :: .ref p0 :: st) ah Q = WP E (c + 1) 248 14 [a0, a1, a2] (r.toList ++ st) ah1 Q := wp_call (As := [.ref p0, .int p1]) i248_11 (fun _ => rfl) rfl mr242.1 (rcv_1 h2 mr242.2.2 (by decide)) h3 (by rw [mr242.2.1]; exact Nat.le_of_ble_eq_true rfl) h
theorem i248_14 : insAt 248 14 = some (.istore 2, 15) := by decide +kernel
theorem r248_14 {E : aEnv} {c : Nat} {ah : aHp} {st : List Value} {Q : Option Value → aHp → Prop} {a0 a1 a2 : Option Value} {x : Int32} : WP E c 248 14 [a0, a1, a2] (.int x :: st) ah Q = WP E c 248 15 [a0, kil a1, some (.int x)] (st) ah Q := wp_s i248_14 rfl rfl rfl rfl
theorem i248_15 : insAt 248 15 = some (.iload 2, 16) := by decide +kernel
theorem r248_15 {E : aEnv} {c : Nat} {ah : aHp} {st : List Value} {Q : Option Value → aHp → Prop} {a0 a1 : Option Value} {x : Int32} : WP E c 248 15 [a0, a1, some (.int x)] (st) ah Q = WP E c 248 16 [a0, a1, some (.int x)] (.int x :: st) ah Q := wp_s i248_15 rfl rfl rfl rfl
theorem i248_16 : insAt 248 16 = some (.ifCond .eq 23, 19) := by decide +kernel
theorem r248_16 {E : aEnv} {c : Nat} {ah : aHp} {st : List Value} {Q : Option Value → aHp → Prop} {a0 a1 a2 : Option Value} {x : Int32} : WP E c 248 16 [a0, a1, a2] (.int x :: st) ah Q = if x = 0 then WP E c 248 23 [a0, a1, a2] st ah Q else WP E c 248 19 [a0, a1, a2] st ah Q := wp_j i248_16 rfl rfl rfl rfl
theorem i248_19 : insAt 248 19 = some (.aload 0, 20) := by decide +kernel
theorem r248_19 {E : aEnv} {c : Nat} {ah : aHp} {st : List Value} {Q : Option Value → aHp → Prop} {a1 a2 : Option Value} {x : Nat} : WP E c 248 19 [some (.ref x), a1, a2] (st) ah Q = WP E c 248 20 [some (.ref x), a1, a2] (.ref x :: st) ah Q := wp_s i248_19 rfl rfl rfl rfl
theorem i248_20 : insAt 248 20 = some (.invokevirtual 239, 23) := by decide +kernel
theorem r248_20 {E : aEnv} {c : Nat} {ah ah1 : aHp} {r : Option Value} {st : List Value} {Q : Option Value → aHp → Prop} {a0 a1 a2 : Option Value} {p0 : Nat} (h : EV E c 239 [.ref p0] ah r ah1) (h2 : oCI (hg E ah p0) = 11) (h3 : wds st ≤ 8) : WP E (c + 1) 248 20 [a0, a1, a2] (.ref p0 :: st) ah Q = WP E (c + 1) 248 23 [a0, a1, a2] (r.toList ++ st) ah1 Q := wp_call (As := [.ref p0]) i248_20 (fun _ => rfl) rfl mr239.1 (rcv_1 h2 mr239.2.2 (by decide)) h3 (by rw [mr239.2.1]; exact Nat.le_of_ble_eq_true rfl) h
theorem i248_23 : insAt 248 23 = some (.aload 0, 24) := by decide +kernel
theorem r248_23 {E : aEnv} {c : Nat} {ah : aHp} {st : List Value} {Q : Option Value → aHp → Prop} {a1 a2 : Option Value} {x : Nat} : WP E c 248 23 [some (.ref x), a1, a2] (st) ah Q = WP E c 248 24 [some (.ref x), a1, a2] (.ref x :: st) ah Q := wp_s i248_23 rfl rfl rfl rfl
theorem i248_24 : insAt 248 24 = some (.getfield 11350, 27) := by decide +kernel
theorem r248_24 {E : aEnv} {c : Nat} {ah : aHp} {st : List Value} {Q : Option Value → aHp → Prop} {a0 a1 a2 : Option Value} {a : Nat} : WP E c 248 24 [a0, a1, a2] (.ref a :: st) ah Q = WPo (oGF (hg E ah a) 11 35) (fun v => WP E c 248 27 [a0, a1, a2] (v :: st) ah Q) := wp_getf i248_24
theorem i248_27 : insAt 248 27 = some (.iconst 2, 28) := by decide +kernel
theorem r248_27 {E : aEnv} {c : Nat} {ah : aHp} {st : List Value} {Q : Option Value → aHp → Prop} {a0 a1 a2 : Option Value} : WP E c 248 27 [a0, a1, a2] (st) ah Q = WP E c 248 28 [a0, a1, a2] (.int (2) :: st) ah Q := wp_s i248_27 rfl rfl rfl rfl
theorem i248_28 : insAt 248 28 = some (.if_icmp .eq 36, 31) := by decide +kernel
theorem r248_28 {E : aEnv} {c : Nat} {ah : aHp} {st : List Value} {Q : Option Value → aHp → Prop} {a0 a1 a2 : Option Value} {x y : Int32} : WP E c 248 28 [a0, a1, a2] (.int y :: .int x :: st) ah Q = if x = y then WP E c 248 36 [a0, a1, a2] st ah Q else WP E c 248 31 [a0, a1, a2] st ah Q := wp_j i248_28 rfl rfl rfl rfl
theorem i248_31 : insAt 248 31 = some (.aload 0, 32) := by decide +kernel
theorem r248_31 {E : aEnv} {c : Nat} {ah : aHp} {st : List Value} {Q : Option Value → aHp → Prop} {a1 a2 : Option Value} {x : Nat} : WP E c 248 31 [some (.ref x), a1, a2] (st) ah Q = WP E c 248 32 [some (.ref x), a1, a2] (.ref x :: st) ah Q := wp_s i248_31 rfl rfl rfl rfl
theorem i248_32 : insAt 248 32 = some (.invokevirtual 244, 35) := by decide +kernel
theorem r248_32 {E : aEnv} {c : Nat} {ah ah1 : aHp} {r : Option Value} {st : List Value} {Q : Option Value → aHp → Prop} {a0 a1 a2 : Option Value} {p0 : Nat} (h : EV E c 244 [.ref p0] ah r ah1) (h2 : oCI (hg E ah p0) = 11) (h3 : wds st ≤ 8) : WP E (c + 1) 248 32 [a0, a1, a2] (.ref p0 :: st) ah Q = WP E (c + 1) 248 35 [a0, a1, a2] (r.toList ++ st) ah1 Q := wp_call (As := [.ref p0]) i248_32 (fun _ => rfl) rfl mr244.1 (rcv_1 h2 mr244.2.2 (by decide)) h3 (by rw [mr244.2.1]; exact Nat.le_of_ble_eq_true rfl) h
theorem i248_35 : insAt 248 35 = some (.return_, 36) := by decide +kernel
theorem r248_35 {E : aEnv} {c : Nat} {ah : aHp} {Q : Option Value → aHp → Prop} {a0 a1 a2 : Option Value} : WP E c 248 35 [a0, a1, a2] ([]) ah Q = Q none ah := wp_rt i248_35 rfl
theorem i248_36 : insAt 248 36 = some (.aload 0, 37) := by decide +kernel
theorem r248_36 {E : aEnv} {c : Nat} {ah : aHp} {st : List Value} {Q : Option Value → aHp → Prop} {a1 a2 : Option Value} {x : Nat} : WP E c 248 36 [some (.ref x), a1, a2] (st) ah Q = WP E c 248 37 [some (.ref x), a1, a2] (.ref x :: st) ah Q := wp_s i248_36 rfl rfl rfl rfl
theorem i248_37 : insAt 248 37 = some (.getfield 11572, 40) := by decide +kernel
theorem r248_37 {E : aEnv} {c : Nat} {ah : aHp} {st : List Value} {Q : Option Value → aHp → Prop} {a0 a1 a2 : Option Value} {a : Nat} : WP E c 248 37 [a0, a1, a2] (.ref a :: st) ah Q = WPo (oGF (hg E ah a) 11 57) (fun v => WP E c 248 40 [a0, a1, a2] (v :: st) ah Q) := wp_getf i248_37
theorem i248_40 : insAt 248 40 = some (.iload 1, 41) := by decide +kernel
theorem r248_40 {E : aEnv} {c : Nat} {ah : aHp} {st : List Value} {Q : Option Value → aHp → Prop} {a0 a2 : Option Value} {x : Int32} : WP E c 248 40 [a0, some (.int x), a2] (st) ah Q = WP E c 248 41 [a0, some (.int x), a2] (.int x :: st) ah Q := wp_s i248_40 rfl rfl rfl rfl
theorem i248_41 : insAt 248 41 = some (.iload 2, 42) := by decide +kernel
theorem r248_41 {E : aEnv} {c : Nat} {ah : aHp} {st : List Value} {Q : Option Value → aHp → Prop} {a0 a1 : Option Value} {x : Int32} : WP E c 248 41 [a0, a1, some (.int x)] (st) ah Q = WP E c 248 42 [a0, a1, some (.int x)] (.int x :: st) ah Q := wp_s i248_41 rfl rfl rfl rfl
theorem i248_42 : insAt 248 42 = some (.ifCond .eq 53, 45) := by decide +kernel
theorem r248_42 {E : aEnv} {c : Nat} {ah : aHp} {st : List Value} {Q : Option Value → aHp → Prop} {a0 a1 a2 : Option Value} {x : Int32} : WP E c 248 42 [a0, a1, a2] (.int x :: st) ah Q = if x = 0 then WP E c 248 53 [a0, a1, a2] st ah Q else WP E c 248 45 [a0, a1, a2] st ah Q := wp_j i248_42 rfl rfl rfl rfl
theorem i248_45 : insAt 248 45 = some (.aload 0, 46) := by decide +kernel
theorem r248_45 {E : aEnv} {c : Nat} {ah : aHp} {st : List Value} {Q : Option Value → aHp → Prop} {a1 a2 : Option Value} {x : Nat} : WP E c 248 45 [some (.ref x), a1, a2] (st) ah Q = WP E c 248 46 [some (.ref x), a1, a2] (.ref x :: st) ah Q := wp_s i248_45 rfl rfl rfl rfl
theorem i248_46 : insAt 248 46 = some (.getfield 11401, 49) := by decide +kernel
theorem r248_46 {E : aEnv} {c : Nat} {ah : aHp} {st : List Value} {Q : Option Value → aHp → Prop} {a0 a1 a2 : Option Value} {a : Nat} : WP E c 248 46 [a0, a1, a2] (.ref a :: st) ah Q = WPo (oGF (hg E ah a) 11 40) (fun v => WP E c 248 49 [a0, a1, a2] (v :: st) ah Q) := wp_getf i248_46
theorem i248_49 : insAt 248 49 = some (.lneg, 50) := by decide +kernel
theorem r248_49 {E : aEnv} {c : Nat} {ah : aHp} {st : List Value} {Q : Option Value → aHp → Prop} {a0 a1 a2 : Option Value} {x : Int64} : WP E c 248 49 [a0, a1, a2] (.long x :: st) ah Q = WP E c 248 50 [a0, a1, a2] (.long (-x) :: st) ah Q := wp_s i248_49 rfl rfl rfl rfl
theorem i248_50 : insAt 248 50 = some (.goto 57, 53) := by decide +kernel
theorem r248_50 {E : aEnv} {c : Nat} {ah : aHp} {st : List Value} {Q : Option Value → aHp → Prop} {a0 a1 a2 : Option Value} : WP E c 248 50 [a0, a1, a2] (st) ah Q = WP E c 248 57 [a0, a1, a2] st ah Q := wp_s i248_50 rfl rfl rfl rfl
theorem i248_53 : insAt 248 53 = some (.aload 0, 54) := by decide +kernel
theorem r248_53 {E : aEnv} {c : Nat} {ah : aHp} {st : List Value} {Q : Option Value → aHp → Prop} {a1 a2 : Option Value} {x : Nat} : WP E c 248 53 [some (.ref x), a1, a2] (st) ah Q = WP E c 248 54 [some (.ref x), a1, a2] (.ref x :: st) ah Q := wp_s i248_53 rfl rfl rfl rfl
theorem i248_54 : insAt 248 54 = some (.getfield 11401, 57) := by decide +kernel
theorem r248_54 {E : aEnv} {c : Nat} {ah : aHp} {st : List Value} {Q : Option Value → aHp → Prop} {a0 a1 a2 : Option Value} {a : Nat} : WP E c 248 54 [a0, a1, a2] (.ref a :: st) ah Q = WPo (oGF (hg E ah a) 11 40) (fun v => WP E c 248 57 [a0, a1, a2] (v :: st) ah Q) := wp_getf i248_54
theorem i248_57 : insAt 248 57 = some (.lastore, 58) := by decide +kernel
theorem r248_57 {E : aEnv} {c : Nat} {ah : aHp} {st : List Value} {Q : Option Value → aHp → Prop} {a0 a1 a2 : Option Value} {x : Int64} {i : Int32} {a : Nat} : WP E c 248 57 [a0, a1, a2] (.long x :: .int i :: .ref a :: st) ah Q = WPo (pL E ah (.long x :: .int i :: .ref a :: st)) (fun q9 => WP E c 248 58 [a0, a1, a2] q9.1 q9.2 Q) := wp_hw i248_57 rfl rfl rfl rfl rfl rfl rfl rfl
theorem i248_58 : insAt 248 58 = some (.aload 0, 59) := by decide +kernel
theorem r248_58 {E : aEnv} {c : Nat} {ah : aHp} {st : List Value} {Q : Option Value → aHp → Prop} {a1 a2 : Option Value} {x : Nat} : WP E c 248 58 [some (.ref x), a1, a2] (st) ah Q = WP E c 248 59 [some (.ref x), a1, a2] (.ref x :: st) ah Q := wp_s i248_58 rfl rfl rfl rfl
theorem i248_59 : insAt 248 59 = some (.invokevirtual 239, 62) := by decide +kernel
theorem r248_59 {E : aEnv} {c : Nat} {ah ah1 : aHp} {r : Option Value} {st : List Value} {Q : Option Value → aHp → Prop} {a0 a1 a2 : Option Value} {p0 : Nat} (h : EV E c 239 [.ref p0] ah r ah1) (h2 : oCI (hg E ah p0) = 11) (h3 : wds st ≤ 8) : WP E (c + 1) 248 59 [a0, a1, a2] (.ref p0 :: st) ah Q = WP E (c + 1) 248 62 [a0, a1, a2] (r.toList ++ st) ah1 Q := wp_call (As := [.ref p0]) i248_59 (fun _ => rfl) rfl mr239.1 (rcv_1 h2 mr239.2.2 (by decide)) h3 (by rw [mr239.2.1]; exact Nat.le_of_ble_eq_true rfl) h
theorem i248_62 : insAt 248 62 = some (.return_, 63) := by decide +kernel
theorem r248_62 {E : aEnv} {c : Nat} {ah : aHp} {Q : Option Value → aHp → Prop} {a0 a1 a2 : Option Value} : WP E c 248 62 [a0, a1, a2] ([]) ah Q = Q none ah := wp_rt i248_62 rfl
theorem e249 {E : aEnv} {c : Nat} {ah ahF : aHp} {r : Option Value} {p0 : Nat} {p1 : Int32} (h : WP E c 249 0 [some (.ref p0), some (.int p1), none] [] ah (fun r1 x1 => r1 = r ∧ x1 = ahF)) : EV E c 249 [.ref p0, .int p1] ah r ahF := EV.of (by rw [mr249.2.1]; exact h)
theorem i249_0 : insAt 249 0 = some (.aload 0, 1) := by decide +kernel
theorem r249_0 {E : aEnv} {c : Nat} {ah : aHp} {st : List Value} {Q : Option Value → aHp → Prop} {a1 a2 : Option Value} {x : Nat} : WP E c 249 0 [some (.ref x), a1, a2] (st) ah Q = WP E c 249 1 [some (.ref x), a1, a2] (.ref x :: st) ah Q := wp_s i249_0 rfl rfl rfl rfl
theorem i249_1 : insAt 249 1 = some (.getfield 11552, 4) := by decide +kernel
theorem r249_1 {E : aEnv} {c : Nat} {ah : aHp} {st : List Value} {Q : Option Value → aHp → Prop} {a0 a1 a2 : Option Value} {a : Nat} : WP E c 249 1 [a0, a1, a2] (.ref a :: st) ah Q = WPo (oGF (hg E ah a) 11 55) (fun v => WP E c 249 4 [a0, a1, a2] (v :: st) ah Q) := wp_getf i249_1
theorem i249_4 : insAt 249 4 = some (.iload 1, 5) := by decide +kernel
theorem r249_4 {E : aEnv} {c : Nat} {ah : aHp} {st : List Value} {Q : Option Value → aHp → Prop} {a0 a2 : Option Value} {x : Int32} : WP E c 249 4 [a0, some (.int x), a2] (st) ah Q = WP E c 249 5 [a0, some (.int x), a2] (.int x :: st) ah Q := wp_s i249_4 rfl rfl rfl rfl
theorem i249_5 : insAt 249 5 = some (.aload 0, 6) := by decide +kernel
theorem r249_5 {E : aEnv} {c : Nat} {ah : aHp} {st : List Value} {Q : Option Value → aHp → Prop} {a1 a2 : Option Value} {x : Nat} : WP E c 249 5 [some (.ref x), a1, a2] (st) ah Q = WP E c 249 6 [some (.ref x), a1, a2] (.ref x :: st) ah Q := wp_s i249_5 rfl rfl rfl rfl
theorem i249_6 : insAt 249 6 = some (.getfield 11360, 9) := by decide +kernel
theorem r249_6 {E : aEnv} {c : Nat} {ah : aHp} {st : List Value} {Q : Option Value → aHp → Prop} {a0 a1 a2 : Option Value} {a : Nat} : WP E c 249 6 [a0, a1, a2] (.ref a :: st) ah Q = WPo (oGF (hg E ah a) 11 36) (fun v => WP E c 249 9 [a0, a1, a2] (v :: st) ah Q) := wp_getf i249_6
theorem i249_9 : insAt 249 9 = some (.iastore, 10) := by decide +kernel
theorem r249_9 {E : aEnv} {c : Nat} {ah : aHp} {st : List Value} {Q : Option Value → aHp → Prop} {a0 a1 a2 : Option Value} {x : Int32} {i : Int32} {a : Nat} : WP E c 249 9 [a0, a1, a2] (.int x :: .int i :: .ref a :: st) ah Q = WPo (pI E ah (.int x :: .int i :: .ref a :: st)) (fun q9 => WP E c 249 10 [a0, a1, a2] q9.1 q9.2 Q) := wp_hw i249_9 rfl rfl rfl rfl rfl rfl rfl rfl
theorem i249_10 : insAt 249 10 = some (.aload 0, 11) := by decide +kernel
theorem r249_10 {E : aEnv} {c : Nat} {ah : aHp} {st : List Value} {Q : Option Value → aHp → Prop} {a1 a2 : Option Value} {x : Nat} : WP E c 249 10 [some (.ref x), a1, a2] (st) ah Q = WP E c 249 11 [some (.ref x), a1, a2] (.ref x :: st) ah Q := wp_s i249_10 rfl rfl rfl rfl
theorem i249_11 : insAt 249 11 = some (.getfield 11502, 14) := by decide +kernel
theorem r249_11 {E : aEnv} {c : Nat} {ah : aHp} {st : List Value} {Q : Option Value → aHp → Prop} {a0 a1 a2 : Option Value} {a : Nat} : WP E c 249 11 [a0, a1, a2] (.ref a :: st) ah Q = WPo (oGF (hg E ah a) 11 50) (fun v => WP E c 249 14 [a0, a1, a2] (v :: st) ah Q) := wp_getf i249_11
theorem i249_14 : insAt 249 14 = some (.iload 1, 15) := by decide +kernel
theorem r249_14 {E : aEnv} {c : Nat} {ah : aHp} {st : List Value} {Q : Option Value → aHp → Prop} {a0 a2 : Option Value} {x : Int32} : WP E c 249 14 [a0, some (.int x), a2] (st) ah Q = WP E c 249 15 [a0, some (.int x), a2] (.int x :: st) ah Q := wp_s i249_14 rfl rfl rfl rfl
theorem i249_15 : insAt 249 15 = some (.aload 0, 16) := by decide +kernel
theorem r249_15 {E : aEnv} {c : Nat} {ah : aHp} {st : List Value} {Q : Option Value → aHp → Prop} {a1 a2 : Option Value} {x : Nat} : WP E c 249 15 [some (.ref x), a1, a2] (st) ah Q = WP E c 249 16 [some (.ref x), a1, a2] (.ref x :: st) ah Q := wp_s i249_15 rfl rfl rfl rfl
theorem i249_16 : insAt 249 16 = some (.iconst 1, 17) := by decide +kernel
theorem r249_16 {E : aEnv} {c : Nat} {ah : aHp} {st : List Value} {Q : Option Value → aHp → Prop} {a0 a1 a2 : Option Value} : WP E c 249 16 [a0, a1, a2] (st) ah Q = WP E c 249 17 [a0, a1, a2] (.int (1) :: st) ah Q := wp_s i249_16 rfl rfl rfl rfl
theorem i249_17 : insAt 249 17 = some (.iconst 40, 19) := by decide +kernel
theorem r249_17 {E : aEnv} {c : Nat} {ah : aHp} {st : List Value} {Q : Option Value → aHp → Prop} {a0 a1 a2 : Option Value} : WP E c 249 17 [a0, a1, a2] (st) ah Q = WP E c 249 19 [a0, a1, a2] (.int (40) :: st) ah Q := wp_s i249_17 rfl rfl rfl rfl
theorem i249_19 : insAt 249 19 = some (.invokevirtual 245, 22) := by decide +kernel
theorem r249_19 {E : aEnv} {c : Nat} {ah ah1 : aHp} {r : Option Value} {st : List Value} {Q : Option Value → aHp → Prop} {a0 a1 a2 : Option Value} {p0 : Nat} {p1 : Int32} {p2 : Int32} (h : EV E c 245 [.ref p0, .int p1, .int p2] ah r ah1) (h2 : oCI (hg E ah p0) = 11) (h3 : wds st ≤ 8) : WP E (c + 1) 249 19 [a0, a1, a2] (.int p2 :: .int p1 :: .ref p0 :: st) ah Q = WP E (c + 1) 249 22 [a0, a1, a2] (r.toList ++ st) ah1 Q := wp_call (As := [.ref p0, .int p1, .int p2]) i249_19 (fun _ => rfl) rfl mr245.1 (rcv_1 h2 mr245.2.2 (by decide)) h3 (by rw [mr245.2.1]; exact Nat.le_of_ble_eq_true rfl) h
theorem i249_22 : insAt 249 22 = some (.iastore, 23) := by decide +kernel
theorem r249_22 {E : aEnv} {c : Nat} {ah : aHp} {st : List Value} {Q : Option Value → aHp → Prop} {a0 a1 a2 : Option Value} {x : Int32} {i : Int32} {a : Nat} : WP E c 249 22 [a0, a1, a2] (.int x :: .int i :: .ref a :: st) ah Q = WPo (pI E ah (.int x :: .int i :: .ref a :: st)) (fun q9 => WP E c 249 23 [a0, a1, a2] q9.1 q9.2 Q) := wp_hw i249_22 rfl rfl rfl rfl rfl rfl rfl rfl
theorem i249_23 : insAt 249 23 = some (.aload 0, 24) := by decide +kernel
theorem r249_23 {E : aEnv} {c : Nat} {ah : aHp} {st : List Value} {Q : Option Value → aHp → Prop} {a1 a2 : Option Value} {x : Nat} : WP E c 249 23 [some (.ref x), a1, a2] (st) ah Q = WP E c 249 24 [some (.ref x), a1, a2] (.ref x :: st) ah Q := wp_s i249_23 rfl rfl rfl rfl
theorem i249_24 : insAt 249 24 = some (.getfield 11330, 27) := by decide +kernel
theorem r249_24 {E : aEnv} {c : Nat} {ah : aHp} {st : List Value} {Q : Option Value → aHp → Prop} {a0 a1 a2 : Option Value} {a : Nat} : WP E c 249 24 [a0, a1, a2] (.ref a :: st) ah Q = WPo (oGF (hg E ah a) 11 33) (fun v => WP E c 249 27 [a0, a1, a2] (v :: st) ah Q) := wp_getf i249_24
theorem i249_27 : insAt 249 27 = some (.ifCond .gt 47, 30) := by decide +kernel
theorem r249_27 {E : aEnv} {c : Nat} {ah : aHp} {st : List Value} {Q : Option Value → aHp → Prop} {a0 a1 a2 : Option Value} {x : Int32} : WP E c 249 27 [a0, a1, a2] (.int x :: st) ah Q = if 0 < x then WP E c 249 47 [a0, a1, a2] st ah Q else WP E c 249 30 [a0, a1, a2] st ah Q := wp_j i249_27 rfl rfl rfl rfl
theorem i249_30 : insAt 249 30 = some (.aload 0, 31) := by decide +kernel
theorem r249_30 {E : aEnv} {c : Nat} {ah : aHp} {st : List Value} {Q : Option Value → aHp → Prop} {a1 a2 : Option Value} {x : Nat} : WP E c 249 30 [some (.ref x), a1, a2] (st) ah Q = WP E c 249 31 [some (.ref x), a1, a2] (.ref x :: st) ah Q := wp_s i249_30 rfl rfl rfl rfl
theorem i249_31 : insAt 249 31 = some (.iconst 105, 33) := by decide +kernel
theorem r249_31 {E : aEnv} {c : Nat} {ah : aHp} {st : List Value} {Q : Option Value → aHp → Prop} {a0 a1 a2 : Option Value} : WP E c 249 31 [a0, a1, a2] (st) ah Q = WP E c 249 33 [a0, a1, a2] (.int (105) :: st) ah Q := wp_s i249_31 rfl rfl rfl rfl
theorem i249_33 : insAt 249 33 = some (.iconst 102, 35) := by decide +kernel
theorem r249_33 {E : aEnv} {c : Nat} {ah : aHp} {st : List Value} {Q : Option Value → aHp → Prop} {a0 a1 a2 : Option Value} : WP E c 249 33 [a0, a1, a2] (st) ah Q = WP E c 249 35 [a0, a1, a2] (.int (102) :: st) ah Q := wp_s i249_33 rfl rfl rfl rfl
theorem i249_35 : insAt 249 35 = some (.iconst 0, 36) := by decide +kernel
theorem r249_35 {E : aEnv} {c : Nat} {ah : aHp} {st : List Value} {Q : Option Value → aHp → Prop} {a0 a1 a2 : Option Value} : WP E c 249 35 [a0, a1, a2] (st) ah Q = WP E c 249 36 [a0, a1, a2] (.int (0) :: st) ah Q := wp_s i249_35 rfl rfl rfl rfl
theorem i249_36 : insAt 249 36 = some (.iconst 0, 37) := by decide +kernel
theorem r249_36 {E : aEnv} {c : Nat} {ah : aHp} {st : List Value} {Q : Option Value → aHp → Prop} {a0 a1 a2 : Option Value} : WP E c 249 36 [a0, a1, a2] (st) ah Q = WP E c 249 37 [a0, a1, a2] (.int (0) :: st) ah Q := wp_s i249_36 rfl rfl rfl rfl
theorem i249_37 : insAt 249 37 = some (.iconst 0, 38) := by decide +kernel
theorem r249_37 {E : aEnv} {c : Nat} {ah : aHp} {st : List Value} {Q : Option Value → aHp → Prop} {a0 a1 a2 : Option Value} : WP E c 249 37 [a0, a1, a2] (st) ah Q = WP E c 249 38 [a0, a1, a2] (.int (0) :: st) ah Q := wp_s i249_37 rfl rfl rfl rfl
theorem i249_38 : insAt 249 38 = some (.invokestatic 240, 41) := by decide +kernel
theorem r249_38 {E : aEnv} {c : Nat} {ah ah1 : aHp} {r : Option Value} {st : List Value} {Q : Option Value → aHp → Prop} {a0 a1 a2 : Option Value} {p0 : Int32} {p1 : Int32} {p2 : Int32} {p3 : Int32} {p4 : Int32} (h : EV E c 240 [.int p0, .int p1, .int p2, .int p3, .int p4] ah r ah1) (h3 : wds st ≤ 8) : WP E (c + 1) 249 38 [a0, a1, a2] (.int p4 :: .int p3 :: .int p2 :: .int p1 :: .int p0 :: st) ah Q = WP E (c + 1) 249 41 [a0, a1, a2] (r.toList ++ st) ah1 Q := wp_call (As := [.int p0, .int p1, .int p2, .int p3, .int p4]) i249_38 (fun _ => rfl) rfl mr240.1 rfl h3 (by rw [mr240.2.1]; exact Nat.le_of_ble_eq_true rfl) h
theorem i249_41 : insAt 249 41 = some (.invokevirtual 241, 44) := by decide +kernel
theorem r249_41 {E : aEnv} {c : Nat} {ah ah1 : aHp} {r : Option Value} {st : List Value} {Q : Option Value → aHp → Prop} {a0 a1 a2 : Option Value} {p0 : Nat} {p1 : Int64} (h : EV E c 241 [.ref p0, .long p1] ah r ah1) (h2 : oCI (hg E ah p0) = 11) (h3 : wds st ≤ 8) : WP E (c + 1) 249 41 [a0, a1, a2] (.long p1 :: .ref p0 :: st) ah Q = WP E (c + 1) 249 44 [a0, a1, a2] (r.toList ++ st) ah1 Q := wp_call (As := [.ref p0, .long p1]) i249_41 (fun _ => rfl) rfl mr241.1 (rcv_1 h2 mr241.2.2 (by decide)) h3 (by rw [mr241.2.1]; exact Nat.le_of_ble_eq_true rfl) h
theorem i249_44 : insAt 249 44 = some (.ifCond .ne 48, 47) := by decide +kernel
theorem r249_44 {E : aEnv} {c : Nat} {ah : aHp} {st : List Value} {Q : Option Value → aHp → Prop} {a0 a1 a2 : Option Value} {x : Int32} : WP E c 249 44 [a0, a1, a2] (.int x :: st) ah Q = if ¬ x = 0 then WP E c 249 48 [a0, a1, a2] st ah Q else WP E c 249 47 [a0, a1, a2] st ah Q := wp_j i249_44 rfl rfl rfl rfl
theorem i249_47 : insAt 249 47 = some (.return_, 48) := by decide +kernel
theorem r249_47 {E : aEnv} {c : Nat} {ah : aHp} {Q : Option Value → aHp → Prop} {a0 a1 a2 : Option Value} : WP E c 249 47 [a0, a1, a2] ([]) ah Q = Q none ah := wp_rt i249_47 rfl
theorem i249_48 : insAt 249 48 = some (.aload 0, 49) := by decide +kernel
theorem r249_48 {E : aEnv} {c : Nat} {ah : aHp} {st : List Value} {Q : Option Value → aHp → Prop} {a1 a2 : Option Value} {x : Nat} : WP E c 249 48 [some (.ref x), a1, a2] (st) ah Q = WP E c 249 49 [some (.ref x), a1, a2] (.ref x :: st) ah Q := wp_s i249_48 rfl rfl rfl rfl
theorem i249_49 : insAt 249 49 = some (.invokevirtual 239, 52) := by decide +kernel
theorem r249_49 {E : aEnv} {c : Nat} {ah ah1 : aHp} {r : Option Value} {st : List Value} {Q : Option Value → aHp → Prop} {a0 a1 a2 : Option Value} {p0 : Nat} (h : EV E c 239 [.ref p0] ah r ah1) (h2 : oCI (hg E ah p0) = 11) (h3 : wds st ≤ 8) : WP E (c + 1) 249 49 [a0, a1, a2] (.ref p0 :: st) ah Q = WP E (c + 1) 249 52 [a0, a1, a2] (r.toList ++ st) ah1 Q := wp_call (As := [.ref p0]) i249_49 (fun _ => rfl) rfl mr239.1 (rcv_1 h2 mr239.2.2 (by decide)) h3 (by rw [mr239.2.1]; exact Nat.le_of_ble_eq_true rfl) h
theorem i249_52 : insAt 249 52 = some (.aload 0, 53) := by decide +kernel
theorem r249_52 {E : aEnv} {c : Nat} {ah : aHp} {st : List Value} {Q : Option Value → aHp → Prop} {a1 a2 : Option Value} {x : Nat} : WP E c 249 52 [some (.ref x), a1, a2] (st) ah Q = WP E c 249 53 [some (.ref x), a1, a2] (.ref x :: st) ah Q := wp_s i249_52 rfl rfl rfl rfl
theorem i249_53 : insAt 249 53 = some (.iconst 117, 55) := by decide +kernel
theorem r249_53 {E : aEnv} {c : Nat} {ah : aHp} {st : List Value} {Q : Option Value → aHp → Prop} {a0 a1 a2 : Option Value} : WP E c 249 53 [a0, a1, a2] (st) ah Q = WP E c 249 55 [a0, a1, a2] (.int (117) :: st) ah Q := wp_s i249_53 rfl rfl rfl rfl
theorem i249_55 : insAt 249 55 = some (.iconst 112, 57) := by decide +kernel
theorem r249_55 {E : aEnv} {c : Nat} {ah : aHp} {st : List Value} {Q : Option Value → aHp → Prop} {a0 a1 a2 : Option Value} : WP E c 249 55 [a0, a1, a2] (st) ah Q = WP E c 249 57 [a0, a1, a2] (.int (112) :: st) ah Q := wp_s i249_55 rfl rfl rfl rfl
theorem i249_57 : insAt 249 57 = some (.iconst 0, 58) := by decide +kernel
theorem r249_57 {E : aEnv} {c : Nat} {ah : aHp} {st : List Value} {Q : Option Value → aHp → Prop} {a0 a1 a2 : Option Value} : WP E c 249 57 [a0, a1, a2] (st) ah Q = WP E c 249 58 [a0, a1, a2] (.int (0) :: st) ah Q := wp_s i249_57 rfl rfl rfl rfl
theorem i249_58 : insAt 249 58 = some (.iconst 0, 59) := by decide +kernel
theorem r249_58 {E : aEnv} {c : Nat} {ah : aHp} {st : List Value} {Q : Option Value → aHp → Prop} {a0 a1 a2 : Option Value} : WP E c 249 58 [a0, a1, a2] (st) ah Q = WP E c 249 59 [a0, a1, a2] (.int (0) :: st) ah Q := wp_s i249_58 rfl rfl rfl rfl
theorem i249_59 : insAt 249 59 = some (.iconst 0, 60) := by decide +kernel
theorem r249_59 {E : aEnv} {c : Nat} {ah : aHp} {st : List Value} {Q : Option Value → aHp → Prop} {a0 a1 a2 : Option Value} : WP E c 249 59 [a0, a1, a2] (st) ah Q = WP E c 249 60 [a0, a1, a2] (.int (0) :: st) ah Q := wp_s i249_59 rfl rfl rfl rfl
theorem i249_60 : insAt 249 60 = some (.invokestatic 240, 63) := by decide +kernel
theorem r249_60 {E : aEnv} {c : Nat} {ah ah1 : aHp} {r : Option Value} {st : List Value} {Q : Option Value → aHp → Prop} {a0 a1 a2 : Option Value} {p0 : Int32} {p1 : Int32} {p2 : Int32} {p3 : Int32} {p4 : Int32} (h : EV E c 240 [.int p0, .int p1, .int p2, .int p3, .int p4] ah r ah1) (h3 : wds st ≤ 8) : WP E (c + 1) 249 60 [a0, a1, a2] (.int p4 :: .int p3 :: .int p2 :: .int p1 :: .int p0 :: st) ah Q = WP E (c + 1) 249 63 [a0, a1, a2] (r.toList ++ st) ah1 Q := wp_call (As := [.int p0, .int p1, .int p2, .int p3, .int p4]) i249_60 (fun _ => rfl) rfl mr240.1 rfl h3 (by rw [mr240.2.1]; exact Nat.le_of_ble_eq_true rfl) h
theorem i249_63 : insAt 249 63 = some (.invokevirtual 241, 66) := by decide +kernel
theorem r249_63 {E : aEnv} {c : Nat} {ah ah1 : aHp} {r : Option Value} {st : List Value} {Q : Option Value → aHp → Prop} {a0 a1 a2 : Option Value} {p0 : Nat} {p1 : Int64} (h : EV E c 241 [.ref p0, .long p1] ah r ah1) (h2 : oCI (hg E ah p0) = 11) (h3 : wds st ≤ 8) : WP E (c + 1) 249 63 [a0, a1, a2] (.long p1 :: .ref p0 :: st) ah Q = WP E (c + 1) 249 66 [a0, a1, a2] (r.toList ++ st) ah1 Q := wp_call (As := [.ref p0, .long p1]) i249_63 (fun _ => rfl) rfl mr241.1 (rcv_1 h2 mr241.2.2 (by decide)) h3 (by rw [mr241.2.1]; exact Nat.le_of_ble_eq_true rfl) h
theorem i249_66 : insAt 249 66 = some (.istore 2, 67) := by decide +kernel
theorem r249_66 {E : aEnv} {c : Nat} {ah : aHp} {st : List Value} {Q : Option Value → aHp → Prop} {a0 a1 a2 : Option Value} {x : Int32} : WP E c 249 66 [a0, a1, a2] (.int x :: st) ah Q = WP E c 249 67 [a0, kil a1, some (.int x)] (st) ah Q := wp_s i249_66 rfl rfl rfl rfl
theorem i249_67 : insAt 249 67 = some (.iload 2, 68) := by decide +kernel
theorem r249_67 {E : aEnv} {c : Nat} {ah : aHp} {st : List Value} {Q : Option Value → aHp → Prop} {a0 a1 : Option Value} {x : Int32} : WP E c 249 67 [a0, a1, some (.int x)] (st) ah Q = WP E c 249 68 [a0, a1, some (.int x)] (.int x :: st) ah Q := wp_s i249_67 rfl rfl rfl rfl
theorem i249_68 : insAt 249 68 = some (.ifCond .ne 95, 71) := by decide +kernel
theorem r249_68 {E : aEnv} {c : Nat} {ah : aHp} {st : List Value} {Q : Option Value → aHp → Prop} {a0 a1 a2 : Option Value} {x : Int32} : WP E c 249 68 [a0, a1, a2] (.int x :: st) ah Q = if ¬ x = 0 then WP E c 249 95 [a0, a1, a2] st ah Q else WP E c 249 71 [a0, a1, a2] st ah Q := wp_j i249_68 rfl rfl rfl rfl
theorem i249_71 : insAt 249 71 = some (.aload 0, 72) := by decide +kernel
theorem r249_71 {E : aEnv} {c : Nat} {ah : aHp} {st : List Value} {Q : Option Value → aHp → Prop} {a1 a2 : Option Value} {x : Nat} : WP E c 249 71 [some (.ref x), a1, a2] (st) ah Q = WP E c 249 72 [some (.ref x), a1, a2] (.ref x :: st) ah Q := wp_s i249_71 rfl rfl rfl rfl
theorem i249_72 : insAt 249 72 = some (.iconst 100, 74) := by decide +kernel
theorem r249_72 {E : aEnv} {c : Nat} {ah : aHp} {st : List Value} {Q : Option Value → aHp → Prop} {a0 a1 a2 : Option Value} : WP E c 249 72 [a0, a1, a2] (st) ah Q = WP E c 249 74 [a0, a1, a2] (.int (100) :: st) ah Q := wp_s i249_72 rfl rfl rfl rfl
theorem i249_74 : insAt 249 74 = some (.iconst 111, 76) := by decide +kernel
theorem r249_74 {E : aEnv} {c : Nat} {ah : aHp} {st : List Value} {Q : Option Value → aHp → Prop} {a0 a1 a2 : Option Value} : WP E c 249 74 [a0, a1, a2] (st) ah Q = WP E c 249 76 [a0, a1, a2] (.int (111) :: st) ah Q := wp_s i249_74 rfl rfl rfl rfl
theorem i249_76 : insAt 249 76 = some (.iconst 119, 78) := by decide +kernel
theorem r249_76 {E : aEnv} {c : Nat} {ah : aHp} {st : List Value} {Q : Option Value → aHp → Prop} {a0 a1 a2 : Option Value} : WP E c 249 76 [a0, a1, a2] (st) ah Q = WP E c 249 78 [a0, a1, a2] (.int (119) :: st) ah Q := wp_s i249_76 rfl rfl rfl rfl
theorem i249_78 : insAt 249 78 = some (.iconst 110, 80) := by decide +kernel
theorem r249_78 {E : aEnv} {c : Nat} {ah : aHp} {st : List Value} {Q : Option Value → aHp → Prop} {a0 a1 a2 : Option Value} : WP E c 249 78 [a0, a1, a2] (st) ah Q = WP E c 249 80 [a0, a1, a2] (.int (110) :: st) ah Q := wp_s i249_78 rfl rfl rfl rfl
theorem i249_80 : insAt 249 80 = some (.iconst 0, 81) := by decide +kernel
theorem r249_80 {E : aEnv} {c : Nat} {ah : aHp} {st : List Value} {Q : Option Value → aHp → Prop} {a0 a1 a2 : Option Value} : WP E c 249 80 [a0, a1, a2] (st) ah Q = WP E c 249 81 [a0, a1, a2] (.int (0) :: st) ah Q := wp_s i249_80 rfl rfl rfl rfl
theorem i249_81 : insAt 249 81 = some (.invokestatic 240, 84) := by decide +kernel
theorem r249_81 {E : aEnv} {c : Nat} {ah ah1 : aHp} {r : Option Value} {st : List Value} {Q : Option Value → aHp → Prop} {a0 a1 a2 : Option Value} {p0 : Int32} {p1 : Int32} {p2 : Int32} {p3 : Int32} {p4 : Int32} (h : EV E c 240 [.int p0, .int p1, .int p2, .int p3, .int p4] ah r ah1) (h3 : wds st ≤ 8) : WP E (c + 1) 249 81 [a0, a1, a2] (.int p4 :: .int p3 :: .int p2 :: .int p1 :: .int p0 :: st) ah Q = WP E (c + 1) 249 84 [a0, a1, a2] (r.toList ++ st) ah1 Q := wp_call (As := [.int p0, .int p1, .int p2, .int p3, .int p4]) i249_81 (fun _ => rfl) rfl mr240.1 rfl h3 (by rw [mr240.2.1]; exact Nat.le_of_ble_eq_true rfl) h
theorem i249_84 : insAt 249 84 = some (.invokevirtual 241, 87) := by decide +kernel
theorem r249_84 {E : aEnv} {c : Nat} {ah ah1 : aHp} {r : Option Value} {st : List Value} {Q : Option Value → aHp → Prop} {a0 a1 a2 : Option Value} {p0 : Nat} {p1 : Int64} (h : EV E c 241 [.ref p0, .long p1] ah r ah1) (h2 : oCI (hg E ah p0) = 11) (h3 : wds st ≤ 8) : WP E (c + 1) 249 84 [a0, a1, a2] (.long p1 :: .ref p0 :: st) ah Q = WP E (c + 1) 249 87 [a0, a1, a2] (r.toList ++ st) ah1 Q := wp_call (As := [.ref p0, .long p1]) i249_84 (fun _ => rfl) rfl mr241.1 (rcv_1 h2 mr241.2.2 (by decide)) h3 (by rw [mr241.2.1]; exact Nat.le_of_ble_eq_true rfl) h
theorem i249_87 : insAt 249 87 = some (.ifCond .ne 95, 90) := by decide +kernel
theorem r249_87 {E : aEnv} {c : Nat} {ah : aHp} {st : List Value} {Q : Option Value → aHp → Prop} {a0 a1 a2 : Option Value} {x : Int32} : WP E c 249 87 [a0, a1, a2] (.int x :: st) ah Q = if ¬ x = 0 then WP E c 249 95 [a0, a1, a2] st ah Q else WP E c 249 90 [a0, a1, a2] st ah Q := wp_j i249_87 rfl rfl rfl rfl
theorem i249_90 : insAt 249 90 = some (.aload 0, 91) := by decide +kernel
theorem r249_90 {E : aEnv} {c : Nat} {ah : aHp} {st : List Value} {Q : Option Value → aHp → Prop} {a1 a2 : Option Value} {x : Nat} : WP E c 249 90 [some (.ref x), a1, a2] (st) ah Q = WP E c 249 91 [some (.ref x), a1, a2] (.ref x :: st) ah Q := wp_s i249_90 rfl rfl rfl rfl
theorem i249_91 : insAt 249 91 = some (.invokevirtual 244, 94) := by decide +kernel
theorem r249_91 {E : aEnv} {c : Nat} {ah ah1 : aHp} {r : Option Value} {st : List Value} {Q : Option Value → aHp → Prop} {a0 a1 a2 : Option Value} {p0 : Nat} (h : EV E c 244 [.ref p0] ah r ah1) (h2 : oCI (hg E ah p0) = 11) (h3 : wds st ≤ 8) : WP E (c + 1) 249 91 [a0, a1, a2] (.ref p0 :: st) ah Q = WP E (c + 1) 249 94 [a0, a1, a2] (r.toList ++ st) ah1 Q := wp_call (As := [.ref p0]) i249_91 (fun _ => rfl) rfl mr244.1 (rcv_1 h2 mr244.2.2 (by decide)) h3 (by rw [mr244.2.1]; exact Nat.le_of_ble_eq_true rfl) h
theorem i249_94 : insAt 249 94 = some (.return_, 95) := by decide +kernel
theorem r249_94 {E : aEnv} {c : Nat} {ah : aHp} {Q : Option Value → aHp → Prop} {a0 a1 a2 : Option Value} : WP E c 249 94 [a0, a1, a2] ([]) ah Q = Q none ah := wp_rt i249_94 rfl
theorem i249_95 : insAt 249 95 = some (.aload 0, 96) := by decide +kernel
theorem r249_95 {E : aEnv} {c : Nat} {ah : aHp} {st : List Value} {Q : Option Value → aHp → Prop} {a1 a2 : Option Value} {x : Nat} : WP E c 249 95 [some (.ref x), a1, a2] (st) ah Q = WP E c 249 96 [some (.ref x), a1, a2] (.ref x :: st) ah Q := wp_s i249_95 rfl rfl rfl rfl
theorem i249_96 : insAt 249 96 = some (.getfield 11542, 99) := by decide +kernel
theorem r249_96 {E : aEnv} {c : Nat} {ah : aHp} {st : List Value} {Q : Option Value → aHp → Prop} {a0 a1 a2 : Option Value} {a : Nat} : WP E c 249 96 [a0, a1, a2] (.ref a :: st) ah Q = WPo (oGF (hg E ah a) 11 54) (fun v => WP E c 249 99 [a0, a1, a2] (v :: st) ah Q) := wp_getf i249_96
theorem i249_99 : insAt 249 99 = some (.iload 1, 100) := by decide +kernel
theorem r249_99 {E : aEnv} {c : Nat} {ah : aHp} {st : List Value} {Q : Option Value → aHp → Prop} {a0 a2 : Option Value} {x : Int32} : WP E c 249 99 [a0, some (.int x), a2] (st) ah Q = WP E c 249 100 [a0, some (.int x), a2] (.int x :: st) ah Q := wp_s i249_99 rfl rfl rfl rfl
theorem i249_100 : insAt 249 100 = some (.iload 2, 101) := by decide +kernel
theorem r249_100 {E : aEnv} {c : Nat} {ah : aHp} {st : List Value} {Q : Option Value → aHp → Prop} {a0 a1 : Option Value} {x : Int32} : WP E c 249 100 [a0, a1, some (.int x)] (st) ah Q = WP E c 249 101 [a0, a1, some (.int x)] (.int x :: st) ah Q := wp_s i249_100 rfl rfl rfl rfl
theorem i249_101 : insAt 249 101 = some (.ifCond .eq 108, 104) := by decide +kernel
theorem r249_101 {E : aEnv} {c : Nat} {ah : aHp} {st : List Value} {Q : Option Value → aHp → Prop} {a0 a1 a2 : Option Value} {x : Int32} : WP E c 249 101 [a0, a1, a2] (.int x :: st) ah Q = if x = 0 then WP E c 249 108 [a0, a1, a2] st ah Q else WP E c 249 104 [a0, a1, a2] st ah Q := wp_j i249_101 rfl rfl rfl rfl
theorem i249_104 : insAt 249 104 = some (.iconst 1, 105) := by decide +kernel
theorem r249_104 {E : aEnv} {c : Nat} {ah : aHp} {st : List Value} {Q : Option Value → aHp → Prop} {a0 a1 a2 : Option Value} : WP E c 249 104 [a0, a1, a2] (st) ah Q = WP E c 249 105 [a0, a1, a2] (.int (1) :: st) ah Q := wp_s i249_104 rfl rfl rfl rfl
theorem i249_105 : insAt 249 105 = some (.goto 109, 108) := by decide +kernel
theorem r249_105 {E : aEnv} {c : Nat} {ah : aHp} {st : List Value} {Q : Option Value → aHp → Prop} {a0 a1 a2 : Option Value} : WP E c 249 105 [a0, a1, a2] (st) ah Q = WP E c 249 109 [a0, a1, a2] st ah Q := wp_s i249_105 rfl rfl rfl rfl
theorem i249_108 : insAt 249 108 = some (.iconst 2, 109) := by decide +kernel
theorem r249_108 {E : aEnv} {c : Nat} {ah : aHp} {st : List Value} {Q : Option Value → aHp → Prop} {a0 a1 a2 : Option Value} : WP E c 249 108 [a0, a1, a2] (st) ah Q = WP E c 249 109 [a0, a1, a2] (.int (2) :: st) ah Q := wp_s i249_108 rfl rfl rfl rfl
theorem i249_109 : insAt 249 109 = some (.iastore, 110) := by decide +kernel
theorem r249_109 {E : aEnv} {c : Nat} {ah : aHp} {st : List Value} {Q : Option Value → aHp → Prop} {a0 a1 a2 : Option Value} {x : Int32} {i : Int32} {a : Nat} : WP E c 249 109 [a0, a1, a2] (.int x :: .int i :: .ref a :: st) ah Q = WPo (pI E ah (.int x :: .int i :: .ref a :: st)) (fun q9 => WP E c 249 110 [a0, a1, a2] q9.1 q9.2 Q) := wp_hw i249_109 rfl rfl rfl rfl rfl rfl rfl rfl
theorem i249_110 : insAt 249 110 = some (.aload 0, 111) := by decide +kernel
theorem r249_110 {E : aEnv} {c : Nat} {ah : aHp} {st : List Value} {Q : Option Value → aHp → Prop} {a1 a2 : Option Value} {x : Nat} : WP E c 249 110 [some (.ref x), a1, a2] (st) ah Q = WP E c 249 111 [some (.ref x), a1, a2] (.ref x :: st) ah Q := wp_s i249_110 rfl rfl rfl rfl
theorem i249_111 : insAt 249 111 = some (.invokevirtual 239, 114) := by decide +kernel
theorem r249_111 {E : aEnv} {c : Nat} {ah ah1 : aHp} {r : Option Value} {st : List Value} {Q : Option Value → aHp → Prop} {a0 a1 a2 : Option Value} {p0 : Nat} (h : EV E c 239 [.ref p0] ah r ah1) (h2 : oCI (hg E ah p0) = 11) (h3 : wds st ≤ 8) : WP E (c + 1) 249 111 [a0, a1, a2] (.ref p0 :: st) ah Q = WP E (c + 1) 249 114 [a0, a1, a2] (r.toList ++ st) ah1 Q := wp_call (As := [.ref p0]) i249_111 (fun _ => rfl) rfl mr239.1 (rcv_1 h2 mr239.2.2 (by decide)) h3 (by rw [mr239.2.1]; exact Nat.le_of_ble_eq_true rfl) h
theorem i249_114 : insAt 249 114 = some (.return_, 115) := by decide +kernel
theorem r249_114 {E : aEnv} {c : Nat} {ah : aHp} {Q : Option Value → aHp → Prop} {a0 a1 a2 : Option Value} : WP E c 249 114 [a0, a1, a2] ([]) ah Q = Q none ah := wp_rt i249_114 rfl
theorem e250 {E : aEnv} {c : Nat} {ah ahF : aHp} {r : Option Value} {p0 : Nat} {p1 : Int32} {p2 : Int32} {p3 : Int32} {p4 : Int32} {p5 : Int32} (h : WP E c 250 0 [some (.ref p0), some (.int p1), some (.int p2), some (.int p3), some (.int p4), some (.int p5)] [] ah (fun r1 x1 => r1 = r ∧ x1 = ahF)) : EV E c 250 [.ref p0, .int p1, .int p2, .int p3, .int p4, .int p5] ah r ahF := EV.of (by rw [mr250.2.1]; exact h)
theorem i250_0 : insAt 250 0 = some (.aload 0, 1) := by decide +kernel
theorem r250_0 {E : aEnv} {c : Nat} {ah : aHp} {st : List Value} {Q : Option Value → aHp → Prop} {a1 a2 a3 a4 a5 : Option Value} {x : Nat} : WP E c 250 0 [some (.ref x), a1, a2, a3, a4, a5] (st) ah Q = WP E c 250 1 [some (.ref x), a1, a2, a3, a4, a5] (.ref x :: st) ah Q := wp_s i250_0 rfl rfl rfl rfl
theorem i250_1 : insAt 250 1 = some (.iconst 0, 2) := by decide +kernel
theorem r250_1 {E : aEnv} {c : Nat} {ah : aHp} {st : List Value} {Q : Option Value → aHp → Prop} {a0 a1 a2 a3 a4 a5 : Option Value} : WP E c 250 1 [a0, a1, a2, a3, a4, a5] (st) ah Q = WP E c 250 2 [a0, a1, a2, a3, a4, a5] (.int (0) :: st) ah Q := wp_s i250_1 rfl rfl rfl rfl
theorem i250_2 : insAt 250 2 = some (.putfield 11010, 5) := by decide +kernel
theorem r250_2 {E : aEnv} {c : Nat} {ah : aHp} {st : List Value} {Q : Option Value → aHp → Prop} {a0 a1 a2 a3 a4 a5 : Option Value} {a : Nat} {v : Value} : WP E c 250 2 [a0, a1, a2, a3, a4, a5] (v :: .ref a :: st) ah Q = WPo (oPF (hg E ah a) 11010 v) (fun e => WP E c 250 5 [a0, a1, a2, a3, a4, a5] st (hs E ah a e) Q) := wp_putf i250_2
theorem i250_5 : insAt 250 5 = some (.aload 0, 6) := by decide +kernel
theorem r250_5 {E : aEnv} {c : Nat} {ah : aHp} {st : List Value} {Q : Option Value → aHp → Prop} {a1 a2 a3 a4 a5 : Option Value} {x : Nat} : WP E c 250 5 [some (.ref x), a1, a2, a3, a4, a5] (st) ah Q = WP E c 250 6 [some (.ref x), a1, a2, a3, a4, a5] (.ref x :: st) ah Q := wp_s i250_5 rfl rfl rfl rfl
theorem i250_6 : insAt 250 6 = some (.getfield 11290, 9) := by decide +kernel
theorem r250_6 {E : aEnv} {c : Nat} {ah : aHp} {st : List Value} {Q : Option Value → aHp → Prop} {a0 a1 a2 a3 a4 a5 : Option Value} {a : Nat} : WP E c 250 6 [a0, a1, a2, a3, a4, a5] (.ref a :: st) ah Q = WPo (oGF (hg E ah a) 11 29) (fun v => WP E c 250 9 [a0, a1, a2, a3, a4, a5] (v :: st) ah Q) := wp_getf i250_6
theorem i250_9 : insAt 250 9 = some (.iconst 20, 11) := by decide +kernel
theorem r250_9 {E : aEnv} {c : Nat} {ah : aHp} {st : List Value} {Q : Option Value → aHp → Prop} {a0 a1 a2 a3 a4 a5 : Option Value} : WP E c 250 9 [a0, a1, a2, a3, a4, a5] (st) ah Q = WP E c 250 11 [a0, a1, a2, a3, a4, a5] (.int (20) :: st) ah Q := wp_s i250_9 rfl rfl rfl rfl
theorem i250_11 : insAt 250 11 = some (.iadd, 12) := by decide +kernel
theorem r250_11 {E : aEnv} {c : Nat} {ah : aHp} {st : List Value} {Q : Option Value → aHp → Prop} {a0 a1 a2 a3 a4 a5 : Option Value} {x y : Int32} : WP E c 250 11 [a0, a1, a2, a3, a4, a5] (.int y :: .int x :: st) ah Q = WP E c 250 12 [a0, a1, a2, a3, a4, a5] (.int (x + y) :: st) ah Q := wp_s i250_11 rfl rfl rfl rfl
theorem i250_12 : insAt 250 12 = some (.iconst 500, 15) := by decide +kernel
theorem r250_12 {E : aEnv} {c : Nat} {ah : aHp} {st : List Value} {Q : Option Value → aHp → Prop} {a0 a1 a2 a3 a4 a5 : Option Value} : WP E c 250 12 [a0, a1, a2, a3, a4, a5] (st) ah Q = WP E c 250 15 [a0, a1, a2, a3, a4, a5] (.int (500) :: st) ah Q := wp_s i250_12 rfl rfl rfl rfl
theorem i250_15 : insAt 250 15 = some (.if_icmp .le 20, 18) := by decide +kernel
theorem r250_15 {E : aEnv} {c : Nat} {ah : aHp} {st : List Value} {Q : Option Value → aHp → Prop} {a0 a1 a2 a3 a4 a5 : Option Value} {x y : Int32} : WP E c 250 15 [a0, a1, a2, a3, a4, a5] (.int y :: .int x :: st) ah Q = if x ≤ y then WP E c 250 20 [a0, a1, a2, a3, a4, a5] st ah Q else WP E c 250 18 [a0, a1, a2, a3, a4, a5] st ah Q := wp_j i250_15 rfl rfl rfl rfl
theorem i250_18 : insAt 250 18 = some (.iconst (-1), 19) := by decide +kernel
theorem r250_18 {E : aEnv} {c : Nat} {ah : aHp} {st : List Value} {Q : Option Value → aHp → Prop} {a0 a1 a2 a3 a4 a5 : Option Value} : WP E c 250 18 [a0, a1, a2, a3, a4, a5] (st) ah Q = WP E c 250 19 [a0, a1, a2, a3, a4, a5] (.int ((-1)) :: st) ah Q := wp_s i250_18 rfl rfl rfl rfl
theorem i250_19 : insAt 250 19 = some (.ireturn, 20) := by decide +kernel
theorem r250_19 {E : aEnv} {c : Nat} {ah : aHp} {Q : Option Value → aHp → Prop} {a0 a1 a2 a3 a4 a5 : Option Value} {x : Int32} : WP E c 250 19 [a0, a1, a2, a3, a4, a5] ([.int x]) ah Q = Q (some (.int x)) ah := wp_rt i250_19 rfl
theorem i250_20 : insAt 250 20 = some (.aload 0, 21) := by decide +kernel
theorem r250_20 {E : aEnv} {c : Nat} {ah : aHp} {st : List Value} {Q : Option Value → aHp → Prop} {a1 a2 a3 a4 a5 : Option Value} {x : Nat} : WP E c 250 20 [some (.ref x), a1, a2, a3, a4, a5] (st) ah Q = WP E c 250 21 [some (.ref x), a1, a2, a3, a4, a5] (.ref x :: st) ah Q := wp_s i250_20 rfl rfl rfl rfl
theorem i250_21 : insAt 250 21 = some (.iload 1, 22) := by decide +kernel
theorem r250_21 {E : aEnv} {c : Nat} {ah : aHp} {st : List Value} {Q : Option Value → aHp → Prop} {a0 a2 a3 a4 a5 : Option Value} {x : Int32} : WP E c 250 21 [a0, some (.int x), a2, a3, a4, a5] (st) ah Q = WP E c 250 22 [a0, some (.int x), a2, a3, a4, a5] (.int x :: st) ah Q := wp_s i250_21 rfl rfl rfl rfl
theorem i250_22 : insAt 250 22 = some (.invokevirtual 251, 25) := by decide +kernel
theorem r250_22 {E : aEnv} {c : Nat} {ah ah1 : aHp} {r : Option Value} {st : List Value} {Q : Option Value → aHp → Prop} {a0 a1 a2 a3 a4 a5 : Option Value} {p0 : Nat} {p1 : Int32} (h : EV E c 251 [.ref p0, .int p1] ah r ah1) (h2 : oCI (hg E ah p0) = 11) (h3 : wds st ≤ 8) : WP E (c + 1) 250 22 [a0, a1, a2, a3, a4, a5] (.int p1 :: .ref p0 :: st) ah Q = WP E (c + 1) 250 25 [a0, a1, a2, a3, a4, a5] (r.toList ++ st) ah1 Q := wp_call (As := [.ref p0, .int p1]) i250_22 (fun _ => rfl) rfl mr251.1 (rcv_1 h2 mr251.2.2 (by decide)) h3 (by rw [mr251.2.1]; exact Nat.le_of_ble_eq_true rfl) h
theorem i250_25 : insAt 250 25 = some (.aload 0, 26) := by decide +kernel
theorem r250_25 {E : aEnv} {c : Nat} {ah : aHp} {st : List Value} {Q : Option Value → aHp → Prop} {a1 a2 a3 a4 a5 : Option Value} {x : Nat} : WP E c 250 25 [some (.ref x), a1, a2, a3, a4, a5] (st) ah Q = WP E c 250 26 [some (.ref x), a1, a2, a3, a4, a5] (.ref x :: st) ah Q := wp_s i250_25 rfl rfl rfl rfl
theorem i250_26 : insAt 250 26 = some (.iload 2, 27) := by decide +kernel
theorem r250_26 {E : aEnv} {c : Nat} {ah : aHp} {st : List Value} {Q : Option Value → aHp → Prop} {a0 a1 a3 a4 a5 : Option Value} {x : Int32} : WP E c 250 26 [a0, a1, some (.int x), a3, a4, a5] (st) ah Q = WP E c 250 27 [a0, a1, some (.int x), a3, a4, a5] (.int x :: st) ah Q := wp_s i250_26 rfl rfl rfl rfl
theorem i250_27 : insAt 250 27 = some (.invokevirtual 251, 30) := by decide +kernel
theorem r250_27 {E : aEnv} {c : Nat} {ah ah1 : aHp} {r : Option Value} {st : List Value} {Q : Option Value → aHp → Prop} {a0 a1 a2 a3 a4 a5 : Option Value} {p0 : Nat} {p1 : Int32} (h : EV E c 251 [.ref p0, .int p1] ah r ah1) (h2 : oCI (hg E ah p0) = 11) (h3 : wds st ≤ 8) : WP E (c + 1) 250 27 [a0, a1, a2, a3, a4, a5] (.int p1 :: .ref p0 :: st) ah Q = WP E (c + 1) 250 30 [a0, a1, a2, a3, a4, a5] (r.toList ++ st) ah1 Q := wp_call (As := [.ref p0, .int p1]) i250_27 (fun _ => rfl) rfl mr251.1 (rcv_1 h2 mr251.2.2 (by decide)) h3 (by rw [mr251.2.1]; exact Nat.le_of_ble_eq_true rfl) h
theorem i250_30 : insAt 250 30 = some (.aload 0, 31) := by decide +kernel
theorem r250_30 {E : aEnv} {c : Nat} {ah : aHp} {st : List Value} {Q : Option Value → aHp → Prop} {a1 a2 a3 a4 a5 : Option Value} {x : Nat} : WP E c 250 30 [some (.ref x), a1, a2, a3, a4, a5] (st) ah Q = WP E c 250 31 [some (.ref x), a1, a2, a3, a4, a5] (.ref x :: st) ah Q := wp_s i250_30 rfl rfl rfl rfl
theorem i250_31 : insAt 250 31 = some (.iload 3, 32) := by decide +kernel
theorem r250_31 {E : aEnv} {c : Nat} {ah : aHp} {st : List Value} {Q : Option Value → aHp → Prop} {a0 a1 a2 a4 a5 : Option Value} {x : Int32} : WP E c 250 31 [a0, a1, a2, some (.int x), a4, a5] (st) ah Q = WP E c 250 32 [a0, a1, a2, some (.int x), a4, a5] (.int x :: st) ah Q := wp_s i250_31 rfl rfl rfl rfl
theorem i250_32 : insAt 250 32 = some (.invokevirtual 251, 35) := by decide +kernel
theorem r250_32 {E : aEnv} {c : Nat} {ah ah1 : aHp} {r : Option Value} {st : List Value} {Q : Option Value → aHp → Prop} {a0 a1 a2 a3 a4 a5 : Option Value} {p0 : Nat} {p1 : Int32} (h : EV E c 251 [.ref p0, .int p1] ah r ah1) (h2 : oCI (hg E ah p0) = 11) (h3 : wds st ≤ 8) : WP E (c + 1) 250 32 [a0, a1, a2, a3, a4, a5] (.int p1 :: .ref p0 :: st) ah Q = WP E (c + 1) 250 35 [a0, a1, a2, a3, a4, a5] (r.toList ++ st) ah1 Q := wp_call (As := [.ref p0, .int p1]) i250_32 (fun _ => rfl) rfl mr251.1 (rcv_1 h2 mr251.2.2 (by decide)) h3 (by rw [mr251.2.1]; exact Nat.le_of_ble_eq_true rfl) h
theorem i250_35 : insAt 250 35 = some (.aload 0, 36) := by decide +kernel
theorem r250_35 {E : aEnv} {c : Nat} {ah : aHp} {st : List Value} {Q : Option Value → aHp → Prop} {a1 a2 a3 a4 a5 : Option Value} {x : Nat} : WP E c 250 35 [some (.ref x), a1, a2, a3, a4, a5] (st) ah Q = WP E c 250 36 [some (.ref x), a1, a2, a3, a4, a5] (.ref x :: st) ah Q := wp_s i250_35 rfl rfl rfl rfl
theorem i250_36 : insAt 250 36 = some (.iload 4, 38) := by decide +kernel
theorem r250_36 {E : aEnv} {c : Nat} {ah : aHp} {st : List Value} {Q : Option Value → aHp → Prop} {a0 a1 a2 a3 a5 : Option Value} {x : Int32} : WP E c 250 36 [a0, a1, a2, a3, some (.int x), a5] (st) ah Q = WP E c 250 38 [a0, a1, a2, a3, some (.int x), a5] (.int x :: st) ah Q := wp_s i250_36 rfl rfl rfl rfl
theorem i250_38 : insAt 250 38 = some (.invokevirtual 251, 41) := by decide +kernel
theorem r250_38 {E : aEnv} {c : Nat} {ah ah1 : aHp} {r : Option Value} {st : List Value} {Q : Option Value → aHp → Prop} {a0 a1 a2 a3 a4 a5 : Option Value} {p0 : Nat} {p1 : Int32} (h : EV E c 251 [.ref p0, .int p1] ah r ah1) (h2 : oCI (hg E ah p0) = 11) (h3 : wds st ≤ 8) : WP E (c + 1) 250 38 [a0, a1, a2, a3, a4, a5] (.int p1 :: .ref p0 :: st) ah Q = WP E (c + 1) 250 41 [a0, a1, a2, a3, a4, a5] (r.toList ++ st) ah1 Q := wp_call (As := [.ref p0, .int p1]) i250_38 (fun _ => rfl) rfl mr251.1 (rcv_1 h2 mr251.2.2 (by decide)) h3 (by rw [mr251.2.1]; exact Nat.le_of_ble_eq_true rfl) h
theorem i250_41 : insAt 250 41 = some (.aload 0, 42) := by decide +kernel
theorem r250_41 {E : aEnv} {c : Nat} {ah : aHp} {st : List Value} {Q : Option Value → aHp → Prop} {a1 a2 a3 a4 a5 : Option Value} {x : Nat} : WP E c 250 41 [some (.ref x), a1, a2, a3, a4, a5] (st) ah Q = WP E c 250 42 [some (.ref x), a1, a2, a3, a4, a5] (.ref x :: st) ah Q := wp_s i250_41 rfl rfl rfl rfl
theorem i250_42 : insAt 250 42 = some (.iload 5, 44) := by decide +kernel
theorem r250_42 {E : aEnv} {c : Nat} {ah : aHp} {st : List Value} {Q : Option Value → aHp → Prop} {a0 a1 a2 a3 a4 : Option Value} {x : Int32} : WP E c 250 42 [a0, a1, a2, a3, a4, some (.int x)] (st) ah Q = WP E c 250 44 [a0, a1, a2, a3, a4, some (.int x)] (.int x :: st) ah Q := wp_s i250_42 rfl rfl rfl rfl
theorem i250_44 : insAt 250 44 = some (.invokevirtual 251, 47) := by decide +kernel
theorem r250_44 {E : aEnv} {c : Nat} {ah ah1 : aHp} {r : Option Value} {st : List Value} {Q : Option Value → aHp → Prop} {a0 a1 a2 a3 a4 a5 : Option Value} {p0 : Nat} {p1 : Int32} (h : EV E c 251 [.ref p0, .int p1] ah r ah1) (h2 : oCI (hg E ah p0) = 11) (h3 : wds st ≤ 8) : WP E (c + 1) 250 44 [a0, a1, a2, a3, a4, a5] (.int p1 :: .ref p0 :: st) ah Q = WP E (c + 1) 250 47 [a0, a1, a2, a3, a4, a5] (r.toList ++ st) ah1 Q := wp_call (As := [.ref p0, .int p1]) i250_44 (fun _ => rfl) rfl mr251.1 (rcv_1 h2 mr251.2.2 (by decide)) h3 (by rw [mr251.2.1]; exact Nat.le_of_ble_eq_true rfl) h
theorem i250_47 : insAt 250 47 = some (.aload 0, 48) := by decide +kernel
theorem r250_47 {E : aEnv} {c : Nat} {ah : aHp} {st : List Value} {Q : Option Value → aHp → Prop} {a1 a2 a3 a4 a5 : Option Value} {x : Nat} : WP E c 250 47 [some (.ref x), a1, a2, a3, a4, a5] (st) ah Q = WP E c 250 48 [some (.ref x), a1, a2, a3, a4, a5] (.ref x :: st) ah Q := wp_s i250_47 rfl rfl rfl rfl
theorem i250_48 : insAt 250 48 = some (.getfield 11290, 51) := by decide +kernel
theorem r250_48 {E : aEnv} {c : Nat} {ah : aHp} {st : List Value} {Q : Option Value → aHp → Prop} {a0 a1 a2 a3 a4 a5 : Option Value} {a : Nat} : WP E c 250 48 [a0, a1, a2, a3, a4, a5] (.ref a :: st) ah Q = WPo (oGF (hg E ah a) 11 29) (fun v => WP E c 250 51 [a0, a1, a2, a3, a4, a5] (v :: st) ah Q) := wp_getf i250_48
theorem i250_51 : insAt 250 51 = some (.ireturn, 52) := by decide +kernel
theorem r250_51 {E : aEnv} {c : Nat} {ah : aHp} {Q : Option Value → aHp → Prop} {a0 a1 a2 a3 a4 a5 : Option Value} {x : Int32} : WP E c 250 51 [a0, a1, a2, a3, a4, a5] ([.int x]) ah Q = Q (some (.int x)) ah := wp_rt i250_51 rfl
theorem e251 {E : aEnv} {c : Nat} {ah ahF : aHp} {r : Option Value} {p0 : Nat} {p1 : Int32} (h : WP E c 251 0 [some (.ref p0), some (.int p1), none] [] ah (fun r1 x1 => r1 = r ∧ x1 = ahF)) : EV E c 251 [.ref p0, .int p1] ah r ahF := EV.of (by rw [mr251.2.1]; exact h)
theorem i251_0 : insAt 251 0 = some (.iconst 3, 1) := by decide +kernel
theorem r251_0 {E : aEnv} {c : Nat} {ah : aHp} {st : List Value} {Q : Option Value → aHp → Prop} {a0 a1 a2 : Option Value} : WP E c 251 0 [a0, a1, a2] (st) ah Q = WP E c 251 1 [a0, a1, a2] (.int (3) :: st) ah Q := wp_s i251_0 rfl rfl rfl rfl
theorem i251_1 : insAt 251 1 = some (.istore 2, 2) := by decide +kernel
theorem r251_1 {E : aEnv} {c : Nat} {ah : aHp} {st : List Value} {Q : Option Value → aHp → Prop} {a0 a1 a2 : Option Value} {x : Int32} : WP E c 251 1 [a0, a1, a2] (.int x :: st) ah Q = WP E c 251 2 [a0, kil a1, some (.int x)] (st) ah Q := wp_s i251_1 rfl rfl rfl rfl
theorem i251_2 : insAt 251 2 = some (.iload 2, 3) := by decide +kernel
theorem r251_2 {E : aEnv} {c : Nat} {ah : aHp} {st : List Value} {Q : Option Value → aHp → Prop} {a0 a1 : Option Value} {x : Int32} : WP E c 251 2 [a0, a1, some (.int x)] (st) ah Q = WP E c 251 3 [a0, a1, some (.int x)] (.int x :: st) ah Q := wp_s i251_2 rfl rfl rfl rfl
theorem i251_3 : insAt 251 3 = some (.ifCond .lt 38, 6) := by decide +kernel
theorem r251_3 {E : aEnv} {c : Nat} {ah : aHp} {st : List Value} {Q : Option Value → aHp → Prop} {a0 a1 a2 : Option Value} {x : Int32} : WP E c 251 3 [a0, a1, a2] (.int x :: st) ah Q = if x < 0 then WP E c 251 38 [a0, a1, a2] st ah Q else WP E c 251 6 [a0, a1, a2] st ah Q := wp_j i251_3 rfl rfl rfl rfl
theorem i251_6 : insAt 251 6 = some (.aload 0, 7) := by decide +kernel
theorem r251_6 {E : aEnv} {c : Nat} {ah : aHp} {st : List Value} {Q : Option Value → aHp → Prop} {a1 a2 : Option Value} {x : Nat} : WP E c 251 6 [some (.ref x), a1, a2] (st) ah Q = WP E c 251 7 [some (.ref x), a1, a2] (.ref x :: st) ah Q := wp_s i251_6 rfl rfl rfl rfl
theorem i251_7 : insAt 251 7 = some (.getfield 11282, 10) := by decide +kernel
theorem r251_7 {E : aEnv} {c : Nat} {ah : aHp} {st : List Value} {Q : Option Value → aHp → Prop} {a0 a1 a2 : Option Value} {a : Nat} : WP E c 251 7 [a0, a1, a2] (.ref a :: st) ah Q = WPo (oGF (hg E ah a) 11 28) (fun v => WP E c 251 10 [a0, a1, a2] (v :: st) ah Q) := wp_getf i251_7
theorem i251_10 : insAt 251 10 = some (.aload 0, 11) := by decide +kernel
theorem r251_10 {E : aEnv} {c : Nat} {ah : aHp} {st : List Value} {Q : Option Value → aHp → Prop} {a1 a2 : Option Value} {x : Nat} : WP E c 251 10 [some (.ref x), a1, a2] (st) ah Q = WP E c 251 11 [some (.ref x), a1, a2] (.ref x :: st) ah Q := wp_s i251_10 rfl rfl rfl rfl
theorem i251_11 : insAt 251 11 = some (.getfield 11290, 14) := by decide +kernel
theorem r251_11 {E : aEnv} {c : Nat} {ah : aHp} {st : List Value} {Q : Option Value → aHp → Prop} {a0 a1 a2 : Option Value} {a : Nat} : WP E c 251 11 [a0, a1, a2] (.ref a :: st) ah Q = WPo (oGF (hg E ah a) 11 29) (fun v => WP E c 251 14 [a0, a1, a2] (v :: st) ah Q) := wp_getf i251_11
theorem i251_14 : insAt 251 14 = some (.iload 1, 15) := by decide +kernel
theorem r251_14 {E : aEnv} {c : Nat} {ah : aHp} {st : List Value} {Q : Option Value → aHp → Prop} {a0 a2 : Option Value} {x : Int32} : WP E c 251 14 [a0, some (.int x), a2] (st) ah Q = WP E c 251 15 [a0, some (.int x), a2] (.int x :: st) ah Q := wp_s i251_14 rfl rfl rfl rfl
theorem i251_15 : insAt 251 15 = some (.iconst 8, 17) := by decide +kernel
theorem r251_15 {E : aEnv} {c : Nat} {ah : aHp} {st : List Value} {Q : Option Value → aHp → Prop} {a0 a1 a2 : Option Value} : WP E c 251 15 [a0, a1, a2] (st) ah Q = WP E c 251 17 [a0, a1, a2] (.int (8) :: st) ah Q := wp_s i251_15 rfl rfl rfl rfl
theorem i251_17 : insAt 251 17 = some (.iload 2, 18) := by decide +kernel
theorem r251_17 {E : aEnv} {c : Nat} {ah : aHp} {st : List Value} {Q : Option Value → aHp → Prop} {a0 a1 : Option Value} {x : Int32} : WP E c 251 17 [a0, a1, some (.int x)] (st) ah Q = WP E c 251 18 [a0, a1, some (.int x)] (.int x :: st) ah Q := wp_s i251_17 rfl rfl rfl rfl
theorem i251_18 : insAt 251 18 = some (.imul, 19) := by decide +kernel
theorem r251_18 {E : aEnv} {c : Nat} {ah : aHp} {st : List Value} {Q : Option Value → aHp → Prop} {a0 a1 a2 : Option Value} {x y : Int32} : WP E c 251 18 [a0, a1, a2] (.int y :: .int x :: st) ah Q = WP E c 251 19 [a0, a1, a2] (.int (x * y) :: st) ah Q := wp_s i251_18 rfl rfl rfl rfl
theorem i251_19 : insAt 251 19 = some (.ishr, 20) := by decide +kernel
theorem r251_19 {E : aEnv} {c : Nat} {ah : aHp} {st : List Value} {Q : Option Value → aHp → Prop} {a0 a1 a2 : Option Value} {x y : Int32} : WP E c 251 19 [a0, a1, a2] (.int y :: .int x :: st) ah Q = WP E c 251 20 [a0, a1, a2] (.int (x >>> (y &&& 31)) :: st) ah Q := wp_s i251_19 rfl rfl rfl rfl
theorem i251_20 : insAt 251 20 = some (.i2b, 21) := by decide +kernel
theorem r251_20 {E : aEnv} {c : Nat} {ah : aHp} {st : List Value} {Q : Option Value → aHp → Prop} {a0 a1 a2 : Option Value} {x : Int32} : WP E c 251 20 [a0, a1, a2] (.int x :: st) ah Q = WP E c 251 21 [a0, a1, a2] (.int x.toInt8.toInt32 :: st) ah Q := wp_s i251_20 rfl rfl rfl rfl
theorem i251_21 : insAt 251 21 = some (.bastore, 22) := by decide +kernel
theorem r251_21 {E : aEnv} {c : Nat} {ah : aHp} {st : List Value} {Q : Option Value → aHp → Prop} {a0 a1 a2 : Option Value} {x : Int32} {i : Int32} {a : Nat} : WP E c 251 21 [a0, a1, a2] (.int x :: .int i :: .ref a :: st) ah Q = WPo (pB E ah (.int x :: .int i :: .ref a :: st)) (fun q9 => WP E c 251 22 [a0, a1, a2] q9.1 q9.2 Q) := wp_hw i251_21 rfl rfl rfl rfl rfl rfl rfl rfl
theorem i251_22 : insAt 251 22 = some (.aload 0, 23) := by decide +kernel
theorem r251_22 {E : aEnv} {c : Nat} {ah : aHp} {st : List Value} {Q : Option Value → aHp → Prop} {a1 a2 : Option Value} {x : Nat} : WP E c 251 22 [some (.ref x), a1, a2] (st) ah Q = WP E c 251 23 [some (.ref x), a1, a2] (.ref x :: st) ah Q := wp_s i251_22 rfl rfl rfl rfl
theorem i251_23 : insAt 251 23 = some (.dup, 24) := by decide +kernel
theorem r251_23 {E : aEnv} {c : Nat} {ah : aHp} {st : List Value} {Q : Option Value → aHp → Prop} {a0 a1 a2 : Option Value} {x : Nat} : WP E c 251 23 [a0, a1, a2] (.ref x :: st) ah Q = WP E c 251 24 [a0, a1, a2] (.ref x :: .ref x :: st) ah Q := wp_s i251_23 rfl rfl rfl rfl
theorem r251_23i {E : aEnv} {c : Nat} {ah : aHp} {st : List Value} {Q : Option Value → aHp → Prop} {a0 a1 a2 : Option Value} {x : Int32} : WP E c 251 23 [a0, a1, a2] (.int x :: st) ah Q = WP E c 251 24 [a0, a1, a2] (.int x :: .int x :: st) ah Q := wp_s i251_23 rfl rfl rfl rfl
theorem i251_24 : insAt 251 24 = some (.getfield 11290, 27) := by decide +kernel
theorem r251_24 {E : aEnv} {c : Nat} {ah : aHp} {st : List Value} {Q : Option Value → aHp → Prop} {a0 a1 a2 : Option Value} {a : Nat} : WP E c 251 24 [a0, a1, a2] (.ref a :: st) ah Q = WPo (oGF (hg E ah a) 11 29) (fun v => WP E c 251 27 [a0, a1, a2] (v :: st) ah Q) := wp_getf i251_24
theorem i251_27 : insAt 251 27 = some (.iconst 1, 28) := by decide +kernel
theorem r251_27 {E : aEnv} {c : Nat} {ah : aHp} {st : List Value} {Q : Option Value → aHp → Prop} {a0 a1 a2 : Option Value} : WP E c 251 27 [a0, a1, a2] (st) ah Q = WP E c 251 28 [a0, a1, a2] (.int (1) :: st) ah Q := wp_s i251_27 rfl rfl rfl rfl
theorem i251_28 : insAt 251 28 = some (.iadd, 29) := by decide +kernel
theorem r251_28 {E : aEnv} {c : Nat} {ah : aHp} {st : List Value} {Q : Option Value → aHp → Prop} {a0 a1 a2 : Option Value} {x y : Int32} : WP E c 251 28 [a0, a1, a2] (.int y :: .int x :: st) ah Q = WP E c 251 29 [a0, a1, a2] (.int (x + y) :: st) ah Q := wp_s i251_28 rfl rfl rfl rfl
theorem i251_29 : insAt 251 29 = some (.putfield 11290, 32) := by decide +kernel
theorem r251_29 {E : aEnv} {c : Nat} {ah : aHp} {st : List Value} {Q : Option Value → aHp → Prop} {a0 a1 a2 : Option Value} {a : Nat} {v : Value} : WP E c 251 29 [a0, a1, a2] (v :: .ref a :: st) ah Q = WPo (oPF (hg E ah a) 11290 v) (fun e => WP E c 251 32 [a0, a1, a2] st (hs E ah a e) Q) := wp_putf i251_29
theorem i251_32 : insAt 251 32 = some (.iinc 2 (-1), 35) := by decide +kernel
theorem r251_32 {E : aEnv} {c : Nat} {ah : aHp} {st : List Value} {Q : Option Value → aHp → Prop} {a0 a1 : Option Value} {x : Int32} : WP E c 251 32 [a0, a1, some (.int x)] (st) ah Q = WP E c 251 35 [a0, kil a1, some (.int (x + (-1)))] (st) ah Q := wp_s i251_32 rfl rfl rfl rfl
theorem i251_35 : insAt 251 35 = some (.goto 2, 38) := by decide +kernel
theorem r251_35 {E : aEnv} {c : Nat} {ah : aHp} {st : List Value} {Q : Option Value → aHp → Prop} {a0 a1 a2 : Option Value} : WP E c 251 35 [a0, a1, a2] (st) ah Q = WP E c 251 2 [a0, a1, a2] st ah Q := wp_s i251_35 rfl rfl rfl rfl
theorem i251_38 : insAt 251 38 = some (.return_, 39) := by decide +kernel
theorem r251_38 {E : aEnv} {c : Nat} {ah : aHp} {Q : Option Value → aHp → Prop} {a0 a1 a2 : Option Value} : WP E c 251 38 [a0, a1, a2] ([]) ah Q = Q none ah := wp_rt i251_38 rfl
theorem e252 {E : aEnv} {c : Nat} {ah ahF : aHp} {r : Option Value} {p0 : Nat} {p1 : Int32} (h : WP E c 252 0 [some (.ref p0), some (.int p1), none, none] [] ah (fun r1 x1 => r1 = r ∧ x1 = ahF)) : EV E c 252 [.ref p0, .int p1] ah r ahF := EV.of (by rw [mr252.2.1]; exact h)
theorem i252_0 : insAt 252 0 = some (.aload 0, 1) := by decide +kernel
theorem r252_0 {E : aEnv} {c : Nat} {ah : aHp} {st : List Value} {Q : Option Value → aHp → Prop} {a1 a2 a3 : Option Value} {x : Nat} : WP E c 252 0 [some (.ref x), a1, a2, a3] (st) ah Q = WP E c 252 1 [some (.ref x), a1, a2, a3] (.ref x :: st) ah Q := wp_s i252_0 rfl rfl rfl rfl
theorem i252_1 : insAt 252 1 = some (.iconst 0, 2) := by decide +kernel
theorem r252_1 {E : aEnv} {c : Nat} {ah : aHp} {st : List Value} {Q : Option Value → aHp → Prop} {a0 a1 a2 a3 : Option Value} : WP E c 252 1 [a0, a1, a2, a3] (st) ah Q = WP E c 252 2 [a0, a1, a2, a3] (.int (0) :: st) ah Q := wp_s i252_1 rfl rfl rfl rfl
theorem i252_2 : insAt 252 2 = some (.putfield 11010, 5) := by decide +kernel
theorem r252_2 {E : aEnv} {c : Nat} {ah : aHp} {st : List Value} {Q : Option Value → aHp → Prop} {a0 a1 a2 a3 : Option Value} {a : Nat} {v : Value} : WP E c 252 2 [a0, a1, a2, a3] (v :: .ref a :: st) ah Q = WPo (oPF (hg E ah a) 11010 v) (fun e => WP E c 252 5 [a0, a1, a2, a3] st (hs E ah a e) Q) := wp_putf i252_2
theorem i252_5 : insAt 252 5 = some (.aload 0, 6) := by decide +kernel
theorem r252_5 {E : aEnv} {c : Nat} {ah : aHp} {st : List Value} {Q : Option Value → aHp → Prop} {a1 a2 a3 : Option Value} {x : Nat} : WP E c 252 5 [some (.ref x), a1, a2, a3] (st) ah Q = WP E c 252 6 [some (.ref x), a1, a2, a3] (.ref x :: st) ah Q := wp_s i252_5 rfl rfl rfl rfl
theorem i252_6 : insAt 252 6 = some (.iconst 0, 7) := by decide +kernel
theorem r252_6 {E : aEnv} {c : Nat} {ah : aHp} {st : List Value} {Q : Option Value → aHp → Prop} {a0 a1 a2 a3 : Option Value} : WP E c 252 6 [a0, a1, a2, a3] (st) ah Q = WP E c 252 7 [a0, a1, a2, a3] (.int (0) :: st) ah Q := wp_s i252_6 rfl rfl rfl rfl
theorem i252_7 : insAt 252 7 = some (.putfield 11000, 10) := by decide +kernel
theorem r252_7 {E : aEnv} {c : Nat} {ah : aHp} {st : List Value} {Q : Option Value → aHp → Prop} {a0 a1 a2 a3 : Option Value} {a : Nat} {v : Value} : WP E c 252 7 [a0, a1, a2, a3] (v :: .ref a :: st) ah Q = WPo (oPF (hg E ah a) 11000 v) (fun e => WP E c 252 10 [a0, a1, a2, a3] st (hs E ah a e) Q) := wp_putf i252_7
theorem i252_10 : insAt 252 10 = some (.iload 1, 11) := by decide +kernel
theorem r252_10 {E : aEnv} {c : Nat} {ah : aHp} {st : List Value} {Q : Option Value → aHp → Prop} {a0 a2 a3 : Option Value} {x : Int32} : WP E c 252 10 [a0, some (.int x), a2, a3] (st) ah Q = WP E c 252 11 [a0, some (.int x), a2, a3] (.int x :: st) ah Q := wp_s i252_10 rfl rfl rfl rfl
theorem i252_11 : insAt 252 11 = some (.ifCond .lt 22, 14) := by decide +kernel
theorem r252_11 {E : aEnv} {c : Nat} {ah : aHp} {st : List Value} {Q : Option Value → aHp → Prop} {a0 a1 a2 a3 : Option Value} {x : Int32} : WP E c 252 11 [a0, a1, a2, a3] (.int x :: st) ah Q = if x < 0 then WP E c 252 22 [a0, a1, a2, a3] st ah Q else WP E c 252 14 [a0, a1, a2, a3] st ah Q := wp_j i252_11 rfl rfl rfl rfl
theorem i252_14 : insAt 252 14 = some (.iload 1, 15) := by decide +kernel
theorem r252_14 {E : aEnv} {c : Nat} {ah : aHp} {st : List Value} {Q : Option Value → aHp → Prop} {a0 a2 a3 : Option Value} {x : Int32} : WP E c 252 14 [a0, some (.int x), a2, a3] (st) ah Q = WP E c 252 15 [a0, some (.int x), a2, a3] (.int x :: st) ah Q := wp_s i252_14 rfl rfl rfl rfl
theorem i252_15 : insAt 252 15 = some (.aload 0, 16) := by decide +kernel
theorem r252_15 {E : aEnv} {c : Nat} {ah : aHp} {st : List Value} {Q : Option Value → aHp → Prop} {a1 a2 a3 : Option Value} {x : Nat} : WP E c 252 15 [some (.ref x), a1, a2, a3] (st) ah Q = WP E c 252 16 [some (.ref x), a1, a2, a3] (.ref x :: st) ah Q := wp_s i252_15 rfl rfl rfl rfl
theorem i252_16 : insAt 252 16 = some (.getfield 11290, 19) := by decide +kernel
theorem r252_16 {E : aEnv} {c : Nat} {ah : aHp} {st : List Value} {Q : Option Value → aHp → Prop} {a0 a1 a2 a3 : Option Value} {a : Nat} : WP E c 252 16 [a0, a1, a2, a3] (.ref a :: st) ah Q = WPo (oGF (hg E ah a) 11 29) (fun v => WP E c 252 19 [a0, a1, a2, a3] (v :: st) ah Q) := wp_getf i252_16
theorem i252_19 : insAt 252 19 = some (.if_icmp .le 28, 22) := by decide +kernel
theorem r252_19 {E : aEnv} {c : Nat} {ah : aHp} {st : List Value} {Q : Option Value → aHp → Prop} {a0 a1 a2 a3 : Option Value} {x y : Int32} : WP E c 252 19 [a0, a1, a2, a3] (.int y :: .int x :: st) ah Q = if x ≤ y then WP E c 252 28 [a0, a1, a2, a3] st ah Q else WP E c 252 22 [a0, a1, a2, a3] st ah Q := wp_j i252_19 rfl rfl rfl rfl
theorem i252_22 : insAt 252 22 = some (.aload 0, 23) := by decide +kernel
theorem r252_22 {E : aEnv} {c : Nat} {ah : aHp} {st : List Value} {Q : Option Value → aHp → Prop} {a1 a2 a3 : Option Value} {x : Nat} : WP E c 252 22 [some (.ref x), a1, a2, a3] (st) ah Q = WP E c 252 23 [some (.ref x), a1, a2, a3] (.ref x :: st) ah Q := wp_s i252_22 rfl rfl rfl rfl
theorem i252_23 : insAt 252 23 = some (.iconst 5, 24) := by decide +kernel
theorem r252_23 {E : aEnv} {c : Nat} {ah : aHp} {st : List Value} {Q : Option Value → aHp → Prop} {a0 a1 a2 a3 : Option Value} : WP E c 252 23 [a0, a1, a2, a3] (st) ah Q = WP E c 252 24 [a0, a1, a2, a3] (.int (5) :: st) ah Q := wp_s i252_23 rfl rfl rfl rfl
theorem i252_24 : insAt 252 24 = some (.invokevirtual 197, 27) := by decide +kernel
theorem r252_24 {E : aEnv} {c : Nat} {ah ah1 : aHp} {r : Option Value} {st : List Value} {Q : Option Value → aHp → Prop} {a0 a1 a2 a3 : Option Value} {p0 : Nat} {p1 : Int32} (h : EV E c 197 [.ref p0, .int p1] ah r ah1) (h2 : oCI (hg E ah p0) = 11) (h3 : wds st ≤ 8) : WP E (c + 1) 252 24 [a0, a1, a2, a3] (.int p1 :: .ref p0 :: st) ah Q = WP E (c + 1) 252 27 [a0, a1, a2, a3] (r.toList ++ st) ah1 Q := wp_call (As := [.ref p0, .int p1]) i252_24 (fun _ => rfl) rfl mr197.1 (rcv_1 h2 mr197.2.2 (by decide)) h3 (by rw [mr197.2.1]; exact Nat.le_of_ble_eq_true rfl) h
theorem i252_27 : insAt 252 27 = some (.ireturn, 28) := by decide +kernel
theorem r252_27 {E : aEnv} {c : Nat} {ah : aHp} {Q : Option Value → aHp → Prop} {a0 a1 a2 a3 : Option Value} {x : Int32} : WP E c 252 27 [a0, a1, a2, a3] ([.int x]) ah Q = Q (some (.int x)) ah := wp_rt i252_27 rfl
theorem i252_28 : insAt 252 28 = some (.aload 0, 29) := by decide +kernel
theorem r252_28 {E : aEnv} {c : Nat} {ah : aHp} {st : List Value} {Q : Option Value → aHp → Prop} {a1 a2 a3 : Option Value} {x : Nat} : WP E c 252 28 [some (.ref x), a1, a2, a3] (st) ah Q = WP E c 252 29 [some (.ref x), a1, a2, a3] (.ref x :: st) ah Q := wp_s i252_28 rfl rfl rfl rfl
theorem i252_29 : insAt 252 29 = some (.iload 1, 30) := by decide +kernel
theorem r252_29 {E : aEnv} {c : Nat} {ah : aHp} {st : List Value} {Q : Option Value → aHp → Prop} {a0 a2 a3 : Option Value} {x : Int32} : WP E c 252 29 [a0, some (.int x), a2, a3] (st) ah Q = WP E c 252 30 [a0, some (.int x), a2, a3] (.int x :: st) ah Q := wp_s i252_29 rfl rfl rfl rfl
theorem i252_30 : insAt 252 30 = some (.putfield 11300, 33) := by decide +kernel
theorem r252_30 {E : aEnv} {c : Nat} {ah : aHp} {st : List Value} {Q : Option Value → aHp → Prop} {a0 a1 a2 a3 : Option Value} {a : Nat} {v : Value} : WP E c 252 30 [a0, a1, a2, a3] (v :: .ref a :: st) ah Q = WPo (oPF (hg E ah a) 11300 v) (fun e => WP E c 252 33 [a0, a1, a2, a3] st (hs E ah a e) Q) := wp_putf i252_30
theorem i252_33 : insAt 252 33 = some (.aload 0, 34) := by decide +kernel
theorem r252_33 {E : aEnv} {c : Nat} {ah : aHp} {st : List Value} {Q : Option Value → aHp → Prop} {a1 a2 a3 : Option Value} {x : Nat} : WP E c 252 33 [some (.ref x), a1, a2, a3] (st) ah Q = WP E c 252 34 [some (.ref x), a1, a2, a3] (.ref x :: st) ah Q := wp_s i252_33 rfl rfl rfl rfl
theorem i252_34 : insAt 252 34 = some (.iconst 0, 35) := by decide +kernel
theorem r252_34 {E : aEnv} {c : Nat} {ah : aHp} {st : List Value} {Q : Option Value → aHp → Prop} {a0 a1 a2 a3 : Option Value} : WP E c 252 34 [a0, a1, a2, a3] (st) ah Q = WP E c 252 35 [a0, a1, a2, a3] (.int (0) :: st) ah Q := wp_s i252_34 rfl rfl rfl rfl
theorem i252_35 : insAt 252 35 = some (.putfield 11290, 38) := by decide +kernel
theorem r252_35 {E : aEnv} {c : Nat} {ah : aHp} {st : List Value} {Q : Option Value → aHp → Prop} {a0 a1 a2 a3 : Option Value} {a : Nat} {v : Value} : WP E c 252 35 [a0, a1, a2, a3] (v :: .ref a :: st) ah Q = WPo (oPF (hg E ah a) 11290 v) (fun e => WP E c 252 38 [a0, a1, a2, a3] st (hs E ah a e) Q) := wp_putf i252_35
theorem i252_38 : insAt 252 38 = some (.aload 0, 39) := by decide +kernel
theorem r252_38 {E : aEnv} {c : Nat} {ah : aHp} {st : List Value} {Q : Option Value → aHp → Prop} {a1 a2 a3 : Option Value} {x : Nat} : WP E c 252 38 [some (.ref x), a1, a2, a3] (st) ah Q = WP E c 252 39 [some (.ref x), a1, a2, a3] (.ref x :: st) ah Q := wp_s i252_38 rfl rfl rfl rfl
theorem i252_39 : insAt 252 39 = some (.iconst 0, 40) := by decide +kernel
theorem r252_39 {E : aEnv} {c : Nat} {ah : aHp} {st : List Value} {Q : Option Value → aHp → Prop} {a0 a1 a2 a3 : Option Value} : WP E c 252 39 [a0, a1, a2, a3] (st) ah Q = WP E c 252 40 [a0, a1, a2, a3] (.int (0) :: st) ah Q := wp_s i252_39 rfl rfl rfl rfl
theorem i252_40 : insAt 252 40 = some (.putfield 11370, 43) := by decide +kernel
theorem r252_40 {E : aEnv} {c : Nat} {ah : aHp} {st : List Value} {Q : Option Value → aHp → Prop} {a0 a1 a2 a3 : Option Value} {a : Nat} {v : Value} : WP E c 252 40 [a0, a1, a2, a3] (v :: .ref a :: st) ah Q = WPo (oPF (hg E ah a) 11370 v) (fun e => WP E c 252 43 [a0, a1, a2, a3] st (hs E ah a e) Q) := wp_putf i252_40
theorem i252_43 : insAt 252 43 = some (.aload 0, 44) := by decide +kernel
theorem r252_43 {E : aEnv} {c : Nat} {ah : aHp} {st : List Value} {Q : Option Value → aHp → Prop} {a1 a2 a3 : Option Value} {x : Nat} : WP E c 252 43 [some (.ref x), a1, a2, a3] (st) ah Q = WP E c 252 44 [some (.ref x), a1, a2, a3] (.ref x :: st) ah Q := wp_s i252_43 rfl rfl rfl rfl
theorem i252_44 : insAt 252 44 = some (.iconst 0, 45) := by decide +kernel
theorem r252_44 {E : aEnv} {c : Nat} {ah : aHp} {st : List Value} {Q : Option Value → aHp → Prop} {a0 a1 a2 a3 : Option Value} : WP E c 252 44 [a0, a1, a2, a3] (st) ah Q = WP E c 252 45 [a0, a1, a2, a3] (.int (0) :: st) ah Q := wp_s i252_44 rfl rfl rfl rfl
theorem i252_45 : insAt 252 45 = some (.putfield 11330, 48) := by decide +kernel
theorem r252_45 {E : aEnv} {c : Nat} {ah : aHp} {st : List Value} {Q : Option Value → aHp → Prop} {a0 a1 a2 a3 : Option Value} {a : Nat} {v : Value} : WP E c 252 45 [a0, a1, a2, a3] (v :: .ref a :: st) ah Q = WPo (oPF (hg E ah a) 11330 v) (fun e => WP E c 252 48 [a0, a1, a2, a3] st (hs E ah a e) Q) := wp_putf i252_45
theorem i252_48 : insAt 252 48 = some (.aload 0, 49) := by decide +kernel
theorem r252_48 {E : aEnv} {c : Nat} {ah : aHp} {st : List Value} {Q : Option Value → aHp → Prop} {a1 a2 a3 : Option Value} {x : Nat} : WP E c 252 48 [some (.ref x), a1, a2, a3] (st) ah Q = WP E c 252 49 [some (.ref x), a1, a2, a3] (.ref x :: st) ah Q := wp_s i252_48 rfl rfl rfl rfl
theorem i252_49 : insAt 252 49 = some (.iconst 0, 50) := by decide +kernel
theorem r252_49 {E : aEnv} {c : Nat} {ah : aHp} {st : List Value} {Q : Option Value → aHp → Prop} {a0 a1 a2 a3 : Option Value} : WP E c 252 49 [a0, a1, a2, a3] (st) ah Q = WP E c 252 50 [a0, a1, a2, a3] (.int (0) :: st) ah Q := wp_s i252_49 rfl rfl rfl rfl
theorem i252_50 : insAt 252 50 = some (.putfield 11420, 53) := by decide +kernel
theorem r252_50 {E : aEnv} {c : Nat} {ah : aHp} {st : List Value} {Q : Option Value → aHp → Prop} {a0 a1 a2 a3 : Option Value} {a : Nat} {v : Value} : WP E c 252 50 [a0, a1, a2, a3] (v :: .ref a :: st) ah Q = WPo (oPF (hg E ah a) 11420 v) (fun e => WP E c 252 53 [a0, a1, a2, a3] st (hs E ah a e) Q) := wp_putf i252_50
theorem i252_53 : insAt 252 53 = some (.aload 0, 54) := by decide +kernel
theorem r252_53 {E : aEnv} {c : Nat} {ah : aHp} {st : List Value} {Q : Option Value → aHp → Prop} {a1 a2 a3 : Option Value} {x : Nat} : WP E c 252 53 [some (.ref x), a1, a2, a3] (st) ah Q = WP E c 252 54 [some (.ref x), a1, a2, a3] (.ref x :: st) ah Q := wp_s i252_53 rfl rfl rfl rfl
theorem i252_54 : insAt 252 54 = some (.invokevirtual 239, 57) := by decide +kernel
theorem r252_54 {E : aEnv} {c : Nat} {ah ah1 : aHp} {r : Option Value} {st : List Value} {Q : Option Value → aHp → Prop} {a0 a1 a2 a3 : Option Value} {p0 : Nat} (h : EV E c 239 [.ref p0] ah r ah1) (h2 : oCI (hg E ah p0) = 11) (h3 : wds st ≤ 8) : WP E (c + 1) 252 54 [a0, a1, a2, a3] (.ref p0 :: st) ah Q = WP E (c + 1) 252 57 [a0, a1, a2, a3] (r.toList ++ st) ah1 Q := wp_call (As := [.ref p0]) i252_54 (fun _ => rfl) rfl mr239.1 (rcv_1 h2 mr239.2.2 (by decide)) h3 (by rw [mr239.2.1]; exact Nat.le_of_ble_eq_true rfl) h
theorem i252_57 : insAt 252 57 = some (.aload 0, 58) := by decide +kernel
theorem r252_57 {E : aEnv} {c : Nat} {ah : aHp} {st : List Value} {Q : Option Value → aHp → Prop} {a1 a2 a3 : Option Value} {x : Nat} : WP E c 252 57 [some (.ref x), a1, a2, a3] (st) ah Q = WP E c 252 58 [some (.ref x), a1, a2, a3] (.ref x :: st) ah Q := wp_s i252_57 rfl rfl rfl rfl
theorem i252_58 : insAt 252 58 = some (.getfield 11330, 61) := by decide +kernel
theorem r252_58 {E : aEnv} {c : Nat} {ah : aHp} {st : List Value} {Q : Option Value → aHp → Prop} {a0 a1 a2 a3 : Option Value} {a : Nat} : WP E c 252 58 [a0, a1, a2, a3] (.ref a :: st) ah Q = WPo (oGF (hg E ah a) 11 33) (fun v => WP E c 252 61 [a0, a1, a2, a3] (v :: st) ah Q) := wp_getf i252_58
theorem i252_61 : insAt 252 61 = some (.ifCond .ne 78, 64) := by decide +kernel
theorem r252_61 {E : aEnv} {c : Nat} {ah : aHp} {st : List Value} {Q : Option Value → aHp → Prop} {a0 a1 a2 a3 : Option Value} {x : Int32} : WP E c 252 61 [a0, a1, a2, a3] (.int x :: st) ah Q = if ¬ x = 0 then WP E c 252 78 [a0, a1, a2, a3] st ah Q else WP E c 252 64 [a0, a1, a2, a3] st ah Q := wp_j i252_61 rfl rfl rfl rfl
theorem i252_64 : insAt 252 64 = some (.aload 0, 65) := by decide +kernel
theorem r252_64 {E : aEnv} {c : Nat} {ah : aHp} {st : List Value} {Q : Option Value → aHp → Prop} {a1 a2 a3 : Option Value} {x : Nat} : WP E c 252 64 [some (.ref x), a1, a2, a3] (st) ah Q = WP E c 252 65 [some (.ref x), a1, a2, a3] (.ref x :: st) ah Q := wp_s i252_64 rfl rfl rfl rfl
theorem i252_65 : insAt 252 65 = some (.getfield 11350, 68) := by decide +kernel
theorem r252_65 {E : aEnv} {c : Nat} {ah : aHp} {st : List Value} {Q : Option Value → aHp → Prop} {a0 a1 a2 a3 : Option Value} {a : Nat} : WP E c 252 65 [a0, a1, a2, a3] (.ref a :: st) ah Q = WPo (oGF (hg E ah a) 11 35) (fun v => WP E c 252 68 [a0, a1, a2, a3] (v :: st) ah Q) := wp_getf i252_65
theorem i252_68 : insAt 252 68 = some (.ifCond .eq 78, 71) := by decide +kernel
theorem r252_68 {E : aEnv} {c : Nat} {ah : aHp} {st : List Value} {Q : Option Value → aHp → Prop} {a0 a1 a2 a3 : Option Value} {x : Int32} : WP E c 252 68 [a0, a1, a2, a3] (.int x :: st) ah Q = if x = 0 then WP E c 252 78 [a0, a1, a2, a3] st ah Q else WP E c 252 71 [a0, a1, a2, a3] st ah Q := wp_j i252_68 rfl rfl rfl rfl
theorem i252_71 : insAt 252 71 = some (.aload 0, 72) := by decide +kernel
theorem r252_71 {E : aEnv} {c : Nat} {ah : aHp} {st : List Value} {Q : Option Value → aHp → Prop} {a1 a2 a3 : Option Value} {x : Nat} : WP E c 252 71 [some (.ref x), a1, a2, a3] (st) ah Q = WP E c 252 72 [some (.ref x), a1, a2, a3] (.ref x :: st) ah Q := wp_s i252_71 rfl rfl rfl rfl
theorem i252_72 : insAt 252 72 = some (.invokevirtual 247, 75) := by decide +kernel
theorem r252_72 {E : aEnv} {c : Nat} {ah ah1 : aHp} {r : Option Value} {st : List Value} {Q : Option Value → aHp → Prop} {a0 a1 a2 a3 : Option Value} {p0 : Nat} (h : EV E c 247 [.ref p0] ah r ah1) (h2 : oCI (hg E ah p0) = 11) (h3 : wds st ≤ 8) : WP E (c + 1) 252 72 [a0, a1, a2, a3] (.ref p0 :: st) ah Q = WP E (c + 1) 252 75 [a0, a1, a2, a3] (r.toList ++ st) ah1 Q := wp_call (As := [.ref p0]) i252_72 (fun _ => rfl) rfl mr247.1 (rcv_1 h2 mr247.2.2 (by decide)) h3 (by rw [mr247.2.1]; exact Nat.le_of_ble_eq_true rfl) h
theorem i252_75 : insAt 252 75 = some (.goto 57, 78) := by decide +kernel
theorem r252_75 {E : aEnv} {c : Nat} {ah : aHp} {st : List Value} {Q : Option Value → aHp → Prop} {a0 a1 a2 a3 : Option Value} : WP E c 252 75 [a0, a1, a2, a3] (st) ah Q = WP E c 252 57 [a0, a1, a2, a3] st ah Q := wp_s i252_75 rfl rfl rfl rfl
theorem i252_78 : insAt 252 78 = some (.iconst 0, 79) := by decide +kernel
theorem r252_78 {E : aEnv} {c : Nat} {ah : aHp} {st : List Value} {Q : Option Value → aHp → Prop} {a0 a1 a2 a3 : Option Value} : WP E c 252 78 [a0, a1, a2, a3] (st) ah Q = WP E c 252 79 [a0, a1, a2, a3] (.int (0) :: st) ah Q := wp_s i252_78 rfl rfl rfl rfl
theorem i252_79 : insAt 252 79 = some (.istore 2, 80) := by decide +kernel
theorem r252_79 {E : aEnv} {c : Nat} {ah : aHp} {st : List Value} {Q : Option Value → aHp → Prop} {a0 a1 a2 a3 : Option Value} {x : Int32} : WP E c 252 79 [a0, a1, a2, a3] (.int x :: st) ah Q = WP E c 252 80 [a0, kil a1, some (.int x), a3] (st) ah Q := wp_s i252_79 rfl rfl rfl rfl
theorem i252_80 : insAt 252 80 = some (.aload 0, 81) := by decide +kernel
theorem r252_80 {E : aEnv} {c : Nat} {ah : aHp} {st : List Value} {Q : Option Value → aHp → Prop} {a1 a2 a3 : Option Value} {x : Nat} : WP E c 252 80 [some (.ref x), a1, a2, a3] (st) ah Q = WP E c 252 81 [some (.ref x), a1, a2, a3] (.ref x :: st) ah Q := wp_s i252_80 rfl rfl rfl rfl
theorem i252_81 : insAt 252 81 = some (.getfield 11330, 84) := by decide +kernel
theorem r252_81 {E : aEnv} {c : Nat} {ah : aHp} {st : List Value} {Q : Option Value → aHp → Prop} {a0 a1 a2 a3 : Option Value} {a : Nat} : WP E c 252 81 [a0, a1, a2, a3] (.ref a :: st) ah Q = WPo (oGF (hg E ah a) 11 33) (fun v => WP E c 252 84 [a0, a1, a2, a3] (v :: st) ah Q) := wp_getf i252_81
theorem i252_84 : insAt 252 84 = some (.ifCond .ne 170, 87) := by decide +kernel
theorem r252_84 {E : aEnv} {c : Nat} {ah : aHp} {st : List Value} {Q : Option Value → aHp → Prop} {a0 a1 a2 a3 : Option Value} {x : Int32} : WP E c 252 84 [a0, a1, a2, a3] (.int x :: st) ah Q = if ¬ x = 0 then WP E c 252 170 [a0, a1, a2, a3] st ah Q else WP E c 252 87 [a0, a1, a2, a3] st ah Q := wp_j i252_84 rfl rfl rfl rfl
theorem i252_87 : insAt 252 87 = some (.iload 2, 88) := by decide +kernel
theorem r252_87 {E : aEnv} {c : Nat} {ah : aHp} {st : List Value} {Q : Option Value → aHp → Prop} {a0 a1 a3 : Option Value} {x : Int32} : WP E c 252 87 [a0, a1, some (.int x), a3] (st) ah Q = WP E c 252 88 [a0, a1, some (.int x), a3] (.int x :: st) ah Q := wp_s i252_87 rfl rfl rfl rfl
theorem i252_88 : insAt 252 88 = some (.aload 0, 89) := by decide +kernel
theorem r252_88 {E : aEnv} {c : Nat} {ah : aHp} {st : List Value} {Q : Option Value → aHp → Prop} {a1 a2 a3 : Option Value} {x : Nat} : WP E c 252 88 [some (.ref x), a1, a2, a3] (st) ah Q = WP E c 252 89 [some (.ref x), a1, a2, a3] (.ref x :: st) ah Q := wp_s i252_88 rfl rfl rfl rfl
theorem i252_89 : insAt 252 89 = some (.getfield 11420, 92) := by decide +kernel
theorem r252_89 {E : aEnv} {c : Nat} {ah : aHp} {st : List Value} {Q : Option Value → aHp → Prop} {a0 a1 a2 a3 : Option Value} {a : Nat} : WP E c 252 89 [a0, a1, a2, a3] (.ref a :: st) ah Q = WPo (oGF (hg E ah a) 11 42) (fun v => WP E c 252 92 [a0, a1, a2, a3] (v :: st) ah Q) := wp_getf i252_89
theorem i252_92 : insAt 252 92 = some (.if_icmp .ge 170, 95) := by decide +kernel
theorem r252_92 {E : aEnv} {c : Nat} {ah : aHp} {st : List Value} {Q : Option Value → aHp → Prop} {a0 a1 a2 a3 : Option Value} {x y : Int32} : WP E c 252 92 [a0, a1, a2, a3] (.int y :: .int x :: st) ah Q = if y ≤ x then WP E c 252 170 [a0, a1, a2, a3] st ah Q else WP E c 252 95 [a0, a1, a2, a3] st ah Q := wp_j i252_92 rfl rfl rfl rfl
theorem i252_95 : insAt 252 95 = some (.aload 0, 96) := by decide +kernel
theorem r252_95 {E : aEnv} {c : Nat} {ah : aHp} {st : List Value} {Q : Option Value → aHp → Prop} {a1 a2 a3 : Option Value} {x : Nat} : WP E c 252 95 [some (.ref x), a1, a2, a3] (st) ah Q = WP E c 252 96 [some (.ref x), a1, a2, a3] (.ref x :: st) ah Q := wp_s i252_95 rfl rfl rfl rfl
theorem i252_96 : insAt 252 96 = some (.getfield 11492, 99) := by decide +kernel
theorem r252_96 {E : aEnv} {c : Nat} {ah : aHp} {st : List Value} {Q : Option Value → aHp → Prop} {a0 a1 a2 a3 : Option Value} {a : Nat} : WP E c 252 96 [a0, a1, a2, a3] (.ref a :: st) ah Q = WPo (oGF (hg E ah a) 11 49) (fun v => WP E c 252 99 [a0, a1, a2, a3] (v :: st) ah Q) := wp_getf i252_96
theorem i252_99 : insAt 252 99 = some (.iload 2, 100) := by decide +kernel
theorem r252_99 {E : aEnv} {c : Nat} {ah : aHp} {st : List Value} {Q : Option Value → aHp → Prop} {a0 a1 a3 : Option Value} {x : Int32} : WP E c 252 99 [a0, a1, some (.int x), a3] (st) ah Q = WP E c 252 100 [a0, a1, some (.int x), a3] (.int x :: st) ah Q := wp_s i252_99 rfl rfl rfl rfl
theorem i252_100 : insAt 252 100 = some (.iaload, 101) := by decide +kernel
theorem r252_100 {E : aEnv} {c : Nat} {ah : aHp} {st : List Value} {Q : Option Value → aHp → Prop} {a0 a1 a2 a3 : Option Value} {i : Int32} {a : Nat} : WP E c 252 100 [a0, a1, a2, a3] (.int i :: .ref a :: st) ah Q = WPo (gI E ah (.int i :: .ref a :: st)) (fun s9 => WP E c 252 101 [a0, a1, a2, a3] s9 ah Q) := wp_hr i252_100 rfl rfl rfl rfl rfl rfl rfl rfl
theorem i252_101 : insAt 252 101 = some (.iconst 6, 103) := by decide +kernel
theorem r252_101 {E : aEnv} {c : Nat} {ah : aHp} {st : List Value} {Q : Option Value → aHp → Prop} {a0 a1 a2 a3 : Option Value} : WP E c 252 101 [a0, a1, a2, a3] (st) ah Q = WP E c 252 103 [a0, a1, a2, a3] (.int (6) :: st) ah Q := wp_s i252_101 rfl rfl rfl rfl
theorem i252_103 : insAt 252 103 = some (.if_icmp .ne 117, 106) := by decide +kernel
theorem r252_103 {E : aEnv} {c : Nat} {ah : aHp} {st : List Value} {Q : Option Value → aHp → Prop} {a0 a1 a2 a3 : Option Value} {x y : Int32} : WP E c 252 103 [a0, a1, a2, a3] (.int y :: .int x :: st) ah Q = if ¬ x = y then WP E c 252 117 [a0, a1, a2, a3] st ah Q else WP E c 252 106 [a0, a1, a2, a3] st ah Q := wp_j i252_103 rfl rfl rfl rfl
theorem i252_106 : insAt 252 106 = some (.iload 2, 107) := by decide +kernel
theorem r252_106 {E : aEnv} {c : Nat} {ah : aHp} {st : List Value} {Q : Option Value → aHp → Prop} {a0 a1 a3 : Option Value} {x : Int32} : WP E c 252 106 [a0, a1, some (.int x), a3] (st) ah Q = WP E c 252 107 [a0, a1, some (.int x), a3] (.int x :: st) ah Q := wp_s i252_106 rfl rfl rfl rfl
theorem i252_107 : insAt 252 107 = some (.aload 0, 108) := by decide +kernel
theorem r252_107 {E : aEnv} {c : Nat} {ah : aHp} {st : List Value} {Q : Option Value → aHp → Prop} {a1 a2 a3 : Option Value} {x : Nat} : WP E c 252 107 [some (.ref x), a1, a2, a3] (st) ah Q = WP E c 252 108 [some (.ref x), a1, a2, a3] (.ref x :: st) ah Q := wp_s i252_107 rfl rfl rfl rfl
theorem i252_108 : insAt 252 108 = some (.getfield 11502, 111) := by decide +kernel
theorem r252_108 {E : aEnv} {c : Nat} {ah : aHp} {st : List Value} {Q : Option Value → aHp → Prop} {a0 a1 a2 a3 : Option Value} {a : Nat} : WP E c 252 108 [a0, a1, a2, a3] (.ref a :: st) ah Q = WPo (oGF (hg E ah a) 11 50) (fun v => WP E c 252 111 [a0, a1, a2, a3] (v :: st) ah Q) := wp_getf i252_108
theorem i252_111 : insAt 252 111 = some (.iload 2, 112) := by decide +kernel
theorem r252_111 {E : aEnv} {c : Nat} {ah : aHp} {st : List Value} {Q : Option Value → aHp → Prop} {a0 a1 a3 : Option Value} {x : Int32} : WP E c 252 111 [a0, a1, some (.int x), a3] (st) ah Q = WP E c 252 112 [a0, a1, some (.int x), a3] (.int x :: st) ah Q := wp_s i252_111 rfl rfl rfl rfl
theorem i252_112 : insAt 252 112 = some (.iaload, 113) := by decide +kernel
theorem r252_112 {E : aEnv} {c : Nat} {ah : aHp} {st : List Value} {Q : Option Value → aHp → Prop} {a0 a1 a2 a3 : Option Value} {i : Int32} {a : Nat} : WP E c 252 112 [a0, a1, a2, a3] (.int i :: .ref a :: st) ah Q = WPo (gI E ah (.int i :: .ref a :: st)) (fun s9 => WP E c 252 113 [a0, a1, a2, a3] s9 ah Q) := wp_hr i252_112 rfl rfl rfl rfl rfl rfl rfl rfl
theorem i252_113 : insAt 252 113 = some (.isub, 114) := by decide +kernel
theorem r252_113 {E : aEnv} {c : Nat} {ah : aHp} {st : List Value} {Q : Option Value → aHp → Prop} {a0 a1 a2 a3 : Option Value} {x y : Int32} : WP E c 252 113 [a0, a1, a2, a3] (.int y :: .int x :: st) ah Q = WP E c 252 114 [a0, a1, a2, a3] (.int (x - y) :: st) ah Q := wp_s i252_113 rfl rfl rfl rfl
theorem i252_114 : insAt 252 114 = some (.goto 140, 117) := by decide +kernel
theorem r252_114 {E : aEnv} {c : Nat} {ah : aHp} {st : List Value} {Q : Option Value → aHp → Prop} {a0 a1 a2 a3 : Option Value} : WP E c 252 114 [a0, a1, a2, a3] (st) ah Q = WP E c 252 140 [a0, a1, a2, a3] st ah Q := wp_s i252_114 rfl rfl rfl rfl
theorem i252_117 : insAt 252 117 = some (.aload 0, 118) := by decide +kernel
theorem r252_117 {E : aEnv} {c : Nat} {ah : aHp} {st : List Value} {Q : Option Value → aHp → Prop} {a1 a2 a3 : Option Value} {x : Nat} : WP E c 252 117 [some (.ref x), a1, a2, a3] (st) ah Q = WP E c 252 118 [some (.ref x), a1, a2, a3] (.ref x :: st) ah Q := wp_s i252_117 rfl rfl rfl rfl
theorem i252_118 : insAt 252 118 = some (.getfield 11492, 121) := by decide +kernel
theorem r252_118 {E : aEnv} {c : Nat} {ah : aHp} {st : List Value} {Q : Option Value → aHp → Prop} {a0 a1 a2 a3 : Option Value} {a : Nat} : WP E c 252 118 [a0, a1, a2, a3] (.ref a :: st) ah Q = WPo (oGF (hg E ah a) 11 49) (fun v => WP E c 252 121 [a0, a1, a2, a3] (v :: st) ah Q) := wp_getf i252_118
theorem i252_121 : insAt 252 121 = some (.iload 2, 122) := by decide +kernel
theorem r252_121 {E : aEnv} {c : Nat} {ah : aHp} {st : List Value} {Q : Option Value → aHp → Prop} {a0 a1 a3 : Option Value} {x : Int32} : WP E c 252 121 [a0, a1, some (.int x), a3] (st) ah Q = WP E c 252 122 [a0, a1, some (.int x), a3] (.int x :: st) ah Q := wp_s i252_121 rfl rfl rfl rfl
theorem i252_122 : insAt 252 122 = some (.iaload, 123) := by decide +kernel
theorem r252_122 {E : aEnv} {c : Nat} {ah : aHp} {st : List Value} {Q : Option Value → aHp → Prop} {a0 a1 a2 a3 : Option Value} {i : Int32} {a : Nat} : WP E c 252 122 [a0, a1, a2, a3] (.int i :: .ref a :: st) ah Q = WPo (gI E ah (.int i :: .ref a :: st)) (fun s9 => WP E c 252 123 [a0, a1, a2, a3] s9 ah Q) := wp_hr i252_122 rfl rfl rfl rfl rfl rfl rfl rfl
theorem i252_123 : insAt 252 123 = some (.iconst 7, 125) := by decide +kernel
theorem r252_123 {E : aEnv} {c : Nat} {ah : aHp} {st : List Value} {Q : Option Value → aHp → Prop} {a0 a1 a2 a3 : Option Value} : WP E c 252 123 [a0, a1, a2, a3] (st) ah Q = WP E c 252 125 [a0, a1, a2, a3] (.int (7) :: st) ah Q := wp_s i252_123 rfl rfl rfl rfl
theorem i252_125 : insAt 252 125 = some (.if_icmp .ne 139, 128) := by decide +kernel
theorem r252_125 {E : aEnv} {c : Nat} {ah : aHp} {st : List Value} {Q : Option Value → aHp → Prop} {a0 a1 a2 a3 : Option Value} {x y : Int32} : WP E c 252 125 [a0, a1, a2, a3] (.int y :: .int x :: st) ah Q = if ¬ x = y then WP E c 252 139 [a0, a1, a2, a3] st ah Q else WP E c 252 128 [a0, a1, a2, a3] st ah Q := wp_j i252_125 rfl rfl rfl rfl
theorem i252_128 : insAt 252 128 = some (.iload 2, 129) := by decide +kernel
theorem r252_128 {E : aEnv} {c : Nat} {ah : aHp} {st : List Value} {Q : Option Value → aHp → Prop} {a0 a1 a3 : Option Value} {x : Int32} : WP E c 252 128 [a0, a1, some (.int x), a3] (st) ah Q = WP E c 252 129 [a0, a1, some (.int x), a3] (.int x :: st) ah Q := wp_s i252_128 rfl rfl rfl rfl
theorem i252_129 : insAt 252 129 = some (.aload 0, 130) := by decide +kernel
theorem r252_129 {E : aEnv} {c : Nat} {ah : aHp} {st : List Value} {Q : Option Value → aHp → Prop} {a1 a2 a3 : Option Value} {x : Nat} : WP E c 252 129 [some (.ref x), a1, a2, a3] (st) ah Q = WP E c 252 130 [some (.ref x), a1, a2, a3] (.ref x :: st) ah Q := wp_s i252_129 rfl rfl rfl rfl
theorem i252_130 : insAt 252 130 = some (.getfield 11502, 133) := by decide +kernel
theorem r252_130 {E : aEnv} {c : Nat} {ah : aHp} {st : List Value} {Q : Option Value → aHp → Prop} {a0 a1 a2 a3 : Option Value} {a : Nat} : WP E c 252 130 [a0, a1, a2, a3] (.ref a :: st) ah Q = WPo (oGF (hg E ah a) 11 50) (fun v => WP E c 252 133 [a0, a1, a2, a3] (v :: st) ah Q) := wp_getf i252_130
theorem i252_133 : insAt 252 133 = some (.iload 2, 134) := by decide +kernel
theorem r252_133 {E : aEnv} {c : Nat} {ah : aHp} {st : List Value} {Q : Option Value → aHp → Prop} {a0 a1 a3 : Option Value} {x : Int32} : WP E c 252 133 [a0, a1, some (.int x), a3] (st) ah Q = WP E c 252 134 [a0, a1, some (.int x), a3] (.int x :: st) ah Q := wp_s i252_133 rfl rfl rfl rfl
theorem i252_134 : insAt 252 134 = some (.iaload, 135) := by decide +kernel
theorem r252_134 {E : aEnv} {c : Nat} {ah : aHp} {st : List Value} {Q : Option Value → aHp → Prop} {a0 a1 a2 a3 : Option Value} {i : Int32} {a : Nat} : WP E c 252 134 [a0, a1, a2, a3] (.int i :: .ref a :: st) ah Q = WPo (gI E ah (.int i :: .ref a :: st)) (fun s9 => WP E c 252 135 [a0, a1, a2, a3] s9 ah Q) := wp_hr i252_134 rfl rfl rfl rfl rfl rfl rfl rfl
theorem i252_135 : insAt 252 135 = some (.iadd, 136) := by decide +kernel
theorem r252_135 {E : aEnv} {c : Nat} {ah : aHp} {st : List Value} {Q : Option Value → aHp → Prop} {a0 a1 a2 a3 : Option Value} {x y : Int32} : WP E c 252 135 [a0, a1, a2, a3] (.int y :: .int x :: st) ah Q = WP E c 252 136 [a0, a1, a2, a3] (.int (x + y) :: st) ah Q := wp_s i252_135 rfl rfl rfl rfl
theorem i252_136 : insAt 252 136 = some (.goto 140, 139) := by decide +kernel
theorem r252_136 {E : aEnv} {c : Nat} {ah : aHp} {st : List Value} {Q : Option Value → aHp → Prop} {a0 a1 a2 a3 : Option Value} : WP E c 252 136 [a0, a1, a2, a3] (st) ah Q = WP E c 252 140 [a0, a1, a2, a3] st ah Q := wp_s i252_136 rfl rfl rfl rfl
theorem i252_139 : insAt 252 139 = some (.iload 2, 140) := by decide +kernel
theorem r252_139 {E : aEnv} {c : Nat} {ah : aHp} {st : List Value} {Q : Option Value → aHp → Prop} {a0 a1 a3 : Option Value} {x : Int32} : WP E c 252 139 [a0, a1, some (.int x), a3] (st) ah Q = WP E c 252 140 [a0, a1, some (.int x), a3] (.int x :: st) ah Q := wp_s i252_139 rfl rfl rfl rfl
theorem i252_140 : insAt 252 140 = some (.istore 3, 141) := by decide +kernel
theorem r252_140 {E : aEnv} {c : Nat} {ah : aHp} {st : List Value} {Q : Option Value → aHp → Prop} {a0 a1 a2 a3 : Option Value} {x : Int32} : WP E c 252 140 [a0, a1, a2, a3] (.int x :: st) ah Q = WP E c 252 141 [a0, a1, kil a2, some (.int x)] (st) ah Q := wp_s i252_140 rfl rfl rfl rfl
theorem i252_141 : insAt 252 141 = some (.iload 3, 142) := by decide +kernel
theorem r252_141 {E : aEnv} {c : Nat} {ah : aHp} {st : List Value} {Q : Option Value → aHp → Prop} {a0 a1 a2 : Option Value} {x : Int32} : WP E c 252 141 [a0, a1, a2, some (.int x)] (st) ah Q = WP E c 252 142 [a0, a1, a2, some (.int x)] (.int x :: st) ah Q := wp_s i252_141 rfl rfl rfl rfl
theorem i252_142 : insAt 252 142 = some (.ifCond .lt 153, 145) := by decide +kernel
theorem r252_142 {E : aEnv} {c : Nat} {ah : aHp} {st : List Value} {Q : Option Value → aHp → Prop} {a0 a1 a2 a3 : Option Value} {x : Int32} : WP E c 252 142 [a0, a1, a2, a3] (.int x :: st) ah Q = if x < 0 then WP E c 252 153 [a0, a1, a2, a3] st ah Q else WP E c 252 145 [a0, a1, a2, a3] st ah Q := wp_j i252_142 rfl rfl rfl rfl
theorem i252_145 : insAt 252 145 = some (.iload 3, 146) := by decide +kernel
theorem r252_145 {E : aEnv} {c : Nat} {ah : aHp} {st : List Value} {Q : Option Value → aHp → Prop} {a0 a1 a2 : Option Value} {x : Int32} : WP E c 252 145 [a0, a1, a2, some (.int x)] (st) ah Q = WP E c 252 146 [a0, a1, a2, some (.int x)] (.int x :: st) ah Q := wp_s i252_145 rfl rfl rfl rfl
theorem i252_146 : insAt 252 146 = some (.aload 0, 147) := by decide +kernel
theorem r252_146 {E : aEnv} {c : Nat} {ah : aHp} {st : List Value} {Q : Option Value → aHp → Prop} {a1 a2 a3 : Option Value} {x : Nat} : WP E c 252 146 [some (.ref x), a1, a2, a3] (st) ah Q = WP E c 252 147 [some (.ref x), a1, a2, a3] (.ref x :: st) ah Q := wp_s i252_146 rfl rfl rfl rfl
theorem i252_147 : insAt 252 147 = some (.getfield 11420, 150) := by decide +kernel
theorem r252_147 {E : aEnv} {c : Nat} {ah : aHp} {st : List Value} {Q : Option Value → aHp → Prop} {a0 a1 a2 a3 : Option Value} {a : Nat} : WP E c 252 147 [a0, a1, a2, a3] (.ref a :: st) ah Q = WPo (oGF (hg E ah a) 11 42) (fun v => WP E c 252 150 [a0, a1, a2, a3] (v :: st) ah Q) := wp_getf i252_147
theorem i252_150 : insAt 252 150 = some (.if_icmp .le 164, 153) := by decide +kernel
theorem r252_150 {E : aEnv} {c : Nat} {ah : aHp} {st : List Value} {Q : Option Value → aHp → Prop} {a0 a1 a2 a3 : Option Value} {x y : Int32} : WP E c 252 150 [a0, a1, a2, a3] (.int y :: .int x :: st) ah Q = if x ≤ y then WP E c 252 164 [a0, a1, a2, a3] st ah Q else WP E c 252 153 [a0, a1, a2, a3] st ah Q := wp_j i252_150 rfl rfl rfl rfl
theorem i252_153 : insAt 252 153 = some (.aload 0, 154) := by decide +kernel
theorem r252_153 {E : aEnv} {c : Nat} {ah : aHp} {st : List Value} {Q : Option Value → aHp → Prop} {a1 a2 a3 : Option Value} {x : Nat} : WP E c 252 153 [some (.ref x), a1, a2, a3] (st) ah Q = WP E c 252 154 [some (.ref x), a1, a2, a3] (.ref x :: st) ah Q := wp_s i252_153 rfl rfl rfl rfl
theorem i252_154 : insAt 252 154 = some (.iconst 5, 155) := by decide +kernel
theorem r252_154 {E : aEnv} {c : Nat} {ah : aHp} {st : List Value} {Q : Option Value → aHp → Prop} {a0 a1 a2 a3 : Option Value} : WP E c 252 154 [a0, a1, a2, a3] (st) ah Q = WP E c 252 155 [a0, a1, a2, a3] (.int (5) :: st) ah Q := wp_s i252_154 rfl rfl rfl rfl
theorem i252_155 : insAt 252 155 = some (.aload 0, 156) := by decide +kernel
theorem r252_155 {E : aEnv} {c : Nat} {ah : aHp} {st : List Value} {Q : Option Value → aHp → Prop} {a1 a2 a3 : Option Value} {x : Nat} : WP E c 252 155 [some (.ref x), a1, a2, a3] (st) ah Q = WP E c 252 156 [some (.ref x), a1, a2, a3] (.ref x :: st) ah Q := wp_s i252_155 rfl rfl rfl rfl
theorem i252_156 : insAt 252 156 = some (.getfield 11552, 159) := by decide +kernel
theorem r252_156 {E : aEnv} {c : Nat} {ah : aHp} {st : List Value} {Q : Option Value → aHp → Prop} {a0 a1 a2 a3 : Option Value} {a : Nat} : WP E c 252 156 [a0, a1, a2, a3] (.ref a :: st) ah Q = WPo (oGF (hg E ah a) 11 55) (fun v => WP E c 252 159 [a0, a1, a2, a3] (v :: st) ah Q) := wp_getf i252_156
theorem i252_159 : insAt 252 159 = some (.iload 2, 160) := by decide +kernel
theorem r252_159 {E : aEnv} {c : Nat} {ah : aHp} {st : List Value} {Q : Option Value → aHp → Prop} {a0 a1 a3 : Option Value} {x : Int32} : WP E c 252 159 [a0, a1, some (.int x), a3] (st) ah Q = WP E c 252 160 [a0, a1, some (.int x), a3] (.int x :: st) ah Q := wp_s i252_159 rfl rfl rfl rfl
theorem i252_160 : insAt 252 160 = some (.iaload, 161) := by decide +kernel
theorem r252_160 {E : aEnv} {c : Nat} {ah : aHp} {st : List Value} {Q : Option Value → aHp → Prop} {a0 a1 a2 a3 : Option Value} {i : Int32} {a : Nat} : WP E c 252 160 [a0, a1, a2, a3] (.int i :: .ref a :: st) ah Q = WPo (gI E ah (.int i :: .ref a :: st)) (fun s9 => WP E c 252 161 [a0, a1, a2, a3] s9 ah Q) := wp_hr i252_160 rfl rfl rfl rfl rfl rfl rfl rfl
theorem i252_161 : insAt 252 161 = some (.invokevirtual 243, 164) := by decide +kernel
theorem r252_161 {E : aEnv} {c : Nat} {ah ah1 : aHp} {r : Option Value} {st : List Value} {Q : Option Value → aHp → Prop} {a0 a1 a2 a3 : Option Value} {p0 : Nat} {p1 : Int32} {p2 : Int32} (h : EV E c 243 [.ref p0, .int p1, .int p2] ah r ah1) (h2 : oCI (hg E ah p0) = 11) (h3 : wds st ≤ 8) : WP E (c + 1) 252 161 [a0, a1, a2, a3] (.int p2 :: .int p1 :: .ref p0 :: st) ah Q = WP E (c + 1) 252 164 [a0, a1, a2, a3] (r.toList ++ st) ah1 Q := wp_call (As := [.ref p0, .int p1, .int p2]) i252_161 (fun _ => rfl) rfl mr243.1 (rcv_1 h2 mr243.2.2 (by decide)) h3 (by rw [mr243.2.1]; exact Nat.le_of_ble_eq_true rfl) h
theorem i252_164 : insAt 252 164 = some (.iinc 2 1, 167) := by decide +kernel
theorem r252_164 {E : aEnv} {c : Nat} {ah : aHp} {st : List Value} {Q : Option Value → aHp → Prop} {a0 a1 a3 : Option Value} {x : Int32} : WP E c 252 164 [a0, a1, some (.int x), a3] (st) ah Q = WP E c 252 167 [a0, kil a1, some (.int (x + 1)), a3] (st) ah Q := wp_s i252_164 rfl rfl rfl rfl
theorem i252_167 : insAt 252 167 = some (.goto 80, 170) := by decide +kernel
theorem r252_167 {E : aEnv} {c : Nat} {ah : aHp} {st : List Value} {Q : Option Value → aHp → Prop} {a0 a1 a2 a3 : Option Value} : WP E c 252 167 [a0, a1, a2, a3] (st) ah Q = WP E c 252 80 [a0, a1, a2, a3] st ah Q := wp_s i252_167 rfl rfl rfl rfl
theorem i252_170 : insAt 252 170 = some (.aload 0, 171) := by decide +kernel
theorem r252_170 {E : aEnv} {c : Nat} {ah : aHp} {st : List Value} {Q : Option Value → aHp → Prop} {a1 a2 a3 : Option Value} {x : Nat} : WP E c 252 170 [some (.ref x), a1, a2, a3] (st) ah Q = WP E c 252 171 [some (.ref x), a1, a2, a3] (.ref x :: st) ah Q := wp_s i252_170 rfl rfl rfl rfl
theorem i252_171 : insAt 252 171 = some (.aload 0, 172) := by decide +kernel
theorem r252_171 {E : aEnv} {c : Nat} {ah : aHp} {st : List Value} {Q : Option Value → aHp → Prop} {a1 a2 a3 : Option Value} {x : Nat} : WP E c 252 171 [some (.ref x), a1, a2, a3] (st) ah Q = WP E c 252 172 [some (.ref x), a1, a2, a3] (.ref x :: st) ah Q := wp_s i252_171 rfl rfl rfl rfl
theorem i252_172 : insAt 252 172 = some (.getfield 11330, 175) := by decide +kernel
theorem r252_172 {E : aEnv} {c : Nat} {ah : aHp} {st : List Value} {Q : Option Value → aHp → Prop} {a0 a1 a2 a3 : Option Value} {a : Nat} : WP E c 252 172 [a0, a1, a2, a3] (.ref a :: st) ah Q = WPo (oGF (hg E ah a) 11 33) (fun v => WP E c 252 175 [a0, a1, a2, a3] (v :: st) ah Q) := wp_getf i252_172
theorem i252_175 : insAt 252 175 = some (.putfield 11310, 178) := by decide +kernel
theorem r252_175 {E : aEnv} {c : Nat} {ah : aHp} {st : List Value} {Q : Option Value → aHp → Prop} {a0 a1 a2 a3 : Option Value} {a : Nat} {v : Value} : WP E c 252 175 [a0, a1, a2, a3] (v :: .ref a :: st) ah Q = WPo (oPF (hg E ah a) 11310 v) (fun e => WP E c 252 178 [a0, a1, a2, a3] st (hs E ah a e) Q) := wp_putf i252_175
theorem i252_178 : insAt 252 178 = some (.aload 0, 179) := by decide +kernel
theorem r252_178 {E : aEnv} {c : Nat} {ah : aHp} {st : List Value} {Q : Option Value → aHp → Prop} {a1 a2 a3 : Option Value} {x : Nat} : WP E c 252 178 [some (.ref x), a1, a2, a3] (st) ah Q = WP E c 252 179 [some (.ref x), a1, a2, a3] (.ref x :: st) ah Q := wp_s i252_178 rfl rfl rfl rfl
theorem i252_179 : insAt 252 179 = some (.aload 0, 180) := by decide +kernel
theorem r252_179 {E : aEnv} {c : Nat} {ah : aHp} {st : List Value} {Q : Option Value → aHp → Prop} {a1 a2 a3 : Option Value} {x : Nat} : WP E c 252 179 [some (.ref x), a1, a2, a3] (st) ah Q = WP E c 252 180 [some (.ref x), a1, a2, a3] (.ref x :: st) ah Q := wp_s i252_179 rfl rfl rfl rfl
theorem i252_180 : insAt 252 180 = some (.getfield 11330, 183) := by decide +kernel
theorem r252_180 {E : aEnv} {c : Nat} {ah : aHp} {st : List Value} {Q : Option Value → aHp → Prop} {a0 a1 a2 a3 : Option Value} {a : Nat} : WP E c 252 180 [a0, a1, a2, a3] (.ref a :: st) ah Q = WPo (oGF (hg E ah a) 11 33) (fun v => WP E c 252 183 [a0, a1, a2, a3] (v :: st) ah Q) := wp_getf i252_180
theorem i252_183 : insAt 252 183 = some (.ifCond .ne 190, 186) := by decide +kernel
theorem r252_183 {E : aEnv} {c : Nat} {ah : aHp} {st : List Value} {Q : Option Value → aHp → Prop} {a0 a1 a2 a3 : Option Value} {x : Int32} : WP E c 252 183 [a0, a1, a2, a3] (.int x :: st) ah Q = if ¬ x = 0 then WP E c 252 190 [a0, a1, a2, a3] st ah Q else WP E c 252 186 [a0, a1, a2, a3] st ah Q := wp_j i252_183 rfl rfl rfl rfl
theorem i252_186 : insAt 252 186 = some (.iconst (-1), 187) := by decide +kernel
theorem r252_186 {E : aEnv} {c : Nat} {ah : aHp} {st : List Value} {Q : Option Value → aHp → Prop} {a0 a1 a2 a3 : Option Value} : WP E c 252 186 [a0, a1, a2, a3] (st) ah Q = WP E c 252 187 [a0, a1, a2, a3] (.int ((-1)) :: st) ah Q := wp_s i252_186 rfl rfl rfl rfl
theorem i252_187 : insAt 252 187 = some (.goto 194, 190) := by decide +kernel
theorem r252_187 {E : aEnv} {c : Nat} {ah : aHp} {st : List Value} {Q : Option Value → aHp → Prop} {a0 a1 a2 a3 : Option Value} : WP E c 252 187 [a0, a1, a2, a3] (st) ah Q = WP E c 252 194 [a0, a1, a2, a3] st ah Q := wp_s i252_187 rfl rfl rfl rfl
theorem i252_190 : insAt 252 190 = some (.aload 0, 191) := by decide +kernel
theorem r252_190 {E : aEnv} {c : Nat} {ah : aHp} {st : List Value} {Q : Option Value → aHp → Prop} {a1 a2 a3 : Option Value} {x : Nat} : WP E c 252 190 [some (.ref x), a1, a2, a3] (st) ah Q = WP E c 252 191 [some (.ref x), a1, a2, a3] (.ref x :: st) ah Q := wp_s i252_190 rfl rfl rfl rfl
theorem i252_191 : insAt 252 191 = some (.getfield 11340, 194) := by decide +kernel
theorem r252_191 {E : aEnv} {c : Nat} {ah : aHp} {st : List Value} {Q : Option Value → aHp → Prop} {a0 a1 a2 a3 : Option Value} {a : Nat} : WP E c 252 191 [a0, a1, a2, a3] (.ref a :: st) ah Q = WPo (oGF (hg E ah a) 11 34) (fun v => WP E c 252 194 [a0, a1, a2, a3] (v :: st) ah Q) := wp_getf i252_191
theorem i252_194 : insAt 252 194 = some (.putfield 11320, 197) := by decide +kernel
theorem r252_194 {E : aEnv} {c : Nat} {ah : aHp} {st : List Value} {Q : Option Value → aHp → Prop} {a0 a1 a2 a3 : Option Value} {a : Nat} {v : Value} : WP E c 252 194 [a0, a1, a2, a3] (v :: .ref a :: st) ah Q = WPo (oPF (hg E ah a) 11320 v) (fun e => WP E c 252 197 [a0, a1, a2, a3] st (hs E ah a e) Q) := wp_putf i252_194
theorem i252_197 : insAt 252 197 = some (.aload 0, 198) := by decide +kernel
theorem r252_197 {E : aEnv} {c : Nat} {ah : aHp} {st : List Value} {Q : Option Value → aHp → Prop} {a1 a2 a3 : Option Value} {x : Nat} : WP E c 252 197 [some (.ref x), a1, a2, a3] (st) ah Q = WP E c 252 198 [some (.ref x), a1, a2, a3] (.ref x :: st) ah Q := wp_s i252_197 rfl rfl rfl rfl
theorem i252_198 : insAt 252 198 = some (.getfield 11330, 201) := by decide +kernel
theorem r252_198 {E : aEnv} {c : Nat} {ah : aHp} {st : List Value} {Q : Option Value → aHp → Prop} {a0 a1 a2 a3 : Option Value} {a : Nat} : WP E c 252 198 [a0, a1, a2, a3] (.ref a :: st) ah Q = WPo (oGF (hg E ah a) 11 33) (fun v => WP E c 252 201 [a0, a1, a2, a3] (v :: st) ah Q) := wp_getf i252_198
theorem i252_201 : insAt 252 201 = some (.ifCond .le 211, 204) := by decide +kernel
theorem r252_201 {E : aEnv} {c : Nat} {ah : aHp} {st : List Value} {Q : Option Value → aHp → Prop} {a0 a1 a2 a3 : Option Value} {x : Int32} : WP E c 252 201 [a0, a1, a2, a3] (.int x :: st) ah Q = if x ≤ 0 then WP E c 252 211 [a0, a1, a2, a3] st ah Q else WP E c 252 204 [a0, a1, a2, a3] st ah Q := wp_j i252_201 rfl rfl rfl rfl
theorem i252_204 : insAt 252 204 = some (.aload 0, 205) := by decide +kernel
theorem r252_204 {E : aEnv} {c : Nat} {ah : aHp} {st : List Value} {Q : Option Value → aHp → Prop} {a1 a2 a3 : Option Value} {x : Nat} : WP E c 252 204 [some (.ref x), a1, a2, a3] (st) ah Q = WP E c 252 205 [some (.ref x), a1, a2, a3] (.ref x :: st) ah Q := wp_s i252_204 rfl rfl rfl rfl
theorem i252_205 : insAt 252 205 = some (.iconst 10, 207) := by decide +kernel
theorem r252_205 {E : aEnv} {c : Nat} {ah : aHp} {st : List Value} {Q : Option Value → aHp → Prop} {a0 a1 a2 a3 : Option Value} : WP E c 252 205 [a0, a1, a2, a3] (st) ah Q = WP E c 252 207 [a0, a1, a2, a3] (.int (10) :: st) ah Q := wp_s i252_205 rfl rfl rfl rfl
theorem i252_207 : insAt 252 207 = some (.invokevirtual 197, 210) := by decide +kernel
theorem r252_207 {E : aEnv} {c : Nat} {ah ah1 : aHp} {r : Option Value} {st : List Value} {Q : Option Value → aHp → Prop} {a0 a1 a2 a3 : Option Value} {p0 : Nat} {p1 : Int32} (h : EV E c 197 [.ref p0, .int p1] ah r ah1) (h2 : oCI (hg E ah p0) = 11) (h3 : wds st ≤ 8) : WP E (c + 1) 252 207 [a0, a1, a2, a3] (.int p1 :: .ref p0 :: st) ah Q = WP E (c + 1) 252 210 [a0, a1, a2, a3] (r.toList ++ st) ah1 Q := wp_call (As := [.ref p0, .int p1]) i252_207 (fun _ => rfl) rfl mr197.1 (rcv_1 h2 mr197.2.2 (by decide)) h3 (by rw [mr197.2.1]; exact Nat.le_of_ble_eq_true rfl) h
theorem i252_210 : insAt 252 210 = some (.ireturn, 211) := by decide +kernel
theorem r252_210 {E : aEnv} {c : Nat} {ah : aHp} {Q : Option Value → aHp → Prop} {a0 a1 a2 a3 : Option Value} {x : Int32} : WP E c 252 210 [a0, a1, a2, a3] ([.int x]) ah Q = Q (some (.int x)) ah := wp_rt i252_210 rfl
theorem i252_211 : insAt 252 211 = some (.aload 0, 212) := by decide +kernel
theorem r252_211 {E : aEnv} {c : Nat} {ah : aHp} {st : List Value} {Q : Option Value → aHp → Prop} {a1 a2 a3 : Option Value} {x : Nat} : WP E c 252 211 [some (.ref x), a1, a2, a3] (st) ah Q = WP E c 252 212 [some (.ref x), a1, a2, a3] (.ref x :: st) ah Q := wp_s i252_211 rfl rfl rfl rfl
theorem i252_212 : insAt 252 212 = some (.aload 0, 213) := by decide +kernel
theorem r252_212 {E : aEnv} {c : Nat} {ah : aHp} {st : List Value} {Q : Option Value → aHp → Prop} {a1 a2 a3 : Option Value} {x : Nat} : WP E c 252 212 [some (.ref x), a1, a2, a3] (st) ah Q = WP E c 252 213 [some (.ref x), a1, a2, a3] (.ref x :: st) ah Q := wp_s i252_212 rfl rfl rfl rfl
theorem i252_213 : insAt 252 213 = some (.getfield 11420, 216) := by decide +kernel
theorem r252_213 {E : aEnv} {c : Nat} {ah : aHp} {st : List Value} {Q : Option Value → aHp → Prop} {a0 a1 a2 a3 : Option Value} {a : Nat} : WP E c 252 213 [a0, a1, a2, a3] (.ref a :: st) ah Q = WPo (oGF (hg E ah a) 11 42) (fun v => WP E c 252 216 [a0, a1, a2, a3] (v :: st) ah Q) := wp_getf i252_213
theorem i252_216 : insAt 252 216 = some (.putfield 11410, 219) := by decide +kernel
theorem r252_216 {E : aEnv} {c : Nat} {ah : aHp} {st : List Value} {Q : Option Value → aHp → Prop} {a0 a1 a2 a3 : Option Value} {a : Nat} {v : Value} : WP E c 252 216 [a0, a1, a2, a3] (v :: .ref a :: st) ah Q = WPo (oPF (hg E ah a) 11410 v) (fun e => WP E c 252 219 [a0, a1, a2, a3] st (hs E ah a e) Q) := wp_putf i252_216
theorem i252_219 : insAt 252 219 = some (.iconst 0, 220) := by decide +kernel
theorem r252_219 {E : aEnv} {c : Nat} {ah : aHp} {st : List Value} {Q : Option Value → aHp → Prop} {a0 a1 a2 a3 : Option Value} : WP E c 252 219 [a0, a1, a2, a3] (st) ah Q = WP E c 252 220 [a0, a1, a2, a3] (.int (0) :: st) ah Q := wp_s i252_219 rfl rfl rfl rfl
theorem i252_220 : insAt 252 220 = some (.istore 2, 221) := by decide +kernel
theorem r252_220 {E : aEnv} {c : Nat} {ah : aHp} {st : List Value} {Q : Option Value → aHp → Prop} {a0 a1 a2 a3 : Option Value} {x : Int32} : WP E c 252 220 [a0, a1, a2, a3] (.int x :: st) ah Q = WP E c 252 221 [a0, kil a1, some (.int x), a3] (st) ah Q := wp_s i252_220 rfl rfl rfl rfl
theorem i252_221 : insAt 252 221 = some (.iload 2, 222) := by decide +kernel
theorem r252_221 {E : aEnv} {c : Nat} {ah : aHp} {st : List Value} {Q : Option Value → aHp → Prop} {a0 a1 a3 : Option Value} {x : Int32} : WP E c 252 221 [a0, a1, some (.int x), a3] (st) ah Q = WP E c 252 222 [a0, a1, some (.int x), a3] (.int x :: st) ah Q := wp_s i252_221 rfl rfl rfl rfl
theorem i252_222 : insAt 252 222 = some (.aload 0, 223) := by decide +kernel
theorem r252_222 {E : aEnv} {c : Nat} {ah : aHp} {st : List Value} {Q : Option Value → aHp → Prop} {a1 a2 a3 : Option Value} {x : Nat} : WP E c 252 222 [some (.ref x), a1, a2, a3] (st) ah Q = WP E c 252 223 [some (.ref x), a1, a2, a3] (.ref x :: st) ah Q := wp_s i252_222 rfl rfl rfl rfl
theorem i252_223 : insAt 252 223 = some (.getfield 11420, 226) := by decide +kernel
theorem r252_223 {E : aEnv} {c : Nat} {ah : aHp} {st : List Value} {Q : Option Value → aHp → Prop} {a0 a1 a2 a3 : Option Value} {a : Nat} : WP E c 252 223 [a0, a1, a2, a3] (.ref a :: st) ah Q = WPo (oGF (hg E ah a) 11 42) (fun v => WP E c 252 226 [a0, a1, a2, a3] (v :: st) ah Q) := wp_getf i252_223
theorem i252_226 : insAt 252 226 = some (.if_icmp .ge 319, 229) := by decide +kernel
theorem r252_226 {E : aEnv} {c : Nat} {ah : aHp} {st : List Value} {Q : Option Value → aHp → Prop} {a0 a1 a2 a3 : Option Value} {x y : Int32} : WP E c 252 226 [a0, a1, a2, a3] (.int y :: .int x :: st) ah Q = if y ≤ x then WP E c 252 319 [a0, a1, a2, a3] st ah Q else WP E c 252 229 [a0, a1, a2, a3] st ah Q := wp_j i252_226 rfl rfl rfl rfl
theorem i252_229 : insAt 252 229 = some (.aload 0, 230) := by decide +kernel
theorem r252_229 {E : aEnv} {c : Nat} {ah : aHp} {st : List Value} {Q : Option Value → aHp → Prop} {a1 a2 a3 : Option Value} {x : Nat} : WP E c 252 229 [some (.ref x), a1, a2, a3] (st) ah Q = WP E c 252 230 [some (.ref x), a1, a2, a3] (.ref x :: st) ah Q := wp_s i252_229 rfl rfl rfl rfl
theorem i252_230 : insAt 252 230 = some (.getfield 11432, 233) := by decide +kernel
theorem r252_230 {E : aEnv} {c : Nat} {ah : aHp} {st : List Value} {Q : Option Value → aHp → Prop} {a0 a1 a2 a3 : Option Value} {a : Nat} : WP E c 252 230 [a0, a1, a2, a3] (.ref a :: st) ah Q = WPo (oGF (hg E ah a) 11 43) (fun v => WP E c 252 233 [a0, a1, a2, a3] (v :: st) ah Q) := wp_getf i252_230
theorem i252_233 : insAt 252 233 = some (.iload 2, 234) := by decide +kernel
theorem r252_233 {E : aEnv} {c : Nat} {ah : aHp} {st : List Value} {Q : Option Value → aHp → Prop} {a0 a1 a3 : Option Value} {x : Int32} : WP E c 252 233 [a0, a1, some (.int x), a3] (st) ah Q = WP E c 252 234 [a0, a1, some (.int x), a3] (.int x :: st) ah Q := wp_s i252_233 rfl rfl rfl rfl
theorem i252_234 : insAt 252 234 = some (.aload 0, 235) := by decide +kernel
theorem r252_234 {E : aEnv} {c : Nat} {ah : aHp} {st : List Value} {Q : Option Value → aHp → Prop} {a1 a2 a3 : Option Value} {x : Nat} : WP E c 252 234 [some (.ref x), a1, a2, a3] (st) ah Q = WP E c 252 235 [some (.ref x), a1, a2, a3] (.ref x :: st) ah Q := wp_s i252_234 rfl rfl rfl rfl
theorem i252_235 : insAt 252 235 = some (.getfield 11492, 238) := by decide +kernel
theorem r252_235 {E : aEnv} {c : Nat} {ah : aHp} {st : List Value} {Q : Option Value → aHp → Prop} {a0 a1 a2 a3 : Option Value} {a : Nat} : WP E c 252 235 [a0, a1, a2, a3] (.ref a :: st) ah Q = WPo (oGF (hg E ah a) 11 49) (fun v => WP E c 252 238 [a0, a1, a2, a3] (v :: st) ah Q) := wp_getf i252_235
theorem i252_238 : insAt 252 238 = some (.iload 2, 239) := by decide +kernel
theorem r252_238 {E : aEnv} {c : Nat} {ah : aHp} {st : List Value} {Q : Option Value → aHp → Prop} {a0 a1 a3 : Option Value} {x : Int32} : WP E c 252 238 [a0, a1, some (.int x), a3] (st) ah Q = WP E c 252 239 [a0, a1, some (.int x), a3] (.int x :: st) ah Q := wp_s i252_238 rfl rfl rfl rfl
theorem i252_239 : insAt 252 239 = some (.iaload, 240) := by decide +kernel
theorem r252_239 {E : aEnv} {c : Nat} {ah : aHp} {st : List Value} {Q : Option Value → aHp → Prop} {a0 a1 a2 a3 : Option Value} {i : Int32} {a : Nat} : WP E c 252 239 [a0, a1, a2, a3] (.int i :: .ref a :: st) ah Q = WPo (gI E ah (.int i :: .ref a :: st)) (fun s9 => WP E c 252 240 [a0, a1, a2, a3] s9 ah Q) := wp_hr i252_239 rfl rfl rfl rfl rfl rfl rfl rfl
theorem i252_240 : insAt 252 240 = some (.iastore, 241) := by decide +kernel
theorem r252_240 {E : aEnv} {c : Nat} {ah : aHp} {st : List Value} {Q : Option Value → aHp → Prop} {a0 a1 a2 a3 : Option Value} {x : Int32} {i : Int32} {a : Nat} : WP E c 252 240 [a0, a1, a2, a3] (.int x :: .int i :: .ref a :: st) ah Q = WPo (pI E ah (.int x :: .int i :: .ref a :: st)) (fun q9 => WP E c 252 241 [a0, a1, a2, a3] q9.1 q9.2 Q) := wp_hw i252_240 rfl rfl rfl rfl rfl rfl rfl rfl
theorem i252_241 : insAt 252 241 = some (.aload 0, 242) := by decide +kernel
theorem r252_241 {E : aEnv} {c : Nat} {ah : aHp} {st : List Value} {Q : Option Value → aHp → Prop} {a1 a2 a3 : Option Value} {x : Nat} : WP E c 252 241 [some (.ref x), a1, a2, a3] (st) ah Q = WP E c 252 242 [some (.ref x), a1, a2, a3] (.ref x :: st) ah Q := wp_s i252_241 rfl rfl rfl rfl
theorem i252_242 : insAt 252 242 = some (.getfield 11442, 245) := by decide +kernel
theorem r252_242 {E : aEnv} {c : Nat} {ah : aHp} {st : List Value} {Q : Option Value → aHp → Prop} {a0 a1 a2 a3 : Option Value} {a : Nat} : WP E c 252 242 [a0, a1, a2, a3] (.ref a :: st) ah Q = WPo (oGF (hg E ah a) 11 44) (fun v => WP E c 252 245 [a0, a1, a2, a3] (v :: st) ah Q) := wp_getf i252_242
theorem i252_245 : insAt 252 245 = some (.iload 2, 246) := by decide +kernel
theorem r252_245 {E : aEnv} {c : Nat} {ah : aHp} {st : List Value} {Q : Option Value → aHp → Prop} {a0 a1 a3 : Option Value} {x : Int32} : WP E c 252 245 [a0, a1, some (.int x), a3] (st) ah Q = WP E c 252 246 [a0, a1, some (.int x), a3] (.int x :: st) ah Q := wp_s i252_245 rfl rfl rfl rfl
theorem i252_246 : insAt 252 246 = some (.aload 0, 247) := by decide +kernel
theorem r252_246 {E : aEnv} {c : Nat} {ah : aHp} {st : List Value} {Q : Option Value → aHp → Prop} {a1 a2 a3 : Option Value} {x : Nat} : WP E c 252 246 [some (.ref x), a1, a2, a3] (st) ah Q = WP E c 252 247 [some (.ref x), a1, a2, a3] (.ref x :: st) ah Q := wp_s i252_246 rfl rfl rfl rfl
theorem i252_247 : insAt 252 247 = some (.getfield 11502, 250) := by decide +kernel
theorem r252_247 {E : aEnv} {c : Nat} {ah : aHp} {st : List Value} {Q : Option Value → aHp → Prop} {a0 a1 a2 a3 : Option Value} {a : Nat} : WP E c 252 247 [a0, a1, a2, a3] (.ref a :: st) ah Q = WPo (oGF (hg E ah a) 11 50) (fun v => WP E c 252 250 [a0, a1, a2, a3] (v :: st) ah Q) := wp_getf i252_247
theorem i252_250 : insAt 252 250 = some (.iload 2, 251) := by decide +kernel
theorem r252_250 {E : aEnv} {c : Nat} {ah : aHp} {st : List Value} {Q : Option Value → aHp → Prop} {a0 a1 a3 : Option Value} {x : Int32} : WP E c 252 250 [a0, a1, some (.int x), a3] (st) ah Q = WP E c 252 251 [a0, a1, some (.int x), a3] (.int x :: st) ah Q := wp_s i252_250 rfl rfl rfl rfl
theorem i252_251 : insAt 252 251 = some (.iaload, 252) := by decide +kernel
theorem r252_251 {E : aEnv} {c : Nat} {ah : aHp} {st : List Value} {Q : Option Value → aHp → Prop} {a0 a1 a2 a3 : Option Value} {i : Int32} {a : Nat} : WP E c 252 251 [a0, a1, a2, a3] (.int i :: .ref a :: st) ah Q = WPo (gI E ah (.int i :: .ref a :: st)) (fun s9 => WP E c 252 252 [a0, a1, a2, a3] s9 ah Q) := wp_hr i252_251 rfl rfl rfl rfl rfl rfl rfl rfl
theorem i252_252 : insAt 252 252 = some (.iastore, 253) := by decide +kernel
theorem r252_252 {E : aEnv} {c : Nat} {ah : aHp} {st : List Value} {Q : Option Value → aHp → Prop} {a0 a1 a2 a3 : Option Value} {x : Int32} {i : Int32} {a : Nat} : WP E c 252 252 [a0, a1, a2, a3] (.int x :: .int i :: .ref a :: st) ah Q = WPo (pI E ah (.int x :: .int i :: .ref a :: st)) (fun q9 => WP E c 252 253 [a0, a1, a2, a3] q9.1 q9.2 Q) := wp_hw i252_252 rfl rfl rfl rfl rfl rfl rfl rfl
theorem i252_253 : insAt 252 253 = some (.aload 0, 254) := by decide +kernel
theorem r252_253 {E : aEnv} {c : Nat} {ah : aHp} {st : List Value} {Q : Option Value → aHp → Prop} {a1 a2 a3 : Option Value} {x : Nat} : WP E c 252 253 [some (.ref x), a1, a2, a3] (st) ah Q = WP E c 252 254 [some (.ref x), a1, a2, a3] (.ref x :: st) ah Q := wp_s i252_253 rfl rfl rfl rfl
theorem i252_254 : insAt 252 254 = some (.getfield 11452, 257) := by decide +kernel
theorem r252_254 {E : aEnv} {c : Nat} {ah : aHp} {st : List Value} {Q : Option Value → aHp → Prop} {a0 a1 a2 a3 : Option Value} {a : Nat} : WP E c 252 254 [a0, a1, a2, a3] (.ref a :: st) ah Q = WPo (oGF (hg E ah a) 11 45) (fun v => WP E c 252 257 [a0, a1, a2, a3] (v :: st) ah Q) := wp_getf i252_254
theorem i252_257 : insAt 252 257 = some (.iload 2, 258) := by decide +kernel
theorem r252_257 {E : aEnv} {c : Nat} {ah : aHp} {st : List Value} {Q : Option Value → aHp → Prop} {a0 a1 a3 : Option Value} {x : Int32} : WP E c 252 257 [a0, a1, some (.int x), a3] (st) ah Q = WP E c 252 258 [a0, a1, some (.int x), a3] (.int x :: st) ah Q := wp_s i252_257 rfl rfl rfl rfl
theorem i252_258 : insAt 252 258 = some (.aload 0, 259) := by decide +kernel
theorem r252_258 {E : aEnv} {c : Nat} {ah : aHp} {st : List Value} {Q : Option Value → aHp → Prop} {a1 a2 a3 : Option Value} {x : Nat} : WP E c 252 258 [some (.ref x), a1, a2, a3] (st) ah Q = WP E c 252 259 [some (.ref x), a1, a2, a3] (.ref x :: st) ah Q := wp_s i252_258 rfl rfl rfl rfl
theorem i252_259 : insAt 252 259 = some (.getfield 11512, 262) := by decide +kernel
theorem r252_259 {E : aEnv} {c : Nat} {ah : aHp} {st : List Value} {Q : Option Value → aHp → Prop} {a0 a1 a2 a3 : Option Value} {a : Nat} : WP E c 252 259 [a0, a1, a2, a3] (.ref a :: st) ah Q = WPo (oGF (hg E ah a) 11 51) (fun v => WP E c 252 262 [a0, a1, a2, a3] (v :: st) ah Q) := wp_getf i252_259
theorem i252_262 : insAt 252 262 = some (.iload 2, 263) := by decide +kernel
theorem r252_262 {E : aEnv} {c : Nat} {ah : aHp} {st : List Value} {Q : Option Value → aHp → Prop} {a0 a1 a3 : Option Value} {x : Int32} : WP E c 252 262 [a0, a1, some (.int x), a3] (st) ah Q = WP E c 252 263 [a0, a1, some (.int x), a3] (.int x :: st) ah Q := wp_s i252_262 rfl rfl rfl rfl
theorem i252_263 : insAt 252 263 = some (.iaload, 264) := by decide +kernel
theorem r252_263 {E : aEnv} {c : Nat} {ah : aHp} {st : List Value} {Q : Option Value → aHp → Prop} {a0 a1 a2 a3 : Option Value} {i : Int32} {a : Nat} : WP E c 252 263 [a0, a1, a2, a3] (.int i :: .ref a :: st) ah Q = WPo (gI E ah (.int i :: .ref a :: st)) (fun s9 => WP E c 252 264 [a0, a1, a2, a3] s9 ah Q) := wp_hr i252_263 rfl rfl rfl rfl rfl rfl rfl rfl
theorem i252_264 : insAt 252 264 = some (.iastore, 265) := by decide +kernel
theorem r252_264 {E : aEnv} {c : Nat} {ah : aHp} {st : List Value} {Q : Option Value → aHp → Prop} {a0 a1 a2 a3 : Option Value} {x : Int32} {i : Int32} {a : Nat} : WP E c 252 264 [a0, a1, a2, a3] (.int x :: .int i :: .ref a :: st) ah Q = WPo (pI E ah (.int x :: .int i :: .ref a :: st)) (fun q9 => WP E c 252 265 [a0, a1, a2, a3] q9.1 q9.2 Q) := wp_hw i252_264 rfl rfl rfl rfl rfl rfl rfl rfl
theorem i252_265 : insAt 252 265 = some (.aload 0, 266) := by decide +kernel
theorem r252_265 {E : aEnv} {c : Nat} {ah : aHp} {st : List Value} {Q : Option Value → aHp → Prop} {a1 a2 a3 : Option Value} {x : Nat} : WP E c 252 265 [some (.ref x), a1, a2, a3] (st) ah Q = WP E c 252 266 [some (.ref x), a1, a2, a3] (.ref x :: st) ah Q := wp_s i252_265 rfl rfl rfl rfl
theorem i252_266 : insAt 252 266 = some (.getfield 11462, 269) := by decide +kernel
theorem r252_266 {E : aEnv} {c : Nat} {ah : aHp} {st : List Value} {Q : Option Value → aHp → Prop} {a0 a1 a2 a3 : Option Value} {a : Nat} : WP E c 252 266 [a0, a1, a2, a3] (.ref a :: st) ah Q = WPo (oGF (hg E ah a) 11 46) (fun v => WP E c 252 269 [a0, a1, a2, a3] (v :: st) ah Q) := wp_getf i252_266
theorem i252_269 : insAt 252 269 = some (.iload 2, 270) := by decide +kernel
theorem r252_269 {E : aEnv} {c : Nat} {ah : aHp} {st : List Value} {Q : Option Value → aHp → Prop} {a0 a1 a3 : Option Value} {x : Int32} : WP E c 252 269 [a0, a1, some (.int x), a3] (st) ah Q = WP E c 252 270 [a0, a1, some (.int x), a3] (.int x :: st) ah Q := wp_s i252_269 rfl rfl rfl rfl
theorem i252_270 : insAt 252 270 = some (.aload 0, 271) := by decide +kernel
theorem r252_270 {E : aEnv} {c : Nat} {ah : aHp} {st : List Value} {Q : Option Value → aHp → Prop} {a1 a2 a3 : Option Value} {x : Nat} : WP E c 252 270 [some (.ref x), a1, a2, a3] (st) ah Q = WP E c 252 271 [some (.ref x), a1, a2, a3] (.ref x :: st) ah Q := wp_s i252_270 rfl rfl rfl rfl
theorem i252_271 : insAt 252 271 = some (.getfield 11522, 274) := by decide +kernel
theorem r252_271 {E : aEnv} {c : Nat} {ah : aHp} {st : List Value} {Q : Option Value → aHp → Prop} {a0 a1 a2 a3 : Option Value} {a : Nat} : WP E c 252 271 [a0, a1, a2, a3] (.ref a :: st) ah Q = WPo (oGF (hg E ah a) 11 52) (fun v => WP E c 252 274 [a0, a1, a2, a3] (v :: st) ah Q) := wp_getf i252_271
theorem i252_274 : insAt 252 274 = some (.iload 2, 275) := by decide +kernel
theorem r252_274 {E : aEnv} {c : Nat} {ah : aHp} {st : List Value} {Q : Option Value → aHp → Prop} {a0 a1 a3 : Option Value} {x : Int32} : WP E c 252 274 [a0, a1, some (.int x), a3] (st) ah Q = WP E c 252 275 [a0, a1, some (.int x), a3] (.int x :: st) ah Q := wp_s i252_274 rfl rfl rfl rfl
theorem i252_275 : insAt 252 275 = some (.iaload, 276) := by decide +kernel
theorem r252_275 {E : aEnv} {c : Nat} {ah : aHp} {st : List Value} {Q : Option Value → aHp → Prop} {a0 a1 a2 a3 : Option Value} {i : Int32} {a : Nat} : WP E c 252 275 [a0, a1, a2, a3] (.int i :: .ref a :: st) ah Q = WPo (gI E ah (.int i :: .ref a :: st)) (fun s9 => WP E c 252 276 [a0, a1, a2, a3] s9 ah Q) := wp_hr i252_275 rfl rfl rfl rfl rfl rfl rfl rfl
theorem i252_276 : insAt 252 276 = some (.iastore, 277) := by decide +kernel
theorem r252_276 {E : aEnv} {c : Nat} {ah : aHp} {st : List Value} {Q : Option Value → aHp → Prop} {a0 a1 a2 a3 : Option Value} {x : Int32} {i : Int32} {a : Nat} : WP E c 252 276 [a0, a1, a2, a3] (.int x :: .int i :: .ref a :: st) ah Q = WPo (pI E ah (.int x :: .int i :: .ref a :: st)) (fun q9 => WP E c 252 277 [a0, a1, a2, a3] q9.1 q9.2 Q) := wp_hw i252_276 rfl rfl rfl rfl rfl rfl rfl rfl
theorem i252_277 : insAt 252 277 = some (.aload 0, 278) := by decide +kernel
theorem r252_277 {E : aEnv} {c : Nat} {ah : aHp} {st : List Value} {Q : Option Value → aHp → Prop} {a1 a2 a3 : Option Value} {x : Nat} : WP E c 252 277 [some (.ref x), a1, a2, a3] (st) ah Q = WP E c 252 278 [some (.ref x), a1, a2, a3] (.ref x :: st) ah Q := wp_s i252_277 rfl rfl rfl rfl
theorem i252_278 : insAt 252 278 = some (.getfield 11472, 281) := by decide +kernel
theorem r252_278 {E : aEnv} {c : Nat} {ah : aHp} {st : List Value} {Q : Option Value → aHp → Prop} {a0 a1 a2 a3 : Option Value} {a : Nat} : WP E c 252 278 [a0, a1, a2, a3] (.ref a :: st) ah Q = WPo (oGF (hg E ah a) 11 47) (fun v => WP E c 252 281 [a0, a1, a2, a3] (v :: st) ah Q) := wp_getf i252_278
theorem i252_281 : insAt 252 281 = some (.iload 2, 282) := by decide +kernel
theorem r252_281 {E : aEnv} {c : Nat} {ah : aHp} {st : List Value} {Q : Option Value → aHp → Prop} {a0 a1 a3 : Option Value} {x : Int32} : WP E c 252 281 [a0, a1, some (.int x), a3] (st) ah Q = WP E c 252 282 [a0, a1, some (.int x), a3] (.int x :: st) ah Q := wp_s i252_281 rfl rfl rfl rfl
theorem i252_282 : insAt 252 282 = some (.aload 0, 283) := by decide +kernel
theorem r252_282 {E : aEnv} {c : Nat} {ah : aHp} {st : List Value} {Q : Option Value → aHp → Prop} {a1 a2 a3 : Option Value} {x : Nat} : WP E c 252 282 [some (.ref x), a1, a2, a3] (st) ah Q = WP E c 252 283 [some (.ref x), a1, a2, a3] (.ref x :: st) ah Q := wp_s i252_282 rfl rfl rfl rfl
theorem i252_283 : insAt 252 283 = some (.getfield 11532, 286) := by decide +kernel
theorem r252_283 {E : aEnv} {c : Nat} {ah : aHp} {st : List Value} {Q : Option Value → aHp → Prop} {a0 a1 a2 a3 : Option Value} {a : Nat} : WP E c 252 283 [a0, a1, a2, a3] (.ref a :: st) ah Q = WPo (oGF (hg E ah a) 11 53) (fun v => WP E c 252 286 [a0, a1, a2, a3] (v :: st) ah Q) := wp_getf i252_283
theorem i252_286 : insAt 252 286 = some (.iload 2, 287) := by decide +kernel
theorem r252_286 {E : aEnv} {c : Nat} {ah : aHp} {st : List Value} {Q : Option Value → aHp → Prop} {a0 a1 a3 : Option Value} {x : Int32} : WP E c 252 286 [a0, a1, some (.int x), a3] (st) ah Q = WP E c 252 287 [a0, a1, some (.int x), a3] (.int x :: st) ah Q := wp_s i252_286 rfl rfl rfl rfl
theorem i252_287 : insAt 252 287 = some (.iaload, 288) := by decide +kernel
theorem r252_287 {E : aEnv} {c : Nat} {ah : aHp} {st : List Value} {Q : Option Value → aHp → Prop} {a0 a1 a2 a3 : Option Value} {i : Int32} {a : Nat} : WP E c 252 287 [a0, a1, a2, a3] (.int i :: .ref a :: st) ah Q = WPo (gI E ah (.int i :: .ref a :: st)) (fun s9 => WP E c 252 288 [a0, a1, a2, a3] s9 ah Q) := wp_hr i252_287 rfl rfl rfl rfl rfl rfl rfl rfl
theorem i252_288 : insAt 252 288 = some (.iastore, 289) := by decide +kernel
theorem r252_288 {E : aEnv} {c : Nat} {ah : aHp} {st : List Value} {Q : Option Value → aHp → Prop} {a0 a1 a2 a3 : Option Value} {x : Int32} {i : Int32} {a : Nat} : WP E c 252 288 [a0, a1, a2, a3] (.int x :: .int i :: .ref a :: st) ah Q = WPo (pI E ah (.int x :: .int i :: .ref a :: st)) (fun q9 => WP E c 252 289 [a0, a1, a2, a3] q9.1 q9.2 Q) := wp_hw i252_288 rfl rfl rfl rfl rfl rfl rfl rfl
theorem i252_289 : insAt 252 289 = some (.aload 0, 290) := by decide +kernel
theorem r252_289 {E : aEnv} {c : Nat} {ah : aHp} {st : List Value} {Q : Option Value → aHp → Prop} {a1 a2 a3 : Option Value} {x : Nat} : WP E c 252 289 [some (.ref x), a1, a2, a3] (st) ah Q = WP E c 252 290 [some (.ref x), a1, a2, a3] (.ref x :: st) ah Q := wp_s i252_289 rfl rfl rfl rfl
theorem i252_290 : insAt 252 290 = some (.getfield 11482, 293) := by decide +kernel
theorem r252_290 {E : aEnv} {c : Nat} {ah : aHp} {st : List Value} {Q : Option Value → aHp → Prop} {a0 a1 a2 a3 : Option Value} {a : Nat} : WP E c 252 290 [a0, a1, a2, a3] (.ref a :: st) ah Q = WPo (oGF (hg E ah a) 11 48) (fun v => WP E c 252 293 [a0, a1, a2, a3] (v :: st) ah Q) := wp_getf i252_290
theorem i252_293 : insAt 252 293 = some (.iload 2, 294) := by decide +kernel
theorem r252_293 {E : aEnv} {c : Nat} {ah : aHp} {st : List Value} {Q : Option Value → aHp → Prop} {a0 a1 a3 : Option Value} {x : Int32} : WP E c 252 293 [a0, a1, some (.int x), a3] (st) ah Q = WP E c 252 294 [a0, a1, some (.int x), a3] (.int x :: st) ah Q := wp_s i252_293 rfl rfl rfl rfl
theorem i252_294 : insAt 252 294 = some (.aload 0, 295) := by decide +kernel
theorem r252_294 {E : aEnv} {c : Nat} {ah : aHp} {st : List Value} {Q : Option Value → aHp → Prop} {a1 a2 a3 : Option Value} {x : Nat} : WP E c 252 294 [some (.ref x), a1, a2, a3] (st) ah Q = WP E c 252 295 [some (.ref x), a1, a2, a3] (.ref x :: st) ah Q := wp_s i252_294 rfl rfl rfl rfl
theorem i252_295 : insAt 252 295 = some (.getfield 11542, 298) := by decide +kernel
theorem r252_295 {E : aEnv} {c : Nat} {ah : aHp} {st : List Value} {Q : Option Value → aHp → Prop} {a0 a1 a2 a3 : Option Value} {a : Nat} : WP E c 252 295 [a0, a1, a2, a3] (.ref a :: st) ah Q = WPo (oGF (hg E ah a) 11 54) (fun v => WP E c 252 298 [a0, a1, a2, a3] (v :: st) ah Q) := wp_getf i252_295
theorem i252_298 : insAt 252 298 = some (.iload 2, 299) := by decide +kernel
theorem r252_298 {E : aEnv} {c : Nat} {ah : aHp} {st : List Value} {Q : Option Value → aHp → Prop} {a0 a1 a3 : Option Value} {x : Int32} : WP E c 252 298 [a0, a1, some (.int x), a3] (st) ah Q = WP E c 252 299 [a0, a1, some (.int x), a3] (.int x :: st) ah Q := wp_s i252_298 rfl rfl rfl rfl
theorem i252_299 : insAt 252 299 = some (.iaload, 300) := by decide +kernel
theorem r252_299 {E : aEnv} {c : Nat} {ah : aHp} {st : List Value} {Q : Option Value → aHp → Prop} {a0 a1 a2 a3 : Option Value} {i : Int32} {a : Nat} : WP E c 252 299 [a0, a1, a2, a3] (.int i :: .ref a :: st) ah Q = WPo (gI E ah (.int i :: .ref a :: st)) (fun s9 => WP E c 252 300 [a0, a1, a2, a3] s9 ah Q) := wp_hr i252_299 rfl rfl rfl rfl rfl rfl rfl rfl
theorem i252_300 : insAt 252 300 = some (.iastore, 301) := by decide +kernel
theorem r252_300 {E : aEnv} {c : Nat} {ah : aHp} {st : List Value} {Q : Option Value → aHp → Prop} {a0 a1 a2 a3 : Option Value} {x : Int32} {i : Int32} {a : Nat} : WP E c 252 300 [a0, a1, a2, a3] (.int x :: .int i :: .ref a :: st) ah Q = WPo (pI E ah (.int x :: .int i :: .ref a :: st)) (fun q9 => WP E c 252 301 [a0, a1, a2, a3] q9.1 q9.2 Q) := wp_hw i252_300 rfl rfl rfl rfl rfl rfl rfl rfl
theorem i252_301 : insAt 252 301 = some (.aload 0, 302) := by decide +kernel
theorem r252_301 {E : aEnv} {c : Nat} {ah : aHp} {st : List Value} {Q : Option Value → aHp → Prop} {a1 a2 a3 : Option Value} {x : Nat} : WP E c 252 301 [some (.ref x), a1, a2, a3] (st) ah Q = WP E c 252 302 [some (.ref x), a1, a2, a3] (.ref x :: st) ah Q := wp_s i252_301 rfl rfl rfl rfl
theorem i252_302 : insAt 252 302 = some (.getfield 11562, 305) := by decide +kernel
theorem r252_302 {E : aEnv} {c : Nat} {ah : aHp} {st : List Value} {Q : Option Value → aHp → Prop} {a0 a1 a2 a3 : Option Value} {a : Nat} : WP E c 252 302 [a0, a1, a2, a3] (.ref a :: st) ah Q = WPo (oGF (hg E ah a) 11 56) (fun v => WP E c 252 305 [a0, a1, a2, a3] (v :: st) ah Q) := wp_getf i252_302
theorem i252_305 : insAt 252 305 = some (.iload 2, 306) := by decide +kernel
theorem r252_305 {E : aEnv} {c : Nat} {ah : aHp} {st : List Value} {Q : Option Value → aHp → Prop} {a0 a1 a3 : Option Value} {x : Int32} : WP E c 252 305 [a0, a1, some (.int x), a3] (st) ah Q = WP E c 252 306 [a0, a1, some (.int x), a3] (.int x :: st) ah Q := wp_s i252_305 rfl rfl rfl rfl
theorem i252_306 : insAt 252 306 = some (.aload 0, 307) := by decide +kernel
theorem r252_306 {E : aEnv} {c : Nat} {ah : aHp} {st : List Value} {Q : Option Value → aHp → Prop} {a1 a2 a3 : Option Value} {x : Nat} : WP E c 252 306 [some (.ref x), a1, a2, a3] (st) ah Q = WP E c 252 307 [some (.ref x), a1, a2, a3] (.ref x :: st) ah Q := wp_s i252_306 rfl rfl rfl rfl
theorem i252_307 : insAt 252 307 = some (.getfield 11572, 310) := by decide +kernel
theorem r252_307 {E : aEnv} {c : Nat} {ah : aHp} {st : List Value} {Q : Option Value → aHp → Prop} {a0 a1 a2 a3 : Option Value} {a : Nat} : WP E c 252 307 [a0, a1, a2, a3] (.ref a :: st) ah Q = WPo (oGF (hg E ah a) 11 57) (fun v => WP E c 252 310 [a0, a1, a2, a3] (v :: st) ah Q) := wp_getf i252_307
theorem i252_310 : insAt 252 310 = some (.iload 2, 311) := by decide +kernel
theorem r252_310 {E : aEnv} {c : Nat} {ah : aHp} {st : List Value} {Q : Option Value → aHp → Prop} {a0 a1 a3 : Option Value} {x : Int32} : WP E c 252 310 [a0, a1, some (.int x), a3] (st) ah Q = WP E c 252 311 [a0, a1, some (.int x), a3] (.int x :: st) ah Q := wp_s i252_310 rfl rfl rfl rfl
theorem i252_311 : insAt 252 311 = some (.laload, 312) := by decide +kernel
theorem r252_311 {E : aEnv} {c : Nat} {ah : aHp} {st : List Value} {Q : Option Value → aHp → Prop} {a0 a1 a2 a3 : Option Value} {i : Int32} {a : Nat} : WP E c 252 311 [a0, a1, a2, a3] (.int i :: .ref a :: st) ah Q = WPo (gL E ah (.int i :: .ref a :: st)) (fun s9 => WP E c 252 312 [a0, a1, a2, a3] s9 ah Q) := wp_hr i252_311 rfl rfl rfl rfl rfl rfl rfl rfl
theorem i252_312 : insAt 252 312 = some (.lastore, 313) := by decide +kernel
theorem r252_312 {E : aEnv} {c : Nat} {ah : aHp} {st : List Value} {Q : Option Value → aHp → Prop} {a0 a1 a2 a3 : Option Value} {x : Int64} {i : Int32} {a : Nat} : WP E c 252 312 [a0, a1, a2, a3] (.long x :: .int i :: .ref a :: st) ah Q = WPo (pL E ah (.long x :: .int i :: .ref a :: st)) (fun q9 => WP E c 252 313 [a0, a1, a2, a3] q9.1 q9.2 Q) := wp_hw i252_312 rfl rfl rfl rfl rfl rfl rfl rfl
theorem i252_313 : insAt 252 313 = some (.iinc 2 1, 316) := by decide +kernel
theorem r252_313 {E : aEnv} {c : Nat} {ah : aHp} {st : List Value} {Q : Option Value → aHp → Prop} {a0 a1 a3 : Option Value} {x : Int32} : WP E c 252 313 [a0, a1, some (.int x), a3] (st) ah Q = WP E c 252 316 [a0, kil a1, some (.int (x + 1)), a3] (st) ah Q := wp_s i252_313 rfl rfl rfl rfl
theorem i252_316 : insAt 252 316 = some (.goto 221, 319) := by decide +kernel
theorem r252_316 {E : aEnv} {c : Nat} {ah : aHp} {st : List Value} {Q : Option Value → aHp → Prop} {a0 a1 a2 a3 : Option Value} : WP E c 252 316 [a0, a1, a2, a3] (st) ah Q = WP E c 252 221 [a0, a1, a2, a3] st ah Q := wp_s i252_316 rfl rfl rfl rfl
theorem i252_319 : insAt 252 319 = some (.aload 0, 320) := by decide +kernel
theorem r252_319 {E : aEnv} {c : Nat} {ah : aHp} {st : List Value} {Q : Option Value → aHp → Prop} {a1 a2 a3 : Option Value} {x : Nat} : WP E c 252 319 [some (.ref x), a1, a2, a3] (st) ah Q = WP E c 252 320 [some (.ref x), a1, a2, a3] (.ref x :: st) ah Q := wp_s i252_319 rfl rfl rfl rfl
theorem i252_320 : insAt 252 320 = some (.getfield 11410, 323) := by decide +kernel
theorem r252_320 {E : aEnv} {c : Nat} {ah : aHp} {st : List Value} {Q : Option Value → aHp → Prop} {a0 a1 a2 a3 : Option Value} {a : Nat} : WP E c 252 320 [a0, a1, a2, a3] (.ref a :: st) ah Q = WPo (oGF (hg E ah a) 11 41) (fun v => WP E c 252 323 [a0, a1, a2, a3] (v :: st) ah Q) := wp_getf i252_320
theorem i252_323 : insAt 252 323 = some (.ireturn, 324) := by decide +kernel
theorem r252_323 {E : aEnv} {c : Nat} {ah : aHp} {Q : Option Value → aHp → Prop} {a0 a1 a2 a3 : Option Value} {x : Int32} : WP E c 252 323 [a0, a1, a2, a3] ([.int x]) ah Q = Q (some (.int x)) ah := wp_rt i252_323 rfl
theorem e253 {E : aEnv} {c : Nat} {ah ahF : aHp} {r : Option Value} {p0 : Nat} {p1 : Int32} (h : WP E c 253 0 [some (.ref p0), some (.int p1)] [] ah (fun r1 x1 => r1 = r ∧ x1 = ahF)) : EV E c 253 [.ref p0, .int p1] ah r ahF := EV.of (by rw [mr253.2.1]; exact h)
theorem i253_0 : insAt 253 0 = some (.aload 0, 1) := by decide +kernel
theorem r253_0 {E : aEnv} {c : Nat} {ah : aHp} {st : List Value} {Q : Option Value → aHp → Prop} {a1 : Option Value} {x : Nat} : WP E c 253 0 [some (.ref x), a1] (st) ah Q = WP E c 253 1 [some (.ref x), a1] (.ref x :: st) ah Q := wp_s i253_0 rfl rfl rfl rfl
theorem i253_1 : insAt 253 1 = some (.iconst 0, 2) := by decide +kernel
theorem r253_1 {E : aEnv} {c : Nat} {ah : aHp} {st : List Value} {Q : Option Value → aHp → Prop} {a0 a1 : Option Value} : WP E c 253 1 [a0, a1] (st) ah Q = WP E c 253 2 [a0, a1] (.int (0) :: st) ah Q := wp_s i253_1 rfl rfl rfl rfl
theorem i253_2 : insAt 253 2 = some (.putfield 11010, 5) := by decide +kernel
theorem r253_2 {E : aEnv} {c : Nat} {ah : aHp} {st : List Value} {Q : Option Value → aHp → Prop} {a0 a1 : Option Value} {a : Nat} {v : Value} : WP E c 253 2 [a0, a1] (v :: .ref a :: st) ah Q = WPo (oPF (hg E ah a) 11010 v) (fun e => WP E c 253 5 [a0, a1] st (hs E ah a e) Q) := wp_putf i253_2
theorem i253_5 : insAt 253 5 = some (.iload 1, 6) := by decide +kernel
theorem r253_5 {E : aEnv} {c : Nat} {ah : aHp} {st : List Value} {Q : Option Value → aHp → Prop} {a0 : Option Value} {x : Int32} : WP E c 253 5 [a0, some (.int x)] (st) ah Q = WP E c 253 6 [a0, some (.int x)] (.int x :: st) ah Q := wp_s i253_5 rfl rfl rfl rfl
theorem i253_6 : insAt 253 6 = some (.ifCond .ne 16, 9) := by decide +kernel
theorem r253_6 {E : aEnv} {c : Nat} {ah : aHp} {st : List Value} {Q : Option Value → aHp → Prop} {a0 a1 : Option Value} {x : Int32} : WP E c 253 6 [a0, a1] (.int x :: st) ah Q = if ¬ x = 0 then WP E c 253 16 [a0, a1] st ah Q else WP E c 253 9 [a0, a1] st ah Q := wp_j i253_6 rfl rfl rfl rfl
theorem i253_9 : insAt 253 9 = some (.aload 0, 10) := by decide +kernel
theorem r253_9 {E : aEnv} {c : Nat} {ah : aHp} {st : List Value} {Q : Option Value → aHp → Prop} {a1 : Option Value} {x : Nat} : WP E c 253 9 [some (.ref x), a1] (st) ah Q = WP E c 253 10 [some (.ref x), a1] (.ref x :: st) ah Q := wp_s i253_9 rfl rfl rfl rfl
theorem i253_10 : insAt 253 10 = some (.getfield 11310, 13) := by decide +kernel
theorem r253_10 {E : aEnv} {c : Nat} {ah : aHp} {st : List Value} {Q : Option Value → aHp → Prop} {a0 a1 : Option Value} {a : Nat} : WP E c 253 10 [a0, a1] (.ref a :: st) ah Q = WPo (oGF (hg E ah a) 11 31) (fun v => WP E c 253 13 [a0, a1] (v :: st) ah Q) := wp_getf i253_10
theorem i253_13 : insAt 253 13 = some (.goto 29, 16) := by decide +kernel
theorem r253_13 {E : aEnv} {c : Nat} {ah : aHp} {st : List Value} {Q : Option Value → aHp → Prop} {a0 a1 : Option Value} : WP E c 253 13 [a0, a1] (st) ah Q = WP E c 253 29 [a0, a1] st ah Q := wp_s i253_13 rfl rfl rfl rfl
theorem i253_16 : insAt 253 16 = some (.iload 1, 17) := by decide +kernel
theorem r253_16 {E : aEnv} {c : Nat} {ah : aHp} {st : List Value} {Q : Option Value → aHp → Prop} {a0 : Option Value} {x : Int32} : WP E c 253 16 [a0, some (.int x)] (st) ah Q = WP E c 253 17 [a0, some (.int x)] (.int x :: st) ah Q := wp_s i253_16 rfl rfl rfl rfl
theorem i253_17 : insAt 253 17 = some (.iconst 1, 18) := by decide +kernel
theorem r253_17 {E : aEnv} {c : Nat} {ah : aHp} {st : List Value} {Q : Option Value → aHp → Prop} {a0 a1 : Option Value} : WP E c 253 17 [a0, a1] (st) ah Q = WP E c 253 18 [a0, a1] (.int (1) :: st) ah Q := wp_s i253_17 rfl rfl rfl rfl
theorem i253_18 : insAt 253 18 = some (.if_icmp .ne 28, 21) := by decide +kernel
theorem r253_18 {E : aEnv} {c : Nat} {ah : aHp} {st : List Value} {Q : Option Value → aHp → Prop} {a0 a1 : Option Value} {x y : Int32} : WP E c 253 18 [a0, a1] (.int y :: .int x :: st) ah Q = if ¬ x = y then WP E c 253 28 [a0, a1] st ah Q else WP E c 253 21 [a0, a1] st ah Q := wp_j i253_18 rfl rfl rfl rfl
theorem i253_21 : insAt 253 21 = some (.aload 0, 22) := by decide +kernel
theorem r253_21 {E : aEnv} {c : Nat} {ah : aHp} {st : List Value} {Q : Option Value → aHp → Prop} {a1 : Option Value} {x : Nat} : WP E c 253 21 [some (.ref x), a1] (st) ah Q = WP E c 253 22 [some (.ref x), a1] (.ref x :: st) ah Q := wp_s i253_21 rfl rfl rfl rfl
theorem i253_22 : insAt 253 22 = some (.getfield 11320, 25) := by decide +kernel
theorem r253_22 {E : aEnv} {c : Nat} {ah : aHp} {st : List Value} {Q : Option Value → aHp → Prop} {a0 a1 : Option Value} {a : Nat} : WP E c 253 22 [a0, a1] (.ref a :: st) ah Q = WPo (oGF (hg E ah a) 11 32) (fun v => WP E c 253 25 [a0, a1] (v :: st) ah Q) := wp_getf i253_22
theorem i253_25 : insAt 253 25 = some (.goto 29, 28) := by decide +kernel
theorem r253_25 {E : aEnv} {c : Nat} {ah : aHp} {st : List Value} {Q : Option Value → aHp → Prop} {a0 a1 : Option Value} : WP E c 253 25 [a0, a1] (st) ah Q = WP E c 253 29 [a0, a1] st ah Q := wp_s i253_25 rfl rfl rfl rfl
theorem i253_28 : insAt 253 28 = some (.iconst (-1), 29) := by decide +kernel
theorem r253_28 {E : aEnv} {c : Nat} {ah : aHp} {st : List Value} {Q : Option Value → aHp → Prop} {a0 a1 : Option Value} : WP E c 253 28 [a0, a1] (st) ah Q = WP E c 253 29 [a0, a1] (.int ((-1)) :: st) ah Q := wp_s i253_28 rfl rfl rfl rfl
theorem i253_29 : insAt 253 29 = some (.ireturn, 30) := by decide +kernel
theorem r253_29 {E : aEnv} {c : Nat} {ah : aHp} {Q : Option Value → aHp → Prop} {a0 a1 : Option Value} {x : Int32} : WP E c 253 29 [a0, a1] ([.int x]) ah Q = Q (some (.int x)) ah := wp_rt i253_29 rfl
theorem e254 {E : aEnv} {c : Nat} {ah ahF : aHp} {r : Option Value} {p0 : Int64} {p1 : Int64} (h : WP E c 254 0 [some (.long p0), none, some (.long p1), none] [] ah (fun r1 x1 => r1 = r ∧ x1 = ahF)) : EV E c 254 [.long p0, .long p1] ah r ahF := EV.of (by rw [mr254.2.1]; exact h)
theorem i254_0 : insAt 254 0 = some (.lload 0, 1) := by decide +kernel
theorem r254_0 {E : aEnv} {c : Nat} {ah : aHp} {st : List Value} {Q : Option Value → aHp → Prop} {a1 a2 a3 : Option Value} {x : Int64} : WP E c 254 0 [some (.long x), a1, a2, a3] (st) ah Q = WP E c 254 1 [some (.long x), a1, a2, a3] (.long x :: st) ah Q := wp_s i254_0 rfl rfl rfl rfl
theorem i254_1 : insAt 254 1 = some (.jsr_w 0, 2) := by decide +kernel
theorem r254_1 {E : aEnv} {c : Nat} {ah : aHp} {st : List Value} {Q : Option Value → aHp → Prop} {a0 a1 a2 a3 : Option Value} : WP E c 254 1 [a0, a1, a2, a3] (st) ah Q = WP E c 254 2 [a0, a1, a2, a3] (.long (0) :: st) ah Q := wp_s i254_1 rfl rfl rfl rfl
theorem i254_2 : insAt 254 2 = some (.lcmp, 3) := by decide +kernel
theorem r254_2 {E : aEnv} {c : Nat} {ah : aHp} {st : List Value} {Q : Option Value → aHp → Prop} {a0 a1 a2 a3 : Option Value} {x y : Int64} : WP E c 254 2 [a0, a1, a2, a3] (.long y :: .long x :: st) ah Q = WP E c 254 3 [a0, a1, a2, a3] (.int (lg_cmp x y) :: st) ah Q := wp_s i254_2 rfl rfl rfl rfl
theorem i254_3 : insAt 254 3 = some (.ifCond .eq 26, 6) := by decide +kernel
theorem r254_3 {E : aEnv} {c : Nat} {ah : aHp} {st : List Value} {Q : Option Value → aHp → Prop} {a0 a1 a2 a3 : Option Value} {x : Int32} : WP E c 254 3 [a0, a1, a2, a3] (.int x :: st) ah Q = if x = 0 then WP E c 254 26 [a0, a1, a2, a3] st ah Q else WP E c 254 6 [a0, a1, a2, a3] st ah Q := wp_j i254_3 rfl rfl rfl rfl
theorem i254_6 : insAt 254 6 = some (.lload 2, 7) := by decide +kernel
theorem r254_6 {E : aEnv} {c : Nat} {ah : aHp} {st : List Value} {Q : Option Value → aHp → Prop} {a0 a1 a3 : Option Value} {x : Int64} : WP E c 254 6 [a0, a1, some (.long x), a3] (st) ah Q = WP E c 254 7 [a0, a1, some (.long x), a3] (.long x :: st) ah Q := wp_s i254_6 rfl rfl rfl rfl
theorem i254_7 : insAt 254 7 = some (.invokestatic 291, 10) := by decide +kernel
theorem r254_7 {E : aEnv} {c : Nat} {ah ah1 : aHp} {r : Option Value} {st : List Value} {Q : Option Value → aHp → Prop} {a0 a1 a2 a3 : Option Value} {p0 : Int64} (h : EV E c 291 [.long p0] ah r ah1) (h3 : wds st ≤ 8) : WP E (c + 1) 254 7 [a0, a1, a2, a3] (.long p0 :: st) ah Q = WP E (c + 1) 254 10 [a0, a1, a2, a3] (r.toList ++ st) ah1 Q := wp_call (As := [.long p0]) i254_7 (fun _ => rfl) rfl mr291.1 rfl h3 (by rw [mr291.2.1]; exact Nat.le_of_ble_eq_true rfl) h
theorem i254_10 : insAt 254 10 = some (.jsr_w 999999999999, 13) := by decide +kernel
theorem r254_10 {E : aEnv} {c : Nat} {ah : aHp} {st : List Value} {Q : Option Value → aHp → Prop} {a0 a1 a2 a3 : Option Value} : WP E c 254 10 [a0, a1, a2, a3] (st) ah Q = WP E c 254 13 [a0, a1, a2, a3] (.long (999999999999) :: st) ah Q := wp_s i254_10 rfl rfl rfl rfl
theorem i254_13 : insAt 254 13 = some (.lload 0, 14) := by decide +kernel
theorem r254_13 {E : aEnv} {c : Nat} {ah : aHp} {st : List Value} {Q : Option Value → aHp → Prop} {a1 a2 a3 : Option Value} {x : Int64} : WP E c 254 13 [some (.long x), a1, a2, a3] (st) ah Q = WP E c 254 14 [some (.long x), a1, a2, a3] (.long x :: st) ah Q := wp_s i254_13 rfl rfl rfl rfl
theorem i254_14 : insAt 254 14 = some (.invokestatic 291, 17) := by decide +kernel
theorem r254_14 {E : aEnv} {c : Nat} {ah ah1 : aHp} {r : Option Value} {st : List Value} {Q : Option Value → aHp → Prop} {a0 a1 a2 a3 : Option Value} {p0 : Int64} (h : EV E c 291 [.long p0] ah r ah1) (h3 : wds st ≤ 8) : WP E (c + 1) 254 14 [a0, a1, a2, a3] (.long p0 :: st) ah Q = WP E (c + 1) 254 17 [a0, a1, a2, a3] (r.toList ++ st) ah1 Q := wp_call (As := [.long p0]) i254_14 (fun _ => rfl) rfl mr291.1 rfl h3 (by rw [mr291.2.1]; exact Nat.le_of_ble_eq_true rfl) h
theorem i254_17 : insAt 254 17 = some (.ldiv, 18) := by decide +kernel
theorem r254_17 {E : aEnv} {c : Nat} {ah : aHp} {st : List Value} {Q : Option Value → aHp → Prop} {a0 a1 a2 a3 : Option Value} {x y : Int64} (hy : ¬ y = 0) : WP E c 254 17 [a0, a1, a2, a3] (.long y :: .long x :: st) ah Q = WP E c 254 18 [a0, a1, a2, a3] (.long (x / y) :: st) ah Q := wp_st (z := (18, [a0, a1, a2, a3], .long (x / y) :: st, ah)) i254_17 rfl rfl rfl (by simp [st1, skA, tD, hy])
theorem i254_18 : insAt 254 18 = some (.lcmp, 19) := by decide +kernel
theorem r254_18 {E : aEnv} {c : Nat} {ah : aHp} {st : List Value} {Q : Option Value → aHp → Prop} {a0 a1 a2 a3 : Option Value} {x y : Int64} : WP E c 254 18 [a0, a1, a2, a3] (.long y :: .long x :: st) ah Q = WP E c 254 19 [a0, a1, a2, a3] (.int (lg_cmp x y) :: st) ah Q := wp_s i254_18 rfl rfl rfl rfl
theorem i254_19 : insAt 254 19 = some (.ifCond .le 26, 22) := by decide +kernel
theorem r254_19 {E : aEnv} {c : Nat} {ah : aHp} {st : List Value} {Q : Option Value → aHp → Prop} {a0 a1 a2 a3 : Option Value} {x : Int32} : WP E c 254 19 [a0, a1, a2, a3] (.int x :: st) ah Q = if x ≤ 0 then WP E c 254 26 [a0, a1, a2, a3] st ah Q else WP E c 254 22 [a0, a1, a2, a3] st ah Q := wp_j i254_19 rfl rfl rfl rfl
theorem i254_22 : insAt 254 22 = some (.iconst 1, 23) := by decide +kernel
theorem r254_22 {E : aEnv} {c : Nat} {ah : aHp} {st : List Value} {Q : Option Value → aHp → Prop} {a0 a1 a2 a3 : Option Value} : WP E c 254 22 [a0, a1, a2, a3] (st) ah Q = WP E c 254 23 [a0, a1, a2, a3] (.int (1) :: st) ah Q := wp_s i254_22 rfl rfl rfl rfl
theorem i254_23 : insAt 254 23 = some (.goto 27, 26) := by decide +kernel
theorem r254_23 {E : aEnv} {c : Nat} {ah : aHp} {st : List Value} {Q : Option Value → aHp → Prop} {a0 a1 a2 a3 : Option Value} : WP E c 254 23 [a0, a1, a2, a3] (st) ah Q = WP E c 254 27 [a0, a1, a2, a3] st ah Q := wp_s i254_23 rfl rfl rfl rfl
theorem i254_26 : insAt 254 26 = some (.iconst 0, 27) := by decide +kernel
theorem r254_26 {E : aEnv} {c : Nat} {ah : aHp} {st : List Value} {Q : Option Value → aHp → Prop} {a0 a1 a2 a3 : Option Value} : WP E c 254 26 [a0, a1, a2, a3] (st) ah Q = WP E c 254 27 [a0, a1, a2, a3] (.int (0) :: st) ah Q := wp_s i254_26 rfl rfl rfl rfl
theorem i254_27 : insAt 254 27 = some (.freturn, 28) := by decide +kernel
theorem r254_27 {E : aEnv} {c : Nat} {ah : aHp} {Q : Option Value → aHp → Prop} {a0 a1 a2 a3 : Option Value} {x : Int32} (hx : x = 0 ∨ x = 1) : WP E c 254 27 [a0, a1, a2, a3] ([.int x]) ah Q = Q (some (.int x)) ah := wp_rt i254_27 (by simp only [rtA, if_pos hx])
theorem e255 {E : aEnv} {c : Nat} {ah ahF : aHp} {r : Option Value} {p0 : Nat} {p1 : Int32} (h : WP E c 255 0 [some (.ref p0), some (.int p1), none, none, none, none] [] ah (fun r1 x1 => r1 = r ∧ x1 = ahF)) : EV E c 255 [.ref p0, .int p1] ah r ahF := EV.of (by rw [mr255.2.1]; exact h)
theorem i255_0 : insAt 255 0 = some (.aload 0, 1) := by decide +kernel
theorem r255_0 {E : aEnv} {c : Nat} {ah : aHp} {st : List Value} {Q : Option Value → aHp → Prop} {a1 a2 a3 a4 a5 : Option Value} {x : Nat} : WP E c 255 0 [some (.ref x), a1, a2, a3, a4, a5] (st) ah Q = WP E c 255 1 [some (.ref x), a1, a2, a3, a4, a5] (.ref x :: st) ah Q := wp_s i255_0 rfl rfl rfl rfl
theorem i255_1 : insAt 255 1 = some (.getfield 11432, 4) := by decide +kernel
theorem r255_1 {E : aEnv} {c : Nat} {ah : aHp} {st : List Value} {Q : Option Value → aHp → Prop} {a0 a1 a2 a3 a4 a5 : Option Value} {a : Nat} : WP E c 255 1 [a0, a1, a2, a3, a4, a5] (.ref a :: st) ah Q = WPo (oGF (hg E ah a) 11 43) (fun v => WP E c 255 4 [a0, a1, a2, a3, a4, a5] (v :: st) ah Q) := wp_getf i255_1
theorem i255_4 : insAt 255 4 = some (.iload 1, 5) := by decide +kernel
theorem r255_4 {E : aEnv} {c : Nat} {ah : aHp} {st : List Value} {Q : Option Value → aHp → Prop} {a0 a2 a3 a4 a5 : Option Value} {x : Int32} : WP E c 255 4 [a0, some (.int x), a2, a3, a4, a5] (st) ah Q = WP E c 255 5 [a0, some (.int x), a2, a3, a4, a5] (.int x :: st) ah Q := wp_s i255_4 rfl rfl rfl rfl
theorem i255_5 : insAt 255 5 = some (.iaload, 6) := by decide +kernel
theorem r255_5 {E : aEnv} {c : Nat} {ah : aHp} {st : List Value} {Q : Option Value → aHp → Prop} {a0 a1 a2 a3 a4 a5 : Option Value} {i : Int32} {a : Nat} : WP E c 255 5 [a0, a1, a2, a3, a4, a5] (.int i :: .ref a :: st) ah Q = WPo (gI E ah (.int i :: .ref a :: st)) (fun s9 => WP E c 255 6 [a0, a1, a2, a3, a4, a5] s9 ah Q) := wp_hr i255_5 rfl rfl rfl rfl rfl rfl rfl rfl
theorem i255_6 : insAt 255 6 = some (.iconst 6, 8) := by decide +kernel
theorem r255_6 {E : aEnv} {c : Nat} {ah : aHp} {st : List Value} {Q : Option Value → aHp → Prop} {a0 a1 a2 a3 a4 a5 : Option Value} : WP E c 255 6 [a0, a1, a2, a3, a4, a5] (st) ah Q = WP E c 255 8 [a0, a1, a2, a3, a4, a5] (.int (6) :: st) ah Q := wp_s i255_6 rfl rfl rfl rfl
theorem i255_8 : insAt 255 8 = some (.if_icmp .eq 22, 11) := by decide +kernel
theorem r255_8 {E : aEnv} {c : Nat} {ah : aHp} {st : List Value} {Q : Option Value → aHp → Prop} {a0 a1 a2 a3 a4 a5 : Option Value} {x y : Int32} : WP E c 255 8 [a0, a1, a2, a3, a4, a5] (.int y :: .int x :: st) ah Q = if x = y then WP E c 255 22 [a0, a1, a2, a3, a4, a5] st ah Q else WP E c 255 11 [a0, a1, a2, a3, a4, a5] st ah Q := wp_j i255_8 rfl rfl rfl rfl
theorem i255_11 : insAt 255 11 = some (.aload 0, 12) := by decide +kernel
theorem r255_11 {E : aEnv} {c : Nat} {ah : aHp} {st : List Value} {Q : Option Value → aHp → Prop} {a1 a2 a3 a4 a5 : Option Value} {x : Nat} : WP E c 255 11 [some (.ref x), a1, a2, a3, a4, a5] (st) ah Q = WP E c 255 12 [some (.ref x), a1, a2, a3, a4, a5] (.ref x :: st) ah Q := wp_s i255_11 rfl rfl rfl rfl
theorem i255_12 : insAt 255 12 = some (.getfield 11432, 15) := by decide +kernel
theorem r255_12 {E : aEnv} {c : Nat} {ah : aHp} {st : List Value} {Q : Option Value → aHp → Prop} {a0 a1 a2 a3 a4 a5 : Option Value} {a : Nat} : WP E c 255 12 [a0, a1, a2, a3, a4, a5] (.ref a :: st) ah Q = WPo (oGF (hg E ah a) 11 43) (fun v => WP E c 255 15 [a0, a1, a2, a3, a4, a5] (v :: st) ah Q) := wp_getf i255_12
theorem i255_15 : insAt 255 15 = some (.iload 1, 16) := by decide +kernel
theorem r255_15 {E : aEnv} {c : Nat} {ah : aHp} {st : List Value} {Q : Option Value → aHp → Prop} {a0 a2 a3 a4 a5 : Option Value} {x : Int32} : WP E c 255 15 [a0, some (.int x), a2, a3, a4, a5] (st) ah Q = WP E c 255 16 [a0, some (.int x), a2, a3, a4, a5] (.int x :: st) ah Q := wp_s i255_15 rfl rfl rfl rfl
theorem i255_16 : insAt 255 16 = some (.iaload, 17) := by decide +kernel
theorem r255_16 {E : aEnv} {c : Nat} {ah : aHp} {st : List Value} {Q : Option Value → aHp → Prop} {a0 a1 a2 a3 a4 a5 : Option Value} {i : Int32} {a : Nat} : WP E c 255 16 [a0, a1, a2, a3, a4, a5] (.int i :: .ref a :: st) ah Q = WPo (gI E ah (.int i :: .ref a :: st)) (fun s9 => WP E c 255 17 [a0, a1, a2, a3, a4, a5] s9 ah Q) := wp_hr i255_16 rfl rfl rfl rfl rfl rfl rfl rfl
theorem i255_17 : insAt 255 17 = some (.iconst 7, 19) := by decide +kernel
theorem r255_17 {E : aEnv} {c : Nat} {ah : aHp} {st : List Value} {Q : Option Value → aHp → Prop} {a0 a1 a2 a3 a4 a5 : Option Value} : WP E c 255 17 [a0, a1, a2, a3, a4, a5] (st) ah Q = WP E c 255 19 [a0, a1, a2, a3, a4, a5] (.int (7) :: st) ah Q := wp_s i255_17 rfl rfl rfl rfl
theorem i255_19 : insAt 255 19 = some (.if_icmp .ne 24, 22) := by decide +kernel
theorem r255_19 {E : aEnv} {c : Nat} {ah : aHp} {st : List Value} {Q : Option Value → aHp → Prop} {a0 a1 a2 a3 a4 a5 : Option Value} {x y : Int32} : WP E c 255 19 [a0, a1, a2, a3, a4, a5] (.int y :: .int x :: st) ah Q = if ¬ x = y then WP E c 255 24 [a0, a1, a2, a3, a4, a5] st ah Q else WP E c 255 22 [a0, a1, a2, a3, a4, a5] st ah Q := wp_j i255_19 rfl rfl rfl rfl
theorem i255_22 : insAt 255 22 = some (.iconst 0, 23) := by decide +kernel
theorem r255_22 {E : aEnv} {c : Nat} {ah : aHp} {st : List Value} {Q : Option Value → aHp → Prop} {a0 a1 a2 a3 a4 a5 : Option Value} : WP E c 255 22 [a0, a1, a2, a3, a4, a5] (st) ah Q = WP E c 255 23 [a0, a1, a2, a3, a4, a5] (.int (0) :: st) ah Q := wp_s i255_22 rfl rfl rfl rfl
theorem i255_23 : insAt 255 23 = some (.ireturn, 24) := by decide +kernel
theorem r255_23 {E : aEnv} {c : Nat} {ah : aHp} {Q : Option Value → aHp → Prop} {a0 a1 a2 a3 a4 a5 : Option Value} {x : Int32} : WP E c 255 23 [a0, a1, a2, a3, a4, a5] ([.int x]) ah Q = Q (some (.int x)) ah := wp_rt i255_23 rfl
theorem i255_24 : insAt 255 24 = some (.aload 0, 25) := by decide +kernel
theorem r255_24 {E : aEnv} {c : Nat} {ah : aHp} {st : List Value} {Q : Option Value → aHp → Prop} {a1 a2 a3 a4 a5 : Option Value} {x : Nat} : WP E c 255 24 [some (.ref x), a1, a2, a3, a4, a5] (st) ah Q = WP E c 255 25 [some (.ref x), a1, a2, a3, a4, a5] (.ref x :: st) ah Q := wp_s i255_24 rfl rfl rfl rfl
theorem i255_25 : insAt 255 25 = some (.getfield 11582, 28) := by decide +kernel
theorem r255_25 {E : aEnv} {c : Nat} {ah : aHp} {st : List Value} {Q : Option Value → aHp → Prop} {a0 a1 a2 a3 a4 a5 : Option Value} {a : Nat} : WP E c 255 25 [a0, a1, a2, a3, a4, a5] (.ref a :: st) ah Q = WPo (oGF (hg E ah a) 11 58) (fun v => WP E c 255 28 [a0, a1, a2, a3, a4, a5] (v :: st) ah Q) := wp_getf i255_25
theorem i255_28 : insAt 255 28 = some (.aload 0, 29) := by decide +kernel
theorem r255_28 {E : aEnv} {c : Nat} {ah : aHp} {st : List Value} {Q : Option Value → aHp → Prop} {a1 a2 a3 a4 a5 : Option Value} {x : Nat} : WP E c 255 28 [some (.ref x), a1, a2, a3, a4, a5] (st) ah Q = WP E c 255 29 [some (.ref x), a1, a2, a3, a4, a5] (.ref x :: st) ah Q := wp_s i255_28 rfl rfl rfl rfl
theorem i255_29 : insAt 255 29 = some (.getfield 11442, 32) := by decide +kernel
theorem r255_29 {E : aEnv} {c : Nat} {ah : aHp} {st : List Value} {Q : Option Value → aHp → Prop} {a0 a1 a2 a3 a4 a5 : Option Value} {a : Nat} : WP E c 255 29 [a0, a1, a2, a3, a4, a5] (.ref a :: st) ah Q = WPo (oGF (hg E ah a) 11 44) (fun v => WP E c 255 32 [a0, a1, a2, a3, a4, a5] (v :: st) ah Q) := wp_getf i255_29
theorem i255_32 : insAt 255 32 = some (.iload 1, 33) := by decide +kernel
theorem r255_32 {E : aEnv} {c : Nat} {ah : aHp} {st : List Value} {Q : Option Value → aHp → Prop} {a0 a2 a3 a4 a5 : Option Value} {x : Int32} : WP E c 255 32 [a0, some (.int x), a2, a3, a4, a5] (st) ah Q = WP E c 255 33 [a0, some (.int x), a2, a3, a4, a5] (.int x :: st) ah Q := wp_s i255_32 rfl rfl rfl rfl
theorem i255_33 : insAt 255 33 = some (.iaload, 34) := by decide +kernel
theorem r255_33 {E : aEnv} {c : Nat} {ah : aHp} {st : List Value} {Q : Option Value → aHp → Prop} {a0 a1 a2 a3 a4 a5 : Option Value} {i : Int32} {a : Nat} : WP E c 255 33 [a0, a1, a2, a3, a4, a5] (.int i :: .ref a :: st) ah Q = WPo (gI E ah (.int i :: .ref a :: st)) (fun s9 => WP E c 255 34 [a0, a1, a2, a3, a4, a5] s9 ah Q) := wp_hr i255_33 rfl rfl rfl rfl rfl rfl rfl rfl
theorem i255_34 : insAt 255 34 = some (.laload, 35) := by decide +kernel
theorem r255_34 {E : aEnv} {c : Nat} {ah : aHp} {st : List Value} {Q : Option Value → aHp → Prop} {a0 a1 a2 a3 a4 a5 : Option Value} {i : Int32} {a : Nat} : WP E c 255 34 [a0, a1, a2, a3, a4, a5] (.int i :: .ref a :: st) ah Q = WPo (gL E ah (.int i :: .ref a :: st)) (fun s9 => WP E c 255 35 [a0, a1, a2, a3, a4, a5] s9 ah Q) := wp_hr i255_34 rfl rfl rfl rfl rfl rfl rfl rfl
theorem i255_35 : insAt 255 35 = some (.lstore 2, 36) := by decide +kernel
theorem r255_35 {E : aEnv} {c : Nat} {ah : aHp} {st : List Value} {Q : Option Value → aHp → Prop} {a0 a1 a2 a3 a4 a5 : Option Value} {x : Int64} : WP E c 255 35 [a0, a1, a2, a3, a4, a5] (.long x :: st) ah Q = WP E c 255 36 [a0, kil a1, some (.long x), none, a4, a5] (st) ah Q := wp_s i255_35 rfl rfl rfl rfl
theorem i255_36 : insAt 255 36 = some (.aload 0, 37) := by decide +kernel
theorem r255_36 {E : aEnv} {c : Nat} {ah : aHp} {st : List Value} {Q : Option Value → aHp → Prop} {a1 a2 a3 a4 a5 : Option Value} {x : Nat} : WP E c 255 36 [some (.ref x), a1, a2, a3, a4, a5] (st) ah Q = WP E c 255 37 [some (.ref x), a1, a2, a3, a4, a5] (.ref x :: st) ah Q := wp_s i255_36 rfl rfl rfl rfl
theorem i255_37 : insAt 255 37 = some (.getfield 11582, 40) := by decide +kernel
theorem r255_37 {E : aEnv} {c : Nat} {ah : aHp} {st : List Value} {Q : Option Value → aHp → Prop} {a0 a1 a2 a3 a4 a5 : Option Value} {a : Nat} : WP E c 255 37 [a0, a1, a2, a3, a4, a5] (.ref a :: st) ah Q = WPo (oGF (hg E ah a) 11 58) (fun v => WP E c 255 40 [a0, a1, a2, a3, a4, a5] (v :: st) ah Q) := wp_getf i255_37
theorem i255_40 : insAt 255 40 = some (.aload 0, 41) := by decide +kernel
theorem r255_40 {E : aEnv} {c : Nat} {ah : aHp} {st : List Value} {Q : Option Value → aHp → Prop} {a1 a2 a3 a4 a5 : Option Value} {x : Nat} : WP E c 255 40 [some (.ref x), a1, a2, a3, a4, a5] (st) ah Q = WP E c 255 41 [some (.ref x), a1, a2, a3, a4, a5] (.ref x :: st) ah Q := wp_s i255_40 rfl rfl rfl rfl
theorem i255_41 : insAt 255 41 = some (.getfield 11452, 44) := by decide +kernel
theorem r255_41 {E : aEnv} {c : Nat} {ah : aHp} {st : List Value} {Q : Option Value → aHp → Prop} {a0 a1 a2 a3 a4 a5 : Option Value} {a : Nat} : WP E c 255 41 [a0, a1, a2, a3, a4, a5] (.ref a :: st) ah Q = WPo (oGF (hg E ah a) 11 45) (fun v => WP E c 255 44 [a0, a1, a2, a3, a4, a5] (v :: st) ah Q) := wp_getf i255_41
theorem i255_44 : insAt 255 44 = some (.iload 1, 45) := by decide +kernel
theorem r255_44 {E : aEnv} {c : Nat} {ah : aHp} {st : List Value} {Q : Option Value → aHp → Prop} {a0 a2 a3 a4 a5 : Option Value} {x : Int32} : WP E c 255 44 [a0, some (.int x), a2, a3, a4, a5] (st) ah Q = WP E c 255 45 [a0, some (.int x), a2, a3, a4, a5] (.int x :: st) ah Q := wp_s i255_44 rfl rfl rfl rfl
theorem i255_45 : insAt 255 45 = some (.iaload, 46) := by decide +kernel
theorem r255_45 {E : aEnv} {c : Nat} {ah : aHp} {st : List Value} {Q : Option Value → aHp → Prop} {a0 a1 a2 a3 a4 a5 : Option Value} {i : Int32} {a : Nat} : WP E c 255 45 [a0, a1, a2, a3, a4, a5] (.int i :: .ref a :: st) ah Q = WPo (gI E ah (.int i :: .ref a :: st)) (fun s9 => WP E c 255 46 [a0, a1, a2, a3, a4, a5] s9 ah Q) := wp_hr i255_45 rfl rfl rfl rfl rfl rfl rfl rfl
theorem i255_46 : insAt 255 46 = some (.laload, 47) := by decide +kernel
theorem r255_46 {E : aEnv} {c : Nat} {ah : aHp} {st : List Value} {Q : Option Value → aHp → Prop} {a0 a1 a2 a3 a4 a5 : Option Value} {i : Int32} {a : Nat} : WP E c 255 46 [a0, a1, a2, a3, a4, a5] (.int i :: .ref a :: st) ah Q = WPo (gL E ah (.int i :: .ref a :: st)) (fun s9 => WP E c 255 47 [a0, a1, a2, a3, a4, a5] s9 ah Q) := wp_hr i255_46 rfl rfl rfl rfl rfl rfl rfl rfl
theorem i255_47 : insAt 255 47 = some (.lstore 4, 49) := by decide +kernel
theorem r255_47 {E : aEnv} {c : Nat} {ah : aHp} {st : List Value} {Q : Option Value → aHp → Prop} {a0 a1 a2 a3 a4 a5 : Option Value} {x : Int64} : WP E c 255 47 [a0, a1, a2, a3, a4, a5] (.long x :: st) ah Q = WP E c 255 49 [a0, a1, a2, kil a3, some (.long x), none] (st) ah Q := wp_s i255_47 rfl rfl rfl rfl
theorem i255_49 : insAt 255 49 = some (.aload 0, 50) := by decide +kernel
theorem r255_49 {E : aEnv} {c : Nat} {ah : aHp} {st : List Value} {Q : Option Value → aHp → Prop} {a1 a2 a3 a4 a5 : Option Value} {x : Nat} : WP E c 255 49 [some (.ref x), a1, a2, a3, a4, a5] (st) ah Q = WP E c 255 50 [some (.ref x), a1, a2, a3, a4, a5] (.ref x :: st) ah Q := wp_s i255_49 rfl rfl rfl rfl
theorem i255_50 : insAt 255 50 = some (.getfield 11432, 53) := by decide +kernel
theorem r255_50 {E : aEnv} {c : Nat} {ah : aHp} {st : List Value} {Q : Option Value → aHp → Prop} {a0 a1 a2 a3 a4 a5 : Option Value} {a : Nat} : WP E c 255 50 [a0, a1, a2, a3, a4, a5] (.ref a :: st) ah Q = WPo (oGF (hg E ah a) 11 43) (fun v => WP E c 255 53 [a0, a1, a2, a3, a4, a5] (v :: st) ah Q) := wp_getf i255_50
theorem i255_53 : insAt 255 53 = some (.iload 1, 54) := by decide +kernel
theorem r255_53 {E : aEnv} {c : Nat} {ah : aHp} {st : List Value} {Q : Option Value → aHp → Prop} {a0 a2 a3 a4 a5 : Option Value} {x : Int32} : WP E c 255 53 [a0, some (.int x), a2, a3, a4, a5] (st) ah Q = WP E c 255 54 [a0, some (.int x), a2, a3, a4, a5] (.int x :: st) ah Q := wp_s i255_53 rfl rfl rfl rfl
theorem i255_54 : insAt 255 54 = some (.iaload, 55) := by decide +kernel
theorem r255_54 {E : aEnv} {c : Nat} {ah : aHp} {st : List Value} {Q : Option Value → aHp → Prop} {a0 a1 a2 a3 a4 a5 : Option Value} {i : Int32} {a : Nat} : WP E c 255 54 [a0, a1, a2, a3, a4, a5] (.int i :: .ref a :: st) ah Q = WPo (gI E ah (.int i :: .ref a :: st)) (fun s9 => WP E c 255 55 [a0, a1, a2, a3, a4, a5] s9 ah Q) := wp_hr i255_54 rfl rfl rfl rfl rfl rfl rfl rfl
theorem i255_55 : insAt 255 55 = some (.tableswitch 171 1 5 #[88, 108, 128, 143, 156], 88) := by decide +kernel
theorem r255_55_1 {E : aEnv} {c : Nat} {ah : aHp} {st : List Value} {Q : Option Value → aHp → Prop} {a0 a1 a2 a3 a4 a5 : Option Value} : WP E c 255 55 [a0, a1, a2, a3, a4, a5] (.int 1 :: st) ah Q = WP E c 255 88 [a0, a1, a2, a3, a4, a5] st ah Q := wp_s i255_55 rfl rfl rfl rfl
theorem r255_55_2 {E : aEnv} {c : Nat} {ah : aHp} {st : List Value} {Q : Option Value → aHp → Prop} {a0 a1 a2 a3 a4 a5 : Option Value} : WP E c 255 55 [a0, a1, a2, a3, a4, a5] (.int 2 :: st) ah Q = WP E c 255 108 [a0, a1, a2, a3, a4, a5] st ah Q := wp_s i255_55 rfl rfl rfl rfl
theorem r255_55_3 {E : aEnv} {c : Nat} {ah : aHp} {st : List Value} {Q : Option Value → aHp → Prop} {a0 a1 a2 a3 a4 a5 : Option Value} : WP E c 255 55 [a0, a1, a2, a3, a4, a5] (.int 3 :: st) ah Q = WP E c 255 128 [a0, a1, a2, a3, a4, a5] st ah Q := wp_s i255_55 rfl rfl rfl rfl
theorem r255_55_4 {E : aEnv} {c : Nat} {ah : aHp} {st : List Value} {Q : Option Value → aHp → Prop} {a0 a1 a2 a3 a4 a5 : Option Value} : WP E c 255 55 [a0, a1, a2, a3, a4, a5] (.int 4 :: st) ah Q = WP E c 255 143 [a0, a1, a2, a3, a4, a5] st ah Q := wp_s i255_55 rfl rfl rfl rfl
theorem r255_55_5 {E : aEnv} {c : Nat} {ah : aHp} {st : List Value} {Q : Option Value → aHp → Prop} {a0 a1 a2 a3 a4 a5 : Option Value} : WP E c 255 55 [a0, a1, a2, a3, a4, a5] (.int 5 :: st) ah Q = WP E c 255 156 [a0, a1, a2, a3, a4, a5] st ah Q := wp_s i255_55 rfl rfl rfl rfl
theorem r255_55_d {E : aEnv} {c : Nat} {ah : aHp} {st : List Value} {Q : Option Value → aHp → Prop} {a0 a1 a2 a3 a4 a5 : Option Value} {x : Int32} (hx : x.toInt < 1 ∨ 5 < x.toInt) : WP E c 255 55 [a0, a1, a2, a3, a4, a5] (.int x :: st) ah Q = WP E c 255 171 [a0, a1, a2, a3, a4, a5] st ah Q := wp_st (z := (171, [a0, a1, a2, a3, a4, a5], st, ah)) i255_55 rfl rfl rfl (by simp only [st1, skA, ldA, soA, jpA, jT, if_pos hx]; rfl)
theorem i255_88 : insAt 255 88 = some (.lload 2, 89) := by decide +kernel
theorem r255_88 {E : aEnv} {c : Nat} {ah : aHp} {st : List Value} {Q : Option Value → aHp → Prop} {a0 a1 a3 a4 a5 : Option Value} {x : Int64} : WP E c 255 88 [a0, a1, some (.long x), a3, a4, a5] (st) ah Q = WP E c 255 89 [a0, a1, some (.long x), a3, a4, a5] (.long x :: st) ah Q := wp_s i255_88 rfl rfl rfl rfl
theorem i255_89 : insAt 255 89 = some (.lload 4, 91) := by decide +kernel
theorem r255_89 {E : aEnv} {c : Nat} {ah : aHp} {st : List Value} {Q : Option Value → aHp → Prop} {a0 a1 a2 a3 a5 : Option Value} {x : Int64} : WP E c 255 89 [a0, a1, a2, a3, some (.long x), a5] (st) ah Q = WP E c 255 91 [a0, a1, a2, a3, some (.long x), a5] (.long x :: st) ah Q := wp_s i255_89 rfl rfl rfl rfl
theorem i255_91 : insAt 255 91 = some (.ladd, 92) := by decide +kernel
theorem r255_91 {E : aEnv} {c : Nat} {ah : aHp} {st : List Value} {Q : Option Value → aHp → Prop} {a0 a1 a2 a3 a4 a5 : Option Value} {x y : Int64} : WP E c 255 91 [a0, a1, a2, a3, a4, a5] (.long y :: .long x :: st) ah Q = WP E c 255 92 [a0, a1, a2, a3, a4, a5] (.long (x + y) :: st) ah Q := wp_s i255_91 rfl rfl rfl rfl
theorem i255_92 : insAt 255 92 = some (.invokestatic 291, 95) := by decide +kernel
theorem r255_92 {E : aEnv} {c : Nat} {ah ah1 : aHp} {r : Option Value} {st : List Value} {Q : Option Value → aHp → Prop} {a0 a1 a2 a3 a4 a5 : Option Value} {p0 : Int64} (h : EV E c 291 [.long p0] ah r ah1) (h3 : wds st ≤ 8) : WP E (c + 1) 255 92 [a0, a1, a2, a3, a4, a5] (.long p0 :: st) ah Q = WP E (c + 1) 255 95 [a0, a1, a2, a3, a4, a5] (r.toList ++ st) ah1 Q := wp_call (As := [.long p0]) i255_92 (fun _ => rfl) rfl mr291.1 rfl h3 (by rw [mr291.2.1]; exact Nat.le_of_ble_eq_true rfl) h
theorem i255_95 : insAt 255 95 = some (.jsr_w 999999999999, 98) := by decide +kernel
theorem r255_95 {E : aEnv} {c : Nat} {ah : aHp} {st : List Value} {Q : Option Value → aHp → Prop} {a0 a1 a2 a3 a4 a5 : Option Value} : WP E c 255 95 [a0, a1, a2, a3, a4, a5] (st) ah Q = WP E c 255 98 [a0, a1, a2, a3, a4, a5] (.long (999999999999) :: st) ah Q := wp_s i255_95 rfl rfl rfl rfl
theorem i255_98 : insAt 255 98 = some (.lcmp, 99) := by decide +kernel
theorem r255_98 {E : aEnv} {c : Nat} {ah : aHp} {st : List Value} {Q : Option Value → aHp → Prop} {a0 a1 a2 a3 a4 a5 : Option Value} {x y : Int64} : WP E c 255 98 [a0, a1, a2, a3, a4, a5] (.long y :: .long x :: st) ah Q = WP E c 255 99 [a0, a1, a2, a3, a4, a5] (.int (lg_cmp x y) :: st) ah Q := wp_s i255_98 rfl rfl rfl rfl
theorem i255_99 : insAt 255 99 = some (.ifCond .le 106, 102) := by decide +kernel
theorem r255_99 {E : aEnv} {c : Nat} {ah : aHp} {st : List Value} {Q : Option Value → aHp → Prop} {a0 a1 a2 a3 a4 a5 : Option Value} {x : Int32} : WP E c 255 99 [a0, a1, a2, a3, a4, a5] (.int x :: st) ah Q = if x ≤ 0 then WP E c 255 106 [a0, a1, a2, a3, a4, a5] st ah Q else WP E c 255 102 [a0, a1, a2, a3, a4, a5] st ah Q := wp_j i255_99 rfl rfl rfl rfl
theorem i255_102 : insAt 255 102 = some (.iconst 1, 103) := by decide +kernel
theorem r255_102 {E : aEnv} {c : Nat} {ah : aHp} {st : List Value} {Q : Option Value → aHp → Prop} {a0 a1 a2 a3 a4 a5 : Option Value} : WP E c 255 102 [a0, a1, a2, a3, a4, a5] (st) ah Q = WP E c 255 103 [a0, a1, a2, a3, a4, a5] (.int (1) :: st) ah Q := wp_s i255_102 rfl rfl rfl rfl
theorem i255_103 : insAt 255 103 = some (.goto 107, 106) := by decide +kernel
theorem r255_103 {E : aEnv} {c : Nat} {ah : aHp} {st : List Value} {Q : Option Value → aHp → Prop} {a0 a1 a2 a3 a4 a5 : Option Value} : WP E c 255 103 [a0, a1, a2, a3, a4, a5] (st) ah Q = WP E c 255 107 [a0, a1, a2, a3, a4, a5] st ah Q := wp_s i255_103 rfl rfl rfl rfl
theorem i255_106 : insAt 255 106 = some (.iconst 0, 107) := by decide +kernel
theorem r255_106 {E : aEnv} {c : Nat} {ah : aHp} {st : List Value} {Q : Option Value → aHp → Prop} {a0 a1 a2 a3 a4 a5 : Option Value} : WP E c 255 106 [a0, a1, a2, a3, a4, a5] (st) ah Q = WP E c 255 107 [a0, a1, a2, a3, a4, a5] (.int (0) :: st) ah Q := wp_s i255_106 rfl rfl rfl rfl
theorem i255_107 : insAt 255 107 = some (.ireturn, 108) := by decide +kernel
theorem r255_107 {E : aEnv} {c : Nat} {ah : aHp} {Q : Option Value → aHp → Prop} {a0 a1 a2 a3 a4 a5 : Option Value} {x : Int32} : WP E c 255 107 [a0, a1, a2, a3, a4, a5] ([.int x]) ah Q = Q (some (.int x)) ah := wp_rt i255_107 rfl
theorem i255_108 : insAt 255 108 = some (.lload 2, 109) := by decide +kernel
theorem r255_108 {E : aEnv} {c : Nat} {ah : aHp} {st : List Value} {Q : Option Value → aHp → Prop} {a0 a1 a3 a4 a5 : Option Value} {x : Int64} : WP E c 255 108 [a0, a1, some (.long x), a3, a4, a5] (st) ah Q = WP E c 255 109 [a0, a1, some (.long x), a3, a4, a5] (.long x :: st) ah Q := wp_s i255_108 rfl rfl rfl rfl
theorem i255_109 : insAt 255 109 = some (.lload 4, 111) := by decide +kernel
theorem r255_109 {E : aEnv} {c : Nat} {ah : aHp} {st : List Value} {Q : Option Value → aHp → Prop} {a0 a1 a2 a3 a5 : Option Value} {x : Int64} : WP E c 255 109 [a0, a1, a2, a3, some (.long x), a5] (st) ah Q = WP E c 255 111 [a0, a1, a2, a3, some (.long x), a5] (.long x :: st) ah Q := wp_s i255_109 rfl rfl rfl rfl
theorem i255_111 : insAt 255 111 = some (.lsub, 112) := by decide +kernel
theorem r255_111 {E : aEnv} {c : Nat} {ah : aHp} {st : List Value} {Q : Option Value → aHp → Prop} {a0 a1 a2 a3 a4 a5 : Option Value} {x y : Int64} : WP E c 255 111 [a0, a1, a2, a3, a4, a5] (.long y :: .long x :: st) ah Q = WP E c 255 112 [a0, a1, a2, a3, a4, a5] (.long (x - y) :: st) ah Q := wp_s i255_111 rfl rfl rfl rfl
theorem i255_112 : insAt 255 112 = some (.invokestatic 291, 115) := by decide +kernel
theorem r255_112 {E : aEnv} {c : Nat} {ah ah1 : aHp} {r : Option Value} {st : List Value} {Q : Option Value → aHp → Prop} {a0 a1 a2 a3 a4 a5 : Option Value} {p0 : Int64} (h : EV E c 291 [.long p0] ah r ah1) (h3 : wds st ≤ 8) : WP E (c + 1) 255 112 [a0, a1, a2, a3, a4, a5] (.long p0 :: st) ah Q = WP E (c + 1) 255 115 [a0, a1, a2, a3, a4, a5] (r.toList ++ st) ah1 Q := wp_call (As := [.long p0]) i255_112 (fun _ => rfl) rfl mr291.1 rfl h3 (by rw [mr291.2.1]; exact Nat.le_of_ble_eq_true rfl) h
theorem i255_115 : insAt 255 115 = some (.jsr_w 999999999999, 118) := by decide +kernel
theorem r255_115 {E : aEnv} {c : Nat} {ah : aHp} {st : List Value} {Q : Option Value → aHp → Prop} {a0 a1 a2 a3 a4 a5 : Option Value} : WP E c 255 115 [a0, a1, a2, a3, a4, a5] (st) ah Q = WP E c 255 118 [a0, a1, a2, a3, a4, a5] (.long (999999999999) :: st) ah Q := wp_s i255_115 rfl rfl rfl rfl
theorem i255_118 : insAt 255 118 = some (.lcmp, 119) := by decide +kernel
theorem r255_118 {E : aEnv} {c : Nat} {ah : aHp} {st : List Value} {Q : Option Value → aHp → Prop} {a0 a1 a2 a3 a4 a5 : Option Value} {x y : Int64} : WP E c 255 118 [a0, a1, a2, a3, a4, a5] (.long y :: .long x :: st) ah Q = WP E c 255 119 [a0, a1, a2, a3, a4, a5] (.int (lg_cmp x y) :: st) ah Q := wp_s i255_118 rfl rfl rfl rfl
theorem i255_119 : insAt 255 119 = some (.ifCond .le 126, 122) := by decide +kernel
theorem r255_119 {E : aEnv} {c : Nat} {ah : aHp} {st : List Value} {Q : Option Value → aHp → Prop} {a0 a1 a2 a3 a4 a5 : Option Value} {x : Int32} : WP E c 255 119 [a0, a1, a2, a3, a4, a5] (.int x :: st) ah Q = if x ≤ 0 then WP E c 255 126 [a0, a1, a2, a3, a4, a5] st ah Q else WP E c 255 122 [a0, a1, a2, a3, a4, a5] st ah Q := wp_j i255_119 rfl rfl rfl rfl
theorem i255_122 : insAt 255 122 = some (.iconst 1, 123) := by decide +kernel
theorem r255_122 {E : aEnv} {c : Nat} {ah : aHp} {st : List Value} {Q : Option Value → aHp → Prop} {a0 a1 a2 a3 a4 a5 : Option Value} : WP E c 255 122 [a0, a1, a2, a3, a4, a5] (st) ah Q = WP E c 255 123 [a0, a1, a2, a3, a4, a5] (.int (1) :: st) ah Q := wp_s i255_122 rfl rfl rfl rfl
theorem i255_123 : insAt 255 123 = some (.goto 127, 126) := by decide +kernel
theorem r255_123 {E : aEnv} {c : Nat} {ah : aHp} {st : List Value} {Q : Option Value → aHp → Prop} {a0 a1 a2 a3 a4 a5 : Option Value} : WP E c 255 123 [a0, a1, a2, a3, a4, a5] (st) ah Q = WP E c 255 127 [a0, a1, a2, a3, a4, a5] st ah Q := wp_s i255_123 rfl rfl rfl rfl
theorem i255_126 : insAt 255 126 = some (.iconst 0, 127) := by decide +kernel
theorem r255_126 {E : aEnv} {c : Nat} {ah : aHp} {st : List Value} {Q : Option Value → aHp → Prop} {a0 a1 a2 a3 a4 a5 : Option Value} : WP E c 255 126 [a0, a1, a2, a3, a4, a5] (st) ah Q = WP E c 255 127 [a0, a1, a2, a3, a4, a5] (.int (0) :: st) ah Q := wp_s i255_126 rfl rfl rfl rfl
theorem i255_127 : insAt 255 127 = some (.ireturn, 128) := by decide +kernel
theorem r255_127 {E : aEnv} {c : Nat} {ah : aHp} {Q : Option Value → aHp → Prop} {a0 a1 a2 a3 a4 a5 : Option Value} {x : Int32} : WP E c 255 127 [a0, a1, a2, a3, a4, a5] ([.int x]) ah Q = Q (some (.int x)) ah := wp_rt i255_127 rfl
theorem i255_128 : insAt 255 128 = some (.lload 2, 129) := by decide +kernel
theorem r255_128 {E : aEnv} {c : Nat} {ah : aHp} {st : List Value} {Q : Option Value → aHp → Prop} {a0 a1 a3 a4 a5 : Option Value} {x : Int64} : WP E c 255 128 [a0, a1, some (.long x), a3, a4, a5] (st) ah Q = WP E c 255 129 [a0, a1, some (.long x), a3, a4, a5] (.long x :: st) ah Q := wp_s i255_128 rfl rfl rfl rfl
theorem i255_129 : insAt 255 129 = some (.lload 4, 131) := by decide +kernel
theorem r255_129 {E : aEnv} {c : Nat} {ah : aHp} {st : List Value} {Q : Option Value → aHp → Prop} {a0 a1 a2 a3 a5 : Option Value} {x : Int64} : WP E c 255 129 [a0, a1, a2, a3, some (.long x), a5] (st) ah Q = WP E c 255 131 [a0, a1, a2, a3, some (.long x), a5] (.long x :: st) ah Q := wp_s i255_129 rfl rfl rfl rfl
theorem i255_131 : insAt 255 131 = some (.invokestatic 254, 134) := by decide +kernel
theorem r255_131 {E : aEnv} {c : Nat} {ah ah1 : aHp} {r : Option Value} {st : List Value} {Q : Option Value → aHp → Prop} {a0 a1 a2 a3 a4 a5 : Option Value} {p0 : Int64} {p1 : Int64} (h : EV E c 254 [.long p0, .long p1] ah r ah1) (h3 : wds st ≤ 8) : WP E (c + 1) 255 131 [a0, a1, a2, a3, a4, a5] (.long p1 :: .long p0 :: st) ah Q = WP E (c + 1) 255 134 [a0, a1, a2, a3, a4, a5] (r.toList ++ st) ah1 Q := wp_call (As := [.long p0, .long p1]) i255_131 (fun _ => rfl) rfl mr254.1 rfl h3 (by rw [mr254.2.1]; exact Nat.le_of_ble_eq_true rfl) h
theorem i255_134 : insAt 255 134 = some (.ifCond .eq 141, 137) := by decide +kernel
theorem r255_134 {E : aEnv} {c : Nat} {ah : aHp} {st : List Value} {Q : Option Value → aHp → Prop} {a0 a1 a2 a3 a4 a5 : Option Value} {x : Int32} : WP E c 255 134 [a0, a1, a2, a3, a4, a5] (.int x :: st) ah Q = if x = 0 then WP E c 255 141 [a0, a1, a2, a3, a4, a5] st ah Q else WP E c 255 137 [a0, a1, a2, a3, a4, a5] st ah Q := wp_j i255_134 rfl rfl rfl rfl
theorem i255_137 : insAt 255 137 = some (.iconst 1, 138) := by decide +kernel
theorem r255_137 {E : aEnv} {c : Nat} {ah : aHp} {st : List Value} {Q : Option Value → aHp → Prop} {a0 a1 a2 a3 a4 a5 : Option Value} : WP E c 255 137 [a0, a1, a2, a3, a4, a5] (st) ah Q = WP E c 255 138 [a0, a1, a2, a3, a4, a5] (.int (1) :: st) ah Q := wp_s i255_137 rfl rfl rfl rfl
theorem i255_138 : insAt 255 138 = some (.goto 142, 141) := by decide +kernel
theorem r255_138 {E : aEnv} {c : Nat} {ah : aHp} {st : List Value} {Q : Option Value → aHp → Prop} {a0 a1 a2 a3 a4 a5 : Option Value} : WP E c 255 138 [a0, a1, a2, a3, a4, a5] (st) ah Q = WP E c 255 142 [a0, a1, a2, a3, a4, a5] st ah Q := wp_s i255_138 rfl rfl rfl rfl
theorem i255_141 : insAt 255 141 = some (.iconst 0, 142) := by decide +kernel
theorem r255_141 {E : aEnv} {c : Nat} {ah : aHp} {st : List Value} {Q : Option Value → aHp → Prop} {a0 a1 a2 a3 a4 a5 : Option Value} : WP E c 255 141 [a0, a1, a2, a3, a4, a5] (st) ah Q = WP E c 255 142 [a0, a1, a2, a3, a4, a5] (.int (0) :: st) ah Q := wp_s i255_141 rfl rfl rfl rfl
theorem i255_142 : insAt 255 142 = some (.ireturn, 143) := by decide +kernel
theorem r255_142 {E : aEnv} {c : Nat} {ah : aHp} {Q : Option Value → aHp → Prop} {a0 a1 a2 a3 a4 a5 : Option Value} {x : Int32} : WP E c 255 142 [a0, a1, a2, a3, a4, a5] ([.int x]) ah Q = Q (some (.int x)) ah := wp_rt i255_142 rfl
theorem i255_143 : insAt 255 143 = some (.lload 4, 145) := by decide +kernel
theorem r255_143 {E : aEnv} {c : Nat} {ah : aHp} {st : List Value} {Q : Option Value → aHp → Prop} {a0 a1 a2 a3 a5 : Option Value} {x : Int64} : WP E c 255 143 [a0, a1, a2, a3, some (.long x), a5] (st) ah Q = WP E c 255 145 [a0, a1, a2, a3, some (.long x), a5] (.long x :: st) ah Q := wp_s i255_143 rfl rfl rfl rfl
theorem i255_145 : insAt 255 145 = some (.jsr_w 0, 146) := by decide +kernel
theorem r255_145 {E : aEnv} {c : Nat} {ah : aHp} {st : List Value} {Q : Option Value → aHp → Prop} {a0 a1 a2 a3 a4 a5 : Option Value} : WP E c 255 145 [a0, a1, a2, a3, a4, a5] (st) ah Q = WP E c 255 146 [a0, a1, a2, a3, a4, a5] (.long (0) :: st) ah Q := wp_s i255_145 rfl rfl rfl rfl
theorem i255_146 : insAt 255 146 = some (.lcmp, 147) := by decide +kernel
theorem r255_146 {E : aEnv} {c : Nat} {ah : aHp} {st : List Value} {Q : Option Value → aHp → Prop} {a0 a1 a2 a3 a4 a5 : Option Value} {x y : Int64} : WP E c 255 146 [a0, a1, a2, a3, a4, a5] (.long y :: .long x :: st) ah Q = WP E c 255 147 [a0, a1, a2, a3, a4, a5] (.int (lg_cmp x y) :: st) ah Q := wp_s i255_146 rfl rfl rfl rfl
theorem i255_147 : insAt 255 147 = some (.ifCond .ne 154, 150) := by decide +kernel
theorem r255_147 {E : aEnv} {c : Nat} {ah : aHp} {st : List Value} {Q : Option Value → aHp → Prop} {a0 a1 a2 a3 a4 a5 : Option Value} {x : Int32} : WP E c 255 147 [a0, a1, a2, a3, a4, a5] (.int x :: st) ah Q = if ¬ x = 0 then WP E c 255 154 [a0, a1, a2, a3, a4, a5] st ah Q else WP E c 255 150 [a0, a1, a2, a3, a4, a5] st ah Q := wp_j i255_147 rfl rfl rfl rfl
theorem i255_150 : insAt 255 150 = some (.iconst 2, 151) := by decide +kernel
theorem r255_150 {E : aEnv} {c : Nat} {ah : aHp} {st : List Value} {Q : Option Value → aHp → Prop} {a0 a1 a2 a3 a4 a5 : Option Value} : WP E c 255 150 [a0, a1, a2, a3, a4, a5] (st) ah Q = WP E c 255 151 [a0, a1, a2, a3, a4, a5] (.int (2) :: st) ah Q := wp_s i255_150 rfl rfl rfl rfl
theorem i255_151 : insAt 255 151 = some (.goto 155, 154) := by decide +kernel
theorem r255_151 {E : aEnv} {c : Nat} {ah : aHp} {st : List Value} {Q : Option Value → aHp → Prop} {a0 a1 a2 a3 a4 a5 : Option Value} : WP E c 255 151 [a0, a1, a2, a3, a4, a5] (st) ah Q = WP E c 255 155 [a0, a1, a2, a3, a4, a5] st ah Q := wp_s i255_151 rfl rfl rfl rfl
theorem i255_154 : insAt 255 154 = some (.iconst 0, 155) := by decide +kernel
theorem r255_154 {E : aEnv} {c : Nat} {ah : aHp} {st : List Value} {Q : Option Value → aHp → Prop} {a0 a1 a2 a3 a4 a5 : Option Value} : WP E c 255 154 [a0, a1, a2, a3, a4, a5] (st) ah Q = WP E c 255 155 [a0, a1, a2, a3, a4, a5] (.int (0) :: st) ah Q := wp_s i255_154 rfl rfl rfl rfl
theorem i255_155 : insAt 255 155 = some (.ireturn, 156) := by decide +kernel
theorem r255_155 {E : aEnv} {c : Nat} {ah : aHp} {Q : Option Value → aHp → Prop} {a0 a1 a2 a3 a4 a5 : Option Value} {x : Int32} : WP E c 255 155 [a0, a1, a2, a3, a4, a5] ([.int x]) ah Q = Q (some (.int x)) ah := wp_rt i255_155 rfl
theorem i255_156 : insAt 255 156 = some (.aload 0, 157) := by decide +kernel
theorem r255_156 {E : aEnv} {c : Nat} {ah : aHp} {st : List Value} {Q : Option Value → aHp → Prop} {a1 a2 a3 a4 a5 : Option Value} {x : Nat} : WP E c 255 156 [some (.ref x), a1, a2, a3, a4, a5] (st) ah Q = WP E c 255 157 [some (.ref x), a1, a2, a3, a4, a5] (.ref x :: st) ah Q := wp_s i255_156 rfl rfl rfl rfl
theorem i255_157 : insAt 255 157 = some (.getfield 11620, 160) := by decide +kernel
theorem r255_157 {E : aEnv} {c : Nat} {ah : aHp} {st : List Value} {Q : Option Value → aHp → Prop} {a0 a1 a2 a3 a4 a5 : Option Value} {a : Nat} : WP E c 255 157 [a0, a1, a2, a3, a4, a5] (.ref a :: st) ah Q = WPo (oGF (hg E ah a) 11 62) (fun v => WP E c 255 160 [a0, a1, a2, a3, a4, a5] (v :: st) ah Q) := wp_getf i255_157
theorem i255_160 : insAt 255 160 = some (.iconst 40, 162) := by decide +kernel
theorem r255_160 {E : aEnv} {c : Nat} {ah : aHp} {st : List Value} {Q : Option Value → aHp → Prop} {a0 a1 a2 a3 a4 a5 : Option Value} : WP E c 255 160 [a0, a1, a2, a3, a4, a5] (st) ah Q = WP E c 255 162 [a0, a1, a2, a3, a4, a5] (.int (40) :: st) ah Q := wp_s i255_160 rfl rfl rfl rfl
theorem i255_162 : insAt 255 162 = some (.if_icmp .ne 169, 165) := by decide +kernel
theorem r255_162 {E : aEnv} {c : Nat} {ah : aHp} {st : List Value} {Q : Option Value → aHp → Prop} {a0 a1 a2 a3 a4 a5 : Option Value} {x y : Int32} : WP E c 255 162 [a0, a1, a2, a3, a4, a5] (.int y :: .int x :: st) ah Q = if ¬ x = y then WP E c 255 169 [a0, a1, a2, a3, a4, a5] st ah Q else WP E c 255 165 [a0, a1, a2, a3, a4, a5] st ah Q := wp_j i255_162 rfl rfl rfl rfl
theorem i255_165 : insAt 255 165 = some (.iconst 3, 166) := by decide +kernel
theorem r255_165 {E : aEnv} {c : Nat} {ah : aHp} {st : List Value} {Q : Option Value → aHp → Prop} {a0 a1 a2 a3 a4 a5 : Option Value} : WP E c 255 165 [a0, a1, a2, a3, a4, a5] (st) ah Q = WP E c 255 166 [a0, a1, a2, a3, a4, a5] (.int (3) :: st) ah Q := wp_s i255_165 rfl rfl rfl rfl
theorem i255_166 : insAt 255 166 = some (.goto 170, 169) := by decide +kernel
theorem r255_166 {E : aEnv} {c : Nat} {ah : aHp} {st : List Value} {Q : Option Value → aHp → Prop} {a0 a1 a2 a3 a4 a5 : Option Value} : WP E c 255 166 [a0, a1, a2, a3, a4, a5] (st) ah Q = WP E c 255 170 [a0, a1, a2, a3, a4, a5] st ah Q := wp_s i255_166 rfl rfl rfl rfl
theorem i255_169 : insAt 255 169 = some (.iconst 0, 170) := by decide +kernel
theorem r255_169 {E : aEnv} {c : Nat} {ah : aHp} {st : List Value} {Q : Option Value → aHp → Prop} {a0 a1 a2 a3 a4 a5 : Option Value} : WP E c 255 169 [a0, a1, a2, a3, a4, a5] (st) ah Q = WP E c 255 170 [a0, a1, a2, a3, a4, a5] (.int (0) :: st) ah Q := wp_s i255_169 rfl rfl rfl rfl
theorem i255_170 : insAt 255 170 = some (.ireturn, 171) := by decide +kernel
theorem r255_170 {E : aEnv} {c : Nat} {ah : aHp} {Q : Option Value → aHp → Prop} {a0 a1 a2 a3 a4 a5 : Option Value} {x : Int32} : WP E c 255 170 [a0, a1, a2, a3, a4, a5] ([.int x]) ah Q = Q (some (.int x)) ah := wp_rt i255_170 rfl
theorem i255_171 : insAt 255 171 = some (.iconst 0, 172) := by decide +kernel
theorem r255_171 {E : aEnv} {c : Nat} {ah : aHp} {st : List Value} {Q : Option Value → aHp → Prop} {a0 a1 a2 a3 a4 a5 : Option Value} : WP E c 255 171 [a0, a1, a2, a3, a4, a5] (st) ah Q = WP E c 255 172 [a0, a1, a2, a3, a4, a5] (.int (0) :: st) ah Q := wp_s i255_171 rfl rfl rfl rfl
theorem i255_172 : insAt 255 172 = some (.ireturn, 173) := by decide +kernel
theorem r255_172 {E : aEnv} {c : Nat} {ah : aHp} {Q : Option Value → aHp → Prop} {a0 a1 a2 a3 a4 a5 : Option Value} {x : Int32} : WP E c 255 172 [a0, a1, a2, a3, a4, a5] ([.int x]) ah Q = Q (some (.int x)) ah := wp_rt i255_172 rfl
theorem e256 {E : aEnv} {c : Nat} {ah ahF : aHp} {r : Option Value} {p0 : Nat} {p1 : Int32} {p2 : Int64} (h : WP E c 256 0 [some (.ref p0), some (.int p1), some (.long p2), none] [] ah (fun r1 x1 => r1 = r ∧ x1 = ahF)) : EV E c 256 [.ref p0, .int p1, .long p2] ah r ahF := EV.of (by rw [mr256.2.1]; exact h)
theorem i256_0 : insAt 256 0 = some (.aload 0, 1) := by decide +kernel
theorem r256_0 {E : aEnv} {c : Nat} {ah : aHp} {st : List Value} {Q : Option Value → aHp → Prop} {a1 a2 a3 : Option Value} {x : Nat} : WP E c 256 0 [some (.ref x), a1, a2, a3] (st) ah Q = WP E c 256 1 [some (.ref x), a1, a2, a3] (.ref x :: st) ah Q := wp_s i256_0 rfl rfl rfl rfl
theorem i256_1 : insAt 256 1 = some (.getfield 11582, 4) := by decide +kernel
theorem r256_1 {E : aEnv} {c : Nat} {ah : aHp} {st : List Value} {Q : Option Value → aHp → Prop} {a0 a1 a2 a3 : Option Value} {a : Nat} : WP E c 256 1 [a0, a1, a2, a3] (.ref a :: st) ah Q = WPo (oGF (hg E ah a) 11 58) (fun v => WP E c 256 4 [a0, a1, a2, a3] (v :: st) ah Q) := wp_getf i256_1
theorem i256_4 : insAt 256 4 = some (.aload 0, 5) := by decide +kernel
theorem r256_4 {E : aEnv} {c : Nat} {ah : aHp} {st : List Value} {Q : Option Value → aHp → Prop} {a1 a2 a3 : Option Value} {x : Nat} : WP E c 256 4 [some (.ref x), a1, a2, a3] (st) ah Q = WP E c 256 5 [some (.ref x), a1, a2, a3] (.ref x :: st) ah Q := wp_s i256_4 rfl rfl rfl rfl
theorem i256_5 : insAt 256 5 = some (.getfield 11462, 8) := by decide +kernel
theorem r256_5 {E : aEnv} {c : Nat} {ah : aHp} {st : List Value} {Q : Option Value → aHp → Prop} {a0 a1 a2 a3 : Option Value} {a : Nat} : WP E c 256 5 [a0, a1, a2, a3] (.ref a :: st) ah Q = WPo (oGF (hg E ah a) 11 46) (fun v => WP E c 256 8 [a0, a1, a2, a3] (v :: st) ah Q) := wp_getf i256_5
theorem i256_8 : insAt 256 8 = some (.iload 1, 9) := by decide +kernel
theorem r256_8 {E : aEnv} {c : Nat} {ah : aHp} {st : List Value} {Q : Option Value → aHp → Prop} {a0 a2 a3 : Option Value} {x : Int32} : WP E c 256 8 [a0, some (.int x), a2, a3] (st) ah Q = WP E c 256 9 [a0, some (.int x), a2, a3] (.int x :: st) ah Q := wp_s i256_8 rfl rfl rfl rfl
theorem i256_9 : insAt 256 9 = some (.iaload, 10) := by decide +kernel
theorem r256_9 {E : aEnv} {c : Nat} {ah : aHp} {st : List Value} {Q : Option Value → aHp → Prop} {a0 a1 a2 a3 : Option Value} {i : Int32} {a : Nat} : WP E c 256 9 [a0, a1, a2, a3] (.int i :: .ref a :: st) ah Q = WPo (gI E ah (.int i :: .ref a :: st)) (fun s9 => WP E c 256 10 [a0, a1, a2, a3] s9 ah Q) := wp_hr i256_9 rfl rfl rfl rfl rfl rfl rfl rfl
theorem i256_10 : insAt 256 10 = some (.lload 2, 11) := by decide +kernel
theorem r256_10 {E : aEnv} {c : Nat} {ah : aHp} {st : List Value} {Q : Option Value → aHp → Prop} {a0 a1 a3 : Option Value} {x : Int64} : WP E c 256 10 [a0, a1, some (.long x), a3] (st) ah Q = WP E c 256 11 [a0, a1, some (.long x), a3] (.long x :: st) ah Q := wp_s i256_10 rfl rfl rfl rfl
theorem i256_11 : insAt 256 11 = some (.lastore, 12) := by decide +kernel
theorem r256_11 {E : aEnv} {c : Nat} {ah : aHp} {st : List Value} {Q : Option Value → aHp → Prop} {a0 a1 a2 a3 : Option Value} {x : Int64} {i : Int32} {a : Nat} : WP E c 256 11 [a0, a1, a2, a3] (.long x :: .int i :: .ref a :: st) ah Q = WPo (pL E ah (.long x :: .int i :: .ref a :: st)) (fun q9 => WP E c 256 12 [a0, a1, a2, a3] q9.1 q9.2 Q) := wp_hw i256_11 rfl rfl rfl rfl rfl rfl rfl rfl
theorem i256_12 : insAt 256 12 = some (.aload 0, 13) := by decide +kernel
theorem r256_12 {E : aEnv} {c : Nat} {ah : aHp} {st : List Value} {Q : Option Value → aHp → Prop} {a1 a2 a3 : Option Value} {x : Nat} : WP E c 256 12 [some (.ref x), a1, a2, a3] (st) ah Q = WP E c 256 13 [some (.ref x), a1, a2, a3] (.ref x :: st) ah Q := wp_s i256_12 rfl rfl rfl rfl
theorem i256_13 : insAt 256 13 = some (.lload 2, 14) := by decide +kernel
theorem r256_13 {E : aEnv} {c : Nat} {ah : aHp} {st : List Value} {Q : Option Value → aHp → Prop} {a0 a1 a3 : Option Value} {x : Int64} : WP E c 256 13 [a0, a1, some (.long x), a3] (st) ah Q = WP E c 256 14 [a0, a1, some (.long x), a3] (.long x :: st) ah Q := wp_s i256_13 rfl rfl rfl rfl
theorem i256_14 : insAt 256 14 = some (.jsr_w 0, 15) := by decide +kernel
theorem r256_14 {E : aEnv} {c : Nat} {ah : aHp} {st : List Value} {Q : Option Value → aHp → Prop} {a0 a1 a2 a3 : Option Value} : WP E c 256 14 [a0, a1, a2, a3] (st) ah Q = WP E c 256 15 [a0, a1, a2, a3] (.long (0) :: st) ah Q := wp_s i256_14 rfl rfl rfl rfl
theorem i256_15 : insAt 256 15 = some (.lcmp, 16) := by decide +kernel
theorem r256_15 {E : aEnv} {c : Nat} {ah : aHp} {st : List Value} {Q : Option Value → aHp → Prop} {a0 a1 a2 a3 : Option Value} {x y : Int64} : WP E c 256 15 [a0, a1, a2, a3] (.long y :: .long x :: st) ah Q = WP E c 256 16 [a0, a1, a2, a3] (.int (lg_cmp x y) :: st) ah Q := wp_s i256_15 rfl rfl rfl rfl
theorem i256_16 : insAt 256 16 = some (.ifCond .ge 23, 19) := by decide +kernel
theorem r256_16 {E : aEnv} {c : Nat} {ah : aHp} {st : List Value} {Q : Option Value → aHp → Prop} {a0 a1 a2 a3 : Option Value} {x : Int32} : WP E c 256 16 [a0, a1, a2, a3] (.int x :: st) ah Q = if 0 ≤ x then WP E c 256 23 [a0, a1, a2, a3] st ah Q else WP E c 256 19 [a0, a1, a2, a3] st ah Q := wp_j i256_16 rfl rfl rfl rfl
theorem i256_19 : insAt 256 19 = some (.iconst 1, 20) := by decide +kernel
theorem r256_19 {E : aEnv} {c : Nat} {ah : aHp} {st : List Value} {Q : Option Value → aHp → Prop} {a0 a1 a2 a3 : Option Value} : WP E c 256 19 [a0, a1, a2, a3] (st) ah Q = WP E c 256 20 [a0, a1, a2, a3] (.int (1) :: st) ah Q := wp_s i256_19 rfl rfl rfl rfl
theorem i256_20 : insAt 256 20 = some (.goto 24, 23) := by decide +kernel
theorem r256_20 {E : aEnv} {c : Nat} {ah : aHp} {st : List Value} {Q : Option Value → aHp → Prop} {a0 a1 a2 a3 : Option Value} : WP E c 256 20 [a0, a1, a2, a3] (st) ah Q = WP E c 256 24 [a0, a1, a2, a3] st ah Q := wp_s i256_20 rfl rfl rfl rfl
theorem i256_23 : insAt 256 23 = some (.iconst 0, 24) := by decide +kernel
theorem r256_23 {E : aEnv} {c : Nat} {ah : aHp} {st : List Value} {Q : Option Value → aHp → Prop} {a0 a1 a2 a3 : Option Value} : WP E c 256 23 [a0, a1, a2, a3] (st) ah Q = WP E c 256 24 [a0, a1, a2, a3] (.int (0) :: st) ah Q := wp_s i256_23 rfl rfl rfl rfl
theorem i256_24 : insAt 256 24 = some (.putfield 11613, 27) := by decide +kernel
theorem r256_24 {E : aEnv} {c : Nat} {ah : aHp} {st : List Value} {Q : Option Value → aHp → Prop} {a0 a1 a2 a3 : Option Value} {a : Nat} {v : Value} : WP E c 256 24 [a0, a1, a2, a3] (v :: .ref a :: st) ah Q = WPo (oPF (hg E ah a) 11613 v) (fun e => WP E c 256 27 [a0, a1, a2, a3] st (hs E ah a e) Q) := wp_putf i256_24
theorem i256_27 : insAt 256 27 = some (.return_, 28) := by decide +kernel
theorem r256_27 {E : aEnv} {c : Nat} {ah : aHp} {Q : Option Value → aHp → Prop} {a0 a1 a2 a3 : Option Value} : WP E c 256 27 [a0, a1, a2, a3] ([]) ah Q = Q none ah := wp_rt i256_27 rfl
theorem e257 {E : aEnv} {c : Nat} {ah ahF : aHp} {r : Option Value} {p0 : Nat} {p1 : Int32} (h : WP E c 257 0 [some (.ref p0), some (.int p1), none, none, none, none, none] [] ah (fun r1 x1 => r1 = r ∧ x1 = ahF)) : EV E c 257 [.ref p0, .int p1] ah r ahF := EV.of (by rw [mr257.2.1]; exact h)
theorem i257_0 : insAt 257 0 = some (.aload 0, 1) := by decide +kernel
theorem r257_0 {E : aEnv} {c : Nat} {ah : aHp} {st : List Value} {Q : Option Value → aHp → Prop} {a1 a2 a3 a4 a5 a6 : Option Value} {x : Nat} : WP E c 257 0 [some (.ref x), a1, a2, a3, a4, a5, a6] (st) ah Q = WP E c 257 1 [some (.ref x), a1, a2, a3, a4, a5, a6] (.ref x :: st) ah Q := wp_s i257_0 rfl rfl rfl rfl
theorem i257_1 : insAt 257 1 = some (.getfield 11432, 4) := by decide +kernel
theorem r257_1 {E : aEnv} {c : Nat} {ah : aHp} {st : List Value} {Q : Option Value → aHp → Prop} {a0 a1 a2 a3 a4 a5 a6 : Option Value} {a : Nat} : WP E c 257 1 [a0, a1, a2, a3, a4, a5, a6] (.ref a :: st) ah Q = WPo (oGF (hg E ah a) 11 43) (fun v => WP E c 257 4 [a0, a1, a2, a3, a4, a5, a6] (v :: st) ah Q) := wp_getf i257_1
theorem i257_4 : insAt 257 4 = some (.iload 1, 5) := by decide +kernel
theorem r257_4 {E : aEnv} {c : Nat} {ah : aHp} {st : List Value} {Q : Option Value → aHp → Prop} {a0 a2 a3 a4 a5 a6 : Option Value} {x : Int32} : WP E c 257 4 [a0, some (.int x), a2, a3, a4, a5, a6] (st) ah Q = WP E c 257 5 [a0, some (.int x), a2, a3, a4, a5, a6] (.int x :: st) ah Q := wp_s i257_4 rfl rfl rfl rfl
theorem i257_5 : insAt 257 5 = some (.iaload, 6) := by decide +kernel
theorem r257_5 {E : aEnv} {c : Nat} {ah : aHp} {st : List Value} {Q : Option Value → aHp → Prop} {a0 a1 a2 a3 a4 a5 a6 : Option Value} {i : Int32} {a : Nat} : WP E c 257 5 [a0, a1, a2, a3, a4, a5, a6] (.int i :: .ref a :: st) ah Q = WPo (gI E ah (.int i :: .ref a :: st)) (fun s9 => WP E c 257 6 [a0, a1, a2, a3, a4, a5, a6] s9 ah Q) := wp_hr i257_5 rfl rfl rfl rfl rfl rfl rfl rfl
theorem i257_6 : insAt 257 6 = some (.iconst 6, 8) := by decide +kernel
theorem r257_6 {E : aEnv} {c : Nat} {ah : aHp} {st : List Value} {Q : Option Value → aHp → Prop} {a0 a1 a2 a3 a4 a5 a6 : Option Value} : WP E c 257 6 [a0, a1, a2, a3, a4, a5, a6] (st) ah Q = WP E c 257 8 [a0, a1, a2, a3, a4, a5, a6] (.int (6) :: st) ah Q := wp_s i257_6 rfl rfl rfl rfl
theorem i257_8 : insAt 257 8 = some (.if_icmp .eq 22, 11) := by decide +kernel
theorem r257_8 {E : aEnv} {c : Nat} {ah : aHp} {st : List Value} {Q : Option Value → aHp → Prop} {a0 a1 a2 a3 a4 a5 a6 : Option Value} {x y : Int32} : WP E c 257 8 [a0, a1, a2, a3, a4, a5, a6] (.int y :: .int x :: st) ah Q = if x = y then WP E c 257 22 [a0, a1, a2, a3, a4, a5, a6] st ah Q else WP E c 257 11 [a0, a1, a2, a3, a4, a5, a6] st ah Q := wp_j i257_8 rfl rfl rfl rfl
theorem i257_11 : insAt 257 11 = some (.aload 0, 12) := by decide +kernel
theorem r257_11 {E : aEnv} {c : Nat} {ah : aHp} {st : List Value} {Q : Option Value → aHp → Prop} {a1 a2 a3 a4 a5 a6 : Option Value} {x : Nat} : WP E c 257 11 [some (.ref x), a1, a2, a3, a4, a5, a6] (st) ah Q = WP E c 257 12 [some (.ref x), a1, a2, a3, a4, a5, a6] (.ref x :: st) ah Q := wp_s i257_11 rfl rfl rfl rfl
theorem i257_12 : insAt 257 12 = some (.getfield 11432, 15) := by decide +kernel
theorem r257_12 {E : aEnv} {c : Nat} {ah : aHp} {st : List Value} {Q : Option Value → aHp → Prop} {a0 a1 a2 a3 a4 a5 a6 : Option Value} {a : Nat} : WP E c 257 12 [a0, a1, a2, a3, a4, a5, a6] (.ref a :: st) ah Q = WPo (oGF (hg E ah a) 11 43) (fun v => WP E c 257 15 [a0, a1, a2, a3, a4, a5, a6] (v :: st) ah Q) := wp_getf i257_12
theorem i257_15 : insAt 257 15 = some (.iload 1, 16) := by decide +kernel
theorem r257_15 {E : aEnv} {c : Nat} {ah : aHp} {st : List Value} {Q : Option Value → aHp → Prop} {a0 a2 a3 a4 a5 a6 : Option Value} {x : Int32} : WP E c 257 15 [a0, some (.int x), a2, a3, a4, a5, a6] (st) ah Q = WP E c 257 16 [a0, some (.int x), a2, a3, a4, a5, a6] (.int x :: st) ah Q := wp_s i257_15 rfl rfl rfl rfl
theorem i257_16 : insAt 257 16 = some (.iaload, 17) := by decide +kernel
theorem r257_16 {E : aEnv} {c : Nat} {ah : aHp} {st : List Value} {Q : Option Value → aHp → Prop} {a0 a1 a2 a3 a4 a5 a6 : Option Value} {i : Int32} {a : Nat} : WP E c 257 16 [a0, a1, a2, a3, a4, a5, a6] (.int i :: .ref a :: st) ah Q = WPo (gI E ah (.int i :: .ref a :: st)) (fun s9 => WP E c 257 17 [a0, a1, a2, a3, a4, a5, a6] s9 ah Q) := wp_hr i257_16 rfl rfl rfl rfl rfl rfl rfl rfl
theorem i257_17 : insAt 257 17 = some (.iconst 7, 19) := by decide +kernel
theorem r257_17 {E : aEnv} {c : Nat} {ah : aHp} {st : List Value} {Q : Option Value → aHp → Prop} {a0 a1 a2 a3 a4 a5 a6 : Option Value} : WP E c 257 17 [a0, a1, a2, a3, a4, a5, a6] (st) ah Q = WP E c 257 19 [a0, a1, a2, a3, a4, a5, a6] (.int (7) :: st) ah Q := wp_s i257_17 rfl rfl rfl rfl
theorem i257_19 : insAt 257 19 = some (.if_icmp .ne 26, 22) := by decide +kernel
theorem r257_19 {E : aEnv} {c : Nat} {ah : aHp} {st : List Value} {Q : Option Value → aHp → Prop} {a0 a1 a2 a3 a4 a5 a6 : Option Value} {x y : Int32} : WP E c 257 19 [a0, a1, a2, a3, a4, a5, a6] (.int y :: .int x :: st) ah Q = if ¬ x = y then WP E c 257 26 [a0, a1, a2, a3, a4, a5, a6] st ah Q else WP E c 257 22 [a0, a1, a2, a3, a4, a5, a6] st ah Q := wp_j i257_19 rfl rfl rfl rfl
theorem i257_22 : insAt 257 22 = some (.jsr_w 0, 23) := by decide +kernel
theorem r257_22 {E : aEnv} {c : Nat} {ah : aHp} {st : List Value} {Q : Option Value → aHp → Prop} {a0 a1 a2 a3 a4 a5 a6 : Option Value} : WP E c 257 22 [a0, a1, a2, a3, a4, a5, a6] (st) ah Q = WP E c 257 23 [a0, a1, a2, a3, a4, a5, a6] (.long (0) :: st) ah Q := wp_s i257_22 rfl rfl rfl rfl
theorem i257_23 : insAt 257 23 = some (.goto 37, 26) := by decide +kernel
theorem r257_23 {E : aEnv} {c : Nat} {ah : aHp} {st : List Value} {Q : Option Value → aHp → Prop} {a0 a1 a2 a3 a4 a5 a6 : Option Value} : WP E c 257 23 [a0, a1, a2, a3, a4, a5, a6] (st) ah Q = WP E c 257 37 [a0, a1, a2, a3, a4, a5, a6] st ah Q := wp_s i257_23 rfl rfl rfl rfl
theorem i257_26 : insAt 257 26 = some (.aload 0, 27) := by decide +kernel
theorem r257_26 {E : aEnv} {c : Nat} {ah : aHp} {st : List Value} {Q : Option Value → aHp → Prop} {a1 a2 a3 a4 a5 a6 : Option Value} {x : Nat} : WP E c 257 26 [some (.ref x), a1, a2, a3, a4, a5, a6] (st) ah Q = WP E c 257 27 [some (.ref x), a1, a2, a3, a4, a5, a6] (.ref x :: st) ah Q := wp_s i257_26 rfl rfl rfl rfl
theorem i257_27 : insAt 257 27 = some (.getfield 11582, 30) := by decide +kernel
theorem r257_27 {E : aEnv} {c : Nat} {ah : aHp} {st : List Value} {Q : Option Value → aHp → Prop} {a0 a1 a2 a3 a4 a5 a6 : Option Value} {a : Nat} : WP E c 257 27 [a0, a1, a2, a3, a4, a5, a6] (.ref a :: st) ah Q = WPo (oGF (hg E ah a) 11 58) (fun v => WP E c 257 30 [a0, a1, a2, a3, a4, a5, a6] (v :: st) ah Q) := wp_getf i257_27
theorem i257_30 : insAt 257 30 = some (.aload 0, 31) := by decide +kernel
theorem r257_30 {E : aEnv} {c : Nat} {ah : aHp} {st : List Value} {Q : Option Value → aHp → Prop} {a1 a2 a3 a4 a5 a6 : Option Value} {x : Nat} : WP E c 257 30 [some (.ref x), a1, a2, a3, a4, a5, a6] (st) ah Q = WP E c 257 31 [some (.ref x), a1, a2, a3, a4, a5, a6] (.ref x :: st) ah Q := wp_s i257_30 rfl rfl rfl rfl
theorem i257_31 : insAt 257 31 = some (.getfield 11442, 34) := by decide +kernel
theorem r257_31 {E : aEnv} {c : Nat} {ah : aHp} {st : List Value} {Q : Option Value → aHp → Prop} {a0 a1 a2 a3 a4 a5 a6 : Option Value} {a : Nat} : WP E c 257 31 [a0, a1, a2, a3, a4, a5, a6] (.ref a :: st) ah Q = WPo (oGF (hg E ah a) 11 44) (fun v => WP E c 257 34 [a0, a1, a2, a3, a4, a5, a6] (v :: st) ah Q) := wp_getf i257_31
theorem i257_34 : insAt 257 34 = some (.iload 1, 35) := by decide +kernel
theorem r257_34 {E : aEnv} {c : Nat} {ah : aHp} {st : List Value} {Q : Option Value → aHp → Prop} {a0 a2 a3 a4 a5 a6 : Option Value} {x : Int32} : WP E c 257 34 [a0, some (.int x), a2, a3, a4, a5, a6] (st) ah Q = WP E c 257 35 [a0, some (.int x), a2, a3, a4, a5, a6] (.int x :: st) ah Q := wp_s i257_34 rfl rfl rfl rfl
theorem i257_35 : insAt 257 35 = some (.iaload, 36) := by decide +kernel
theorem r257_35 {E : aEnv} {c : Nat} {ah : aHp} {st : List Value} {Q : Option Value → aHp → Prop} {a0 a1 a2 a3 a4 a5 a6 : Option Value} {i : Int32} {a : Nat} : WP E c 257 35 [a0, a1, a2, a3, a4, a5, a6] (.int i :: .ref a :: st) ah Q = WPo (gI E ah (.int i :: .ref a :: st)) (fun s9 => WP E c 257 36 [a0, a1, a2, a3, a4, a5, a6] s9 ah Q) := wp_hr i257_35 rfl rfl rfl rfl rfl rfl rfl rfl
theorem i257_36 : insAt 257 36 = some (.laload, 37) := by decide +kernel
theorem r257_36 {E : aEnv} {c : Nat} {ah : aHp} {st : List Value} {Q : Option Value → aHp → Prop} {a0 a1 a2 a3 a4 a5 a6 : Option Value} {i : Int32} {a : Nat} : WP E c 257 36 [a0, a1, a2, a3, a4, a5, a6] (.int i :: .ref a :: st) ah Q = WPo (gL E ah (.int i :: .ref a :: st)) (fun s9 => WP E c 257 37 [a0, a1, a2, a3, a4, a5, a6] s9 ah Q) := wp_hr i257_36 rfl rfl rfl rfl rfl rfl rfl rfl
theorem i257_37 : insAt 257 37 = some (.lstore 2, 38) := by decide +kernel
theorem r257_37 {E : aEnv} {c : Nat} {ah : aHp} {st : List Value} {Q : Option Value → aHp → Prop} {a0 a1 a2 a3 a4 a5 a6 : Option Value} {x : Int64} : WP E c 257 37 [a0, a1, a2, a3, a4, a5, a6] (.long x :: st) ah Q = WP E c 257 38 [a0, kil a1, some (.long x), none, a4, a5, a6] (st) ah Q := wp_s i257_37 rfl rfl rfl rfl
theorem i257_38 : insAt 257 38 = some (.aload 0, 39) := by decide +kernel
theorem r257_38 {E : aEnv} {c : Nat} {ah : aHp} {st : List Value} {Q : Option Value → aHp → Prop} {a1 a2 a3 a4 a5 a6 : Option Value} {x : Nat} : WP E c 257 38 [some (.ref x), a1, a2, a3, a4, a5, a6] (st) ah Q = WP E c 257 39 [some (.ref x), a1, a2, a3, a4, a5, a6] (.ref x :: st) ah Q := wp_s i257_38 rfl rfl rfl rfl
theorem i257_39 : insAt 257 39 = some (.getfield 11432, 42) := by decide +kernel
theorem r257_39 {E : aEnv} {c : Nat} {ah : aHp} {st : List Value} {Q : Option Value → aHp → Prop} {a0 a1 a2 a3 a4 a5 a6 : Option Value} {a : Nat} : WP E c 257 39 [a0, a1, a2, a3, a4, a5, a6] (.ref a :: st) ah Q = WPo (oGF (hg E ah a) 11 43) (fun v => WP E c 257 42 [a0, a1, a2, a3, a4, a5, a6] (v :: st) ah Q) := wp_getf i257_39
theorem i257_42 : insAt 257 42 = some (.iload 1, 43) := by decide +kernel
theorem r257_42 {E : aEnv} {c : Nat} {ah : aHp} {st : List Value} {Q : Option Value → aHp → Prop} {a0 a2 a3 a4 a5 a6 : Option Value} {x : Int32} : WP E c 257 42 [a0, some (.int x), a2, a3, a4, a5, a6] (st) ah Q = WP E c 257 43 [a0, some (.int x), a2, a3, a4, a5, a6] (.int x :: st) ah Q := wp_s i257_42 rfl rfl rfl rfl
theorem i257_43 : insAt 257 43 = some (.iaload, 44) := by decide +kernel
theorem r257_43 {E : aEnv} {c : Nat} {ah : aHp} {st : List Value} {Q : Option Value → aHp → Prop} {a0 a1 a2 a3 a4 a5 a6 : Option Value} {i : Int32} {a : Nat} : WP E c 257 43 [a0, a1, a2, a3, a4, a5, a6] (.int i :: .ref a :: st) ah Q = WPo (gI E ah (.int i :: .ref a :: st)) (fun s9 => WP E c 257 44 [a0, a1, a2, a3, a4, a5, a6] s9 ah Q) := wp_hr i257_43 rfl rfl rfl rfl rfl rfl rfl rfl
theorem i257_44 : insAt 257 44 = some (.i2l, 45) := by decide +kernel
theorem r257_44 {E : aEnv} {c : Nat} {ah : aHp} {st : List Value} {Q : Option Value → aHp → Prop} {a0 a1 a2 a3 a4 a5 a6 : Option Value} {x : Int32} : WP E c 257 44 [a0, a1, a2, a3, a4, a5, a6] (.int x :: st) ah Q = WP E c 257 45 [a0, a1, a2, a3, a4, a5, a6] (.long x.toInt64 :: st) ah Q := wp_s i257_44 rfl rfl rfl rfl
theorem i257_45 : insAt 257 45 = some (.jsr_w 1, 46) := by decide +kernel
theorem r257_45 {E : aEnv} {c : Nat} {ah : aHp} {st : List Value} {Q : Option Value → aHp → Prop} {a0 a1 a2 a3 a4 a5 a6 : Option Value} : WP E c 257 45 [a0, a1, a2, a3, a4, a5, a6] (st) ah Q = WP E c 257 46 [a0, a1, a2, a3, a4, a5, a6] (.long (1) :: st) ah Q := wp_s i257_45 rfl rfl rfl rfl
theorem i257_46 : insAt 257 46 = some (.jsr_w 4, 49) := by decide +kernel
theorem r257_46 {E : aEnv} {c : Nat} {ah : aHp} {st : List Value} {Q : Option Value → aHp → Prop} {a0 a1 a2 a3 a4 a5 a6 : Option Value} : WP E c 257 46 [a0, a1, a2, a3, a4, a5, a6] (st) ah Q = WP E c 257 49 [a0, a1, a2, a3, a4, a5, a6] (.long (4) :: st) ah Q := wp_s i257_46 rfl rfl rfl rfl
theorem i257_49 : insAt 257 49 = some (.invokestatic 199, 52) := by decide +kernel
theorem r257_49 {E : aEnv} {c : Nat} {ah ah1 : aHp} {r : Option Value} {st : List Value} {Q : Option Value → aHp → Prop} {a0 a1 a2 a3 a4 a5 a6 : Option Value} {p0 : Int64} {p1 : Int64} {p2 : Int64} (h : EV E c 199 [.long p0, .long p1, .long p2] ah r ah1) (h3 : wds st ≤ 8) : WP E (c + 1) 257 49 [a0, a1, a2, a3, a4, a5, a6] (.long p2 :: .long p1 :: .long p0 :: st) ah Q = WP E (c + 1) 257 52 [a0, a1, a2, a3, a4, a5, a6] (r.toList ++ st) ah1 Q := wp_call (As := [.long p0, .long p1, .long p2]) i257_49 (fun _ => rfl) rfl mr199.1 rfl h3 (by rw [mr199.2.1]; exact Nat.le_of_ble_eq_true rfl) h
theorem i257_52 : insAt 257 52 = some (.ifCond .eq 69, 55) := by decide +kernel
theorem r257_52 {E : aEnv} {c : Nat} {ah : aHp} {st : List Value} {Q : Option Value → aHp → Prop} {a0 a1 a2 a3 a4 a5 a6 : Option Value} {x : Int32} : WP E c 257 52 [a0, a1, a2, a3, a4, a5, a6] (.int x :: st) ah Q = if x = 0 then WP E c 257 69 [a0, a1, a2, a3, a4, a5, a6] st ah Q else WP E c 257 55 [a0, a1, a2, a3, a4, a5, a6] st ah Q := wp_j i257_52 rfl rfl rfl rfl
theorem i257_55 : insAt 257 55 = some (.aload 0, 56) := by decide +kernel
theorem r257_55 {E : aEnv} {c : Nat} {ah : aHp} {st : List Value} {Q : Option Value → aHp → Prop} {a1 a2 a3 a4 a5 a6 : Option Value} {x : Nat} : WP E c 257 55 [some (.ref x), a1, a2, a3, a4, a5, a6] (st) ah Q = WP E c 257 56 [some (.ref x), a1, a2, a3, a4, a5, a6] (.ref x :: st) ah Q := wp_s i257_55 rfl rfl rfl rfl
theorem i257_56 : insAt 257 56 = some (.getfield 11582, 59) := by decide +kernel
theorem r257_56 {E : aEnv} {c : Nat} {ah : aHp} {st : List Value} {Q : Option Value → aHp → Prop} {a0 a1 a2 a3 a4 a5 a6 : Option Value} {a : Nat} : WP E c 257 56 [a0, a1, a2, a3, a4, a5, a6] (.ref a :: st) ah Q = WPo (oGF (hg E ah a) 11 58) (fun v => WP E c 257 59 [a0, a1, a2, a3, a4, a5, a6] (v :: st) ah Q) := wp_getf i257_56
theorem i257_59 : insAt 257 59 = some (.aload 0, 60) := by decide +kernel
theorem r257_59 {E : aEnv} {c : Nat} {ah : aHp} {st : List Value} {Q : Option Value → aHp → Prop} {a1 a2 a3 a4 a5 a6 : Option Value} {x : Nat} : WP E c 257 59 [some (.ref x), a1, a2, a3, a4, a5, a6] (st) ah Q = WP E c 257 60 [some (.ref x), a1, a2, a3, a4, a5, a6] (.ref x :: st) ah Q := wp_s i257_59 rfl rfl rfl rfl
theorem i257_60 : insAt 257 60 = some (.getfield 11452, 63) := by decide +kernel
theorem r257_60 {E : aEnv} {c : Nat} {ah : aHp} {st : List Value} {Q : Option Value → aHp → Prop} {a0 a1 a2 a3 a4 a5 a6 : Option Value} {a : Nat} : WP E c 257 60 [a0, a1, a2, a3, a4, a5, a6] (.ref a :: st) ah Q = WPo (oGF (hg E ah a) 11 45) (fun v => WP E c 257 63 [a0, a1, a2, a3, a4, a5, a6] (v :: st) ah Q) := wp_getf i257_60
theorem i257_63 : insAt 257 63 = some (.iload 1, 64) := by decide +kernel
theorem r257_63 {E : aEnv} {c : Nat} {ah : aHp} {st : List Value} {Q : Option Value → aHp → Prop} {a0 a2 a3 a4 a5 a6 : Option Value} {x : Int32} : WP E c 257 63 [a0, some (.int x), a2, a3, a4, a5, a6] (st) ah Q = WP E c 257 64 [a0, some (.int x), a2, a3, a4, a5, a6] (.int x :: st) ah Q := wp_s i257_63 rfl rfl rfl rfl
theorem i257_64 : insAt 257 64 = some (.iaload, 65) := by decide +kernel
theorem r257_64 {E : aEnv} {c : Nat} {ah : aHp} {st : List Value} {Q : Option Value → aHp → Prop} {a0 a1 a2 a3 a4 a5 a6 : Option Value} {i : Int32} {a : Nat} : WP E c 257 64 [a0, a1, a2, a3, a4, a5, a6] (.int i :: .ref a :: st) ah Q = WPo (gI E ah (.int i :: .ref a :: st)) (fun s9 => WP E c 257 65 [a0, a1, a2, a3, a4, a5, a6] s9 ah Q) := wp_hr i257_64 rfl rfl rfl rfl rfl rfl rfl rfl
theorem i257_65 : insAt 257 65 = some (.laload, 66) := by decide +kernel
theorem r257_65 {E : aEnv} {c : Nat} {ah : aHp} {st : List Value} {Q : Option Value → aHp → Prop} {a0 a1 a2 a3 a4 a5 a6 : Option Value} {i : Int32} {a : Nat} : WP E c 257 65 [a0, a1, a2, a3, a4, a5, a6] (.int i :: .ref a :: st) ah Q = WPo (gL E ah (.int i :: .ref a :: st)) (fun s9 => WP E c 257 66 [a0, a1, a2, a3, a4, a5, a6] s9 ah Q) := wp_hr i257_65 rfl rfl rfl rfl rfl rfl rfl rfl
theorem i257_66 : insAt 257 66 = some (.goto 70, 69) := by decide +kernel
theorem r257_66 {E : aEnv} {c : Nat} {ah : aHp} {st : List Value} {Q : Option Value → aHp → Prop} {a0 a1 a2 a3 a4 a5 a6 : Option Value} : WP E c 257 66 [a0, a1, a2, a3, a4, a5, a6] (st) ah Q = WP E c 257 70 [a0, a1, a2, a3, a4, a5, a6] st ah Q := wp_s i257_66 rfl rfl rfl rfl
theorem i257_69 : insAt 257 69 = some (.jsr_w 0, 70) := by decide +kernel
theorem r257_69 {E : aEnv} {c : Nat} {ah : aHp} {st : List Value} {Q : Option Value → aHp → Prop} {a0 a1 a2 a3 a4 a5 a6 : Option Value} : WP E c 257 69 [a0, a1, a2, a3, a4, a5, a6] (st) ah Q = WP E c 257 70 [a0, a1, a2, a3, a4, a5, a6] (.long (0) :: st) ah Q := wp_s i257_69 rfl rfl rfl rfl
theorem i257_70 : insAt 257 70 = some (.lstore 4, 72) := by decide +kernel
theorem r257_70 {E : aEnv} {c : Nat} {ah : aHp} {st : List Value} {Q : Option Value → aHp → Prop} {a0 a1 a2 a3 a4 a5 a6 : Option Value} {x : Int64} : WP E c 257 70 [a0, a1, a2, a3, a4, a5, a6] (.long x :: st) ah Q = WP E c 257 72 [a0, a1, a2, kil a3, some (.long x), none, a6] (st) ah Q := wp_s i257_70 rfl rfl rfl rfl
theorem i257_72 : insAt 257 72 = some (.aload 0, 73) := by decide +kernel
theorem r257_72 {E : aEnv} {c : Nat} {ah : aHp} {st : List Value} {Q : Option Value → aHp → Prop} {a1 a2 a3 a4 a5 a6 : Option Value} {x : Nat} : WP E c 257 72 [some (.ref x), a1, a2, a3, a4, a5, a6] (st) ah Q = WP E c 257 73 [some (.ref x), a1, a2, a3, a4, a5, a6] (.ref x :: st) ah Q := wp_s i257_72 rfl rfl rfl rfl
theorem i257_73 : insAt 257 73 = some (.getfield 11482, 76) := by decide +kernel
theorem r257_73 {E : aEnv} {c : Nat} {ah : aHp} {st : List Value} {Q : Option Value → aHp → Prop} {a0 a1 a2 a3 a4 a5 a6 : Option Value} {a : Nat} : WP E c 257 73 [a0, a1, a2, a3, a4, a5, a6] (.ref a :: st) ah Q = WPo (oGF (hg E ah a) 11 48) (fun v => WP E c 257 76 [a0, a1, a2, a3, a4, a5, a6] (v :: st) ah Q) := wp_getf i257_73
theorem i257_76 : insAt 257 76 = some (.iload 1, 77) := by decide +kernel
theorem r257_76 {E : aEnv} {c : Nat} {ah : aHp} {st : List Value} {Q : Option Value → aHp → Prop} {a0 a2 a3 a4 a5 a6 : Option Value} {x : Int32} : WP E c 257 76 [a0, some (.int x), a2, a3, a4, a5, a6] (st) ah Q = WP E c 257 77 [a0, some (.int x), a2, a3, a4, a5, a6] (.int x :: st) ah Q := wp_s i257_76 rfl rfl rfl rfl
theorem i257_77 : insAt 257 77 = some (.iaload, 78) := by decide +kernel
theorem r257_77 {E : aEnv} {c : Nat} {ah : aHp} {st : List Value} {Q : Option Value → aHp → Prop} {a0 a1 a2 a3 a4 a5 a6 : Option Value} {i : Int32} {a : Nat} : WP E c 257 77 [a0, a1, a2, a3, a4, a5, a6] (.int i :: .ref a :: st) ah Q = WPo (gI E ah (.int i :: .ref a :: st)) (fun s9 => WP E c 257 78 [a0, a1, a2, a3, a4, a5, a6] s9 ah Q) := wp_hr i257_77 rfl rfl rfl rfl rfl rfl rfl rfl
theorem i257_78 : insAt 257 78 = some (.ifCond .eq 103, 81) := by decide +kernel
theorem r257_78 {E : aEnv} {c : Nat} {ah : aHp} {st : List Value} {Q : Option Value → aHp → Prop} {a0 a1 a2 a3 a4 a5 a6 : Option Value} {x : Int32} : WP E c 257 78 [a0, a1, a2, a3, a4, a5, a6] (.int x :: st) ah Q = if x = 0 then WP E c 257 103 [a0, a1, a2, a3, a4, a5, a6] st ah Q else WP E c 257 81 [a0, a1, a2, a3, a4, a5, a6] st ah Q := wp_j i257_78 rfl rfl rfl rfl
theorem i257_81 : insAt 257 81 = some (.aload 0, 82) := by decide +kernel
theorem r257_81 {E : aEnv} {c : Nat} {ah : aHp} {st : List Value} {Q : Option Value → aHp → Prop} {a1 a2 a3 a4 a5 a6 : Option Value} {x : Nat} : WP E c 257 81 [some (.ref x), a1, a2, a3, a4, a5, a6] (st) ah Q = WP E c 257 82 [some (.ref x), a1, a2, a3, a4, a5, a6] (.ref x :: st) ah Q := wp_s i257_81 rfl rfl rfl rfl
theorem i257_82 : insAt 257 82 = some (.getfield 11613, 85) := by decide +kernel
theorem r257_82 {E : aEnv} {c : Nat} {ah : aHp} {st : List Value} {Q : Option Value → aHp → Prop} {a0 a1 a2 a3 a4 a5 a6 : Option Value} {a : Nat} : WP E c 257 82 [a0, a1, a2, a3, a4, a5, a6] (.ref a :: st) ah Q = WPo (oGF (hg E ah a) 11 61) (fun v => WP E c 257 85 [a0, a1, a2, a3, a4, a5, a6] (v :: st) ah Q) := wp_getf i257_82
theorem i257_85 : insAt 257 85 = some (.aload 0, 86) := by decide +kernel
theorem r257_85 {E : aEnv} {c : Nat} {ah : aHp} {st : List Value} {Q : Option Value → aHp → Prop} {a1 a2 a3 a4 a5 a6 : Option Value} {x : Nat} : WP E c 257 85 [some (.ref x), a1, a2, a3, a4, a5, a6] (st) ah Q = WP E c 257 86 [some (.ref x), a1, a2, a3, a4, a5, a6] (.ref x :: st) ah Q := wp_s i257_85 rfl rfl rfl rfl
theorem i257_86 : insAt 257 86 = some (.getfield 11482, 89) := by decide +kernel
theorem r257_86 {E : aEnv} {c : Nat} {ah : aHp} {st : List Value} {Q : Option Value → aHp → Prop} {a0 a1 a2 a3 a4 a5 a6 : Option Value} {a : Nat} : WP E c 257 86 [a0, a1, a2, a3, a4, a5, a6] (.ref a :: st) ah Q = WPo (oGF (hg E ah a) 11 48) (fun v => WP E c 257 89 [a0, a1, a2, a3, a4, a5, a6] (v :: st) ah Q) := wp_getf i257_86
theorem i257_89 : insAt 257 89 = some (.iload 1, 90) := by decide +kernel
theorem r257_89 {E : aEnv} {c : Nat} {ah : aHp} {st : List Value} {Q : Option Value → aHp → Prop} {a0 a2 a3 a4 a5 a6 : Option Value} {x : Int32} : WP E c 257 89 [a0, some (.int x), a2, a3, a4, a5, a6] (st) ah Q = WP E c 257 90 [a0, some (.int x), a2, a3, a4, a5, a6] (.int x :: st) ah Q := wp_s i257_89 rfl rfl rfl rfl
theorem i257_90 : insAt 257 90 = some (.iaload, 91) := by decide +kernel
theorem r257_90 {E : aEnv} {c : Nat} {ah : aHp} {st : List Value} {Q : Option Value → aHp → Prop} {a0 a1 a2 a3 a4 a5 a6 : Option Value} {i : Int32} {a : Nat} : WP E c 257 90 [a0, a1, a2, a3, a4, a5, a6] (.int i :: .ref a :: st) ah Q = WPo (gI E ah (.int i :: .ref a :: st)) (fun s9 => WP E c 257 91 [a0, a1, a2, a3, a4, a5, a6] s9 ah Q) := wp_hr i257_90 rfl rfl rfl rfl rfl rfl rfl rfl
theorem i257_91 : insAt 257 91 = some (.iconst 1, 92) := by decide +kernel
theorem r257_91 {E : aEnv} {c : Nat} {ah : aHp} {st : List Value} {Q : Option Value → aHp → Prop} {a0 a1 a2 a3 a4 a5 a6 : Option Value} : WP E c 257 91 [a0, a1, a2, a3, a4, a5, a6] (st) ah Q = WP E c 257 92 [a0, a1, a2, a3, a4, a5, a6] (.int (1) :: st) ah Q := wp_s i257_91 rfl rfl rfl rfl
theorem i257_92 : insAt 257 92 = some (.if_icmp .ne 99, 95) := by decide +kernel
theorem r257_92 {E : aEnv} {c : Nat} {ah : aHp} {st : List Value} {Q : Option Value → aHp → Prop} {a0 a1 a2 a3 a4 a5 a6 : Option Value} {x y : Int32} : WP E c 257 92 [a0, a1, a2, a3, a4, a5, a6] (.int y :: .int x :: st) ah Q = if ¬ x = y then WP E c 257 99 [a0, a1, a2, a3, a4, a5, a6] st ah Q else WP E c 257 95 [a0, a1, a2, a3, a4, a5, a6] st ah Q := wp_j i257_92 rfl rfl rfl rfl
theorem i257_95 : insAt 257 95 = some (.iconst 1, 96) := by decide +kernel
theorem r257_95 {E : aEnv} {c : Nat} {ah : aHp} {st : List Value} {Q : Option Value → aHp → Prop} {a0 a1 a2 a3 a4 a5 a6 : Option Value} : WP E c 257 95 [a0, a1, a2, a3, a4, a5, a6] (st) ah Q = WP E c 257 96 [a0, a1, a2, a3, a4, a5, a6] (.int (1) :: st) ah Q := wp_s i257_95 rfl rfl rfl rfl
theorem i257_96 : insAt 257 96 = some (.goto 100, 99) := by decide +kernel
theorem r257_96 {E : aEnv} {c : Nat} {ah : aHp} {st : List Value} {Q : Option Value → aHp → Prop} {a0 a1 a2 a3 a4 a5 a6 : Option Value} : WP E c 257 96 [a0, a1, a2, a3, a4, a5, a6] (st) ah Q = WP E c 257 100 [a0, a1, a2, a3, a4, a5, a6] st ah Q := wp_s i257_96 rfl rfl rfl rfl
theorem i257_99 : insAt 257 99 = some (.iconst 0, 100) := by decide +kernel
theorem r257_99 {E : aEnv} {c : Nat} {ah : aHp} {st : List Value} {Q : Option Value → aHp → Prop} {a0 a1 a2 a3 a4 a5 a6 : Option Value} : WP E c 257 99 [a0, a1, a2, a3, a4, a5, a6] (st) ah Q = WP E c 257 100 [a0, a1, a2, a3, a4, a5, a6] (.int (0) :: st) ah Q := wp_s i257_99 rfl rfl rfl rfl
theorem i257_100 : insAt 257 100 = some (.if_icmp .ne 107, 103) := by decide +kernel
theorem r257_100 {E : aEnv} {c : Nat} {ah : aHp} {st : List Value} {Q : Option Value → aHp → Prop} {a0 a1 a2 a3 a4 a5 a6 : Option Value} {x y : Int32} : WP E c 257 100 [a0, a1, a2, a3, a4, a5, a6] (.int y :: .int x :: st) ah Q = if ¬ x = y then WP E c 257 107 [a0, a1, a2, a3, a4, a5, a6] st ah Q else WP E c 257 103 [a0, a1, a2, a3, a4, a5, a6] st ah Q := wp_j i257_100 rfl rfl rfl rfl
theorem i257_103 : insAt 257 103 = some (.iconst 1, 104) := by decide +kernel
theorem r257_103 {E : aEnv} {c : Nat} {ah : aHp} {st : List Value} {Q : Option Value → aHp → Prop} {a0 a1 a2 a3 a4 a5 a6 : Option Value} : WP E c 257 103 [a0, a1, a2, a3, a4, a5, a6] (st) ah Q = WP E c 257 104 [a0, a1, a2, a3, a4, a5, a6] (.int (1) :: st) ah Q := wp_s i257_103 rfl rfl rfl rfl
theorem i257_104 : insAt 257 104 = some (.goto 108, 107) := by decide +kernel
theorem r257_104 {E : aEnv} {c : Nat} {ah : aHp} {st : List Value} {Q : Option Value → aHp → Prop} {a0 a1 a2 a3 a4 a5 a6 : Option Value} : WP E c 257 104 [a0, a1, a2, a3, a4, a5, a6] (st) ah Q = WP E c 257 108 [a0, a1, a2, a3, a4, a5, a6] st ah Q := wp_s i257_104 rfl rfl rfl rfl
theorem i257_107 : insAt 257 107 = some (.iconst 0, 108) := by decide +kernel
theorem r257_107 {E : aEnv} {c : Nat} {ah : aHp} {st : List Value} {Q : Option Value → aHp → Prop} {a0 a1 a2 a3 a4 a5 a6 : Option Value} : WP E c 257 107 [a0, a1, a2, a3, a4, a5, a6] (st) ah Q = WP E c 257 108 [a0, a1, a2, a3, a4, a5, a6] (.int (0) :: st) ah Q := wp_s i257_107 rfl rfl rfl rfl
theorem i257_108 : insAt 257 108 = some (.istore 6, 110) := by decide +kernel
theorem r257_108 {E : aEnv} {c : Nat} {ah : aHp} {st : List Value} {Q : Option Value → aHp → Prop} {a0 a1 a2 a3 a4 a5 a6 : Option Value} {x : Int32} : WP E c 257 108 [a0, a1, a2, a3, a4, a5, a6] (.int x :: st) ah Q = WP E c 257 110 [a0, a1, a2, a3, a4, kil a5, some (.int x)] (st) ah Q := wp_s i257_108 rfl rfl rfl rfl
theorem i257_110 : insAt 257 110 = some (.aload 0, 111) := by decide +kernel
theorem r257_110 {E : aEnv} {c : Nat} {ah : aHp} {st : List Value} {Q : Option Value → aHp → Prop} {a1 a2 a3 a4 a5 a6 : Option Value} {x : Nat} : WP E c 257 110 [some (.ref x), a1, a2, a3, a4, a5, a6] (st) ah Q = WP E c 257 111 [some (.ref x), a1, a2, a3, a4, a5, a6] (.ref x :: st) ah Q := wp_s i257_110 rfl rfl rfl rfl
theorem i257_111 : insAt 257 111 = some (.getfield 11432, 114) := by decide +kernel
theorem r257_111 {E : aEnv} {c : Nat} {ah : aHp} {st : List Value} {Q : Option Value → aHp → Prop} {a0 a1 a2 a3 a4 a5 a6 : Option Value} {a : Nat} : WP E c 257 111 [a0, a1, a2, a3, a4, a5, a6] (.ref a :: st) ah Q = WPo (oGF (hg E ah a) 11 43) (fun v => WP E c 257 114 [a0, a1, a2, a3, a4, a5, a6] (v :: st) ah Q) := wp_getf i257_111
theorem i257_114 : insAt 257 114 = some (.iload 1, 115) := by decide +kernel
theorem r257_114 {E : aEnv} {c : Nat} {ah : aHp} {st : List Value} {Q : Option Value → aHp → Prop} {a0 a2 a3 a4 a5 a6 : Option Value} {x : Int32} : WP E c 257 114 [a0, some (.int x), a2, a3, a4, a5, a6] (st) ah Q = WP E c 257 115 [a0, some (.int x), a2, a3, a4, a5, a6] (.int x :: st) ah Q := wp_s i257_114 rfl rfl rfl rfl
theorem i257_115 : insAt 257 115 = some (.iaload, 116) := by decide +kernel
theorem r257_115 {E : aEnv} {c : Nat} {ah : aHp} {st : List Value} {Q : Option Value → aHp → Prop} {a0 a1 a2 a3 a4 a5 a6 : Option Value} {i : Int32} {a : Nat} : WP E c 257 115 [a0, a1, a2, a3, a4, a5, a6] (.int i :: .ref a :: st) ah Q = WPo (gI E ah (.int i :: .ref a :: st)) (fun s9 => WP E c 257 116 [a0, a1, a2, a3, a4, a5, a6] s9 ah Q) := wp_hr i257_115 rfl rfl rfl rfl rfl rfl rfl rfl
theorem i257_116 : insAt 257 116 = some (.tableswitch 391 0 6 #[160, 191, 191, 231, 263, 313, 347], 160) := by decide +kernel
theorem r257_116_0 {E : aEnv} {c : Nat} {ah : aHp} {st : List Value} {Q : Option Value → aHp → Prop} {a0 a1 a2 a3 a4 a5 a6 : Option Value} : WP E c 257 116 [a0, a1, a2, a3, a4, a5, a6] (.int 0 :: st) ah Q = WP E c 257 160 [a0, a1, a2, a3, a4, a5, a6] st ah Q := wp_s i257_116 rfl rfl rfl rfl
theorem r257_116_1 {E : aEnv} {c : Nat} {ah : aHp} {st : List Value} {Q : Option Value → aHp → Prop} {a0 a1 a2 a3 a4 a5 a6 : Option Value} : WP E c 257 116 [a0, a1, a2, a3, a4, a5, a6] (.int 1 :: st) ah Q = WP E c 257 191 [a0, a1, a2, a3, a4, a5, a6] st ah Q := wp_s i257_116 rfl rfl rfl rfl
theorem r257_116_2 {E : aEnv} {c : Nat} {ah : aHp} {st : List Value} {Q : Option Value → aHp → Prop} {a0 a1 a2 a3 a4 a5 a6 : Option Value} : WP E c 257 116 [a0, a1, a2, a3, a4, a5, a6] (.int 2 :: st) ah Q = WP E c 257 191 [a0, a1, a2, a3, a4, a5, a6] st ah Q := wp_s i257_116 rfl rfl rfl rfl
theorem r257_116_3 {E : aEnv} {c : Nat} {ah : aHp} {st : List Value} {Q : Option Value → aHp → Prop} {a0 a1 a2 a3 a4 a5 a6 : Option Value} : WP E c 257 116 [a0, a1, a2, a3, a4, a5, a6] (.int 3 :: st) ah Q = WP E c 257 231 [a0, a1, a2, a3, a4, a5, a6] st ah Q := wp_s i257_116 rfl rfl rfl rfl
theorem r257_116_4 {E : aEnv} {c : Nat} {ah : aHp} {st : List Value} {Q : Option Value → aHp → Prop} {a0 a1 a2 a3 a4 a5 a6 : Option Value} : WP E c 257 116 [a0, a1, a2, a3, a4, a5, a6] (.int 4 :: st) ah Q = WP E c 257 263 [a0, a1, a2, a3, a4, a5, a6] st ah Q := wp_s i257_116 rfl rfl rfl rfl
theorem r257_116_5 {E : aEnv} {c : Nat} {ah : aHp} {st : List Value} {Q : Option Value → aHp → Prop} {a0 a1 a2 a3 a4 a5 a6 : Option Value} : WP E c 257 116 [a0, a1, a2, a3, a4, a5, a6] (.int 5 :: st) ah Q = WP E c 257 313 [a0, a1, a2, a3, a4, a5, a6] st ah Q := wp_s i257_116 rfl rfl rfl rfl
theorem r257_116_6 {E : aEnv} {c : Nat} {ah : aHp} {st : List Value} {Q : Option Value → aHp → Prop} {a0 a1 a2 a3 a4 a5 a6 : Option Value} : WP E c 257 116 [a0, a1, a2, a3, a4, a5, a6] (.int 6 :: st) ah Q = WP E c 257 347 [a0, a1, a2, a3, a4, a5, a6] st ah Q := wp_s i257_116 rfl rfl rfl rfl
theorem r257_116_d {E : aEnv} {c : Nat} {ah : aHp} {st : List Value} {Q : Option Value → aHp → Prop} {a0 a1 a2 a3 a4 a5 a6 : Option Value} {x : Int32} (hx : x.toInt < 0 ∨ 6 < x.toInt) : WP E c 257 116 [a0, a1, a2, a3, a4, a5, a6] (.int x :: st) ah Q = WP E c 257 391 [a0, a1, a2, a3, a4, a5, a6] st ah Q := wp_st (z := (391, [a0, a1, a2, a3, a4, a5, a6], st, ah)) i257_116 rfl rfl rfl (by simp only [st1, skA, ldA, soA, jpA, jT, if_pos hx]; rfl)
theorem i257_160 : insAt 257 160 = some (.aload 0, 161) := by decide +kernel
theorem r257_160 {E : aEnv} {c : Nat} {ah : aHp} {st : List Value} {Q : Option Value → aHp → Prop} {a1 a2 a3 a4 a5 a6 : Option Value} {x : Nat} : WP E c 257 160 [some (.ref x), a1, a2, a3, a4, a5, a6] (st) ah Q = WP E c 257 161 [some (.ref x), a1, a2, a3, a4, a5, a6] (.ref x :: st) ah Q := wp_s i257_160 rfl rfl rfl rfl
theorem i257_161 : insAt 257 161 = some (.getfield 11582, 164) := by decide +kernel
theorem r257_161 {E : aEnv} {c : Nat} {ah : aHp} {st : List Value} {Q : Option Value → aHp → Prop} {a0 a1 a2 a3 a4 a5 a6 : Option Value} {a : Nat} : WP E c 257 161 [a0, a1, a2, a3, a4, a5, a6] (.ref a :: st) ah Q = WPo (oGF (hg E ah a) 11 58) (fun v => WP E c 257 164 [a0, a1, a2, a3, a4, a5, a6] (v :: st) ah Q) := wp_getf i257_161
theorem i257_164 : insAt 257 164 = some (.aload 0, 165) := by decide +kernel
theorem r257_164 {E : aEnv} {c : Nat} {ah : aHp} {st : List Value} {Q : Option Value → aHp → Prop} {a1 a2 a3 a4 a5 a6 : Option Value} {x : Nat} : WP E c 257 164 [some (.ref x), a1, a2, a3, a4, a5, a6] (st) ah Q = WP E c 257 165 [some (.ref x), a1, a2, a3, a4, a5, a6] (.ref x :: st) ah Q := wp_s i257_164 rfl rfl rfl rfl
theorem i257_165 : insAt 257 165 = some (.getfield 11442, 168) := by decide +kernel
theorem r257_165 {E : aEnv} {c : Nat} {ah : aHp} {st : List Value} {Q : Option Value → aHp → Prop} {a0 a1 a2 a3 a4 a5 a6 : Option Value} {a : Nat} : WP E c 257 165 [a0, a1, a2, a3, a4, a5, a6] (.ref a :: st) ah Q = WPo (oGF (hg E ah a) 11 44) (fun v => WP E c 257 168 [a0, a1, a2, a3, a4, a5, a6] (v :: st) ah Q) := wp_getf i257_165
theorem i257_168 : insAt 257 168 = some (.iload 1, 169) := by decide +kernel
theorem r257_168 {E : aEnv} {c : Nat} {ah : aHp} {st : List Value} {Q : Option Value → aHp → Prop} {a0 a2 a3 a4 a5 a6 : Option Value} {x : Int32} : WP E c 257 168 [a0, some (.int x), a2, a3, a4, a5, a6] (st) ah Q = WP E c 257 169 [a0, some (.int x), a2, a3, a4, a5, a6] (.int x :: st) ah Q := wp_s i257_168 rfl rfl rfl rfl
theorem i257_169 : insAt 257 169 = some (.iaload, 170) := by decide +kernel
theorem r257_169 {E : aEnv} {c : Nat} {ah : aHp} {st : List Value} {Q : Option Value → aHp → Prop} {a0 a1 a2 a3 a4 a5 a6 : Option Value} {i : Int32} {a : Nat} : WP E c 257 169 [a0, a1, a2, a3, a4, a5, a6] (.int i :: .ref a :: st) ah Q = WPo (gI E ah (.int i :: .ref a :: st)) (fun s9 => WP E c 257 170 [a0, a1, a2, a3, a4, a5, a6] s9 ah Q) := wp_hr i257_169 rfl rfl rfl rfl rfl rfl rfl rfl
theorem i257_170 : insAt 257 170 = some (.aload 0, 171) := by decide +kernel
theorem r257_170 {E : aEnv} {c : Nat} {ah : aHp} {st : List Value} {Q : Option Value → aHp → Prop} {a1 a2 a3 a4 a5 a6 : Option Value} {x : Nat} : WP E c 257 170 [some (.ref x), a1, a2, a3, a4, a5, a6] (st) ah Q = WP E c 257 171 [some (.ref x), a1, a2, a3, a4, a5, a6] (.ref x :: st) ah Q := wp_s i257_170 rfl rfl rfl rfl
theorem i257_171 : insAt 257 171 = some (.getfield 11562, 174) := by decide +kernel
theorem r257_171 {E : aEnv} {c : Nat} {ah : aHp} {st : List Value} {Q : Option Value → aHp → Prop} {a0 a1 a2 a3 a4 a5 a6 : Option Value} {a : Nat} : WP E c 257 171 [a0, a1, a2, a3, a4, a5, a6] (.ref a :: st) ah Q = WPo (oGF (hg E ah a) 11 56) (fun v => WP E c 257 174 [a0, a1, a2, a3, a4, a5, a6] (v :: st) ah Q) := wp_getf i257_171
theorem i257_174 : insAt 257 174 = some (.iload 1, 175) := by decide +kernel
theorem r257_174 {E : aEnv} {c : Nat} {ah : aHp} {st : List Value} {Q : Option Value → aHp → Prop} {a0 a2 a3 a4 a5 a6 : Option Value} {x : Int32} : WP E c 257 174 [a0, some (.int x), a2, a3, a4, a5, a6] (st) ah Q = WP E c 257 175 [a0, some (.int x), a2, a3, a4, a5, a6] (.int x :: st) ah Q := wp_s i257_174 rfl rfl rfl rfl
theorem i257_175 : insAt 257 175 = some (.laload, 176) := by decide +kernel
theorem r257_175 {E : aEnv} {c : Nat} {ah : aHp} {st : List Value} {Q : Option Value → aHp → Prop} {a0 a1 a2 a3 a4 a5 a6 : Option Value} {i : Int32} {a : Nat} : WP E c 257 175 [a0, a1, a2, a3, a4, a5, a6] (.int i :: .ref a :: st) ah Q = WPo (gL E ah (.int i :: .ref a :: st)) (fun s9 => WP E c 257 176 [a0, a1, a2, a3, a4, a5, a6] s9 ah Q) := wp_hr i257_175 rfl rfl rfl rfl rfl rfl rfl rfl
theorem i257_176 : insAt 257 176 = some (.lastore, 177) := by decide +kernel
theorem r257_176 {E : aEnv} {c : Nat} {ah : aHp} {st : List Value} {Q : Option Value → aHp → Prop} {a0 a1 a2 a3 a4 a5 a6 : Option Value} {x : Int64} {i : Int32} {a : Nat} : WP E c 257 176 [a0, a1, a2, a3, a4, a5, a6] (.long x :: .int i :: .ref a :: st) ah Q = WPo (pL E ah (.long x :: .int i :: .ref a :: st)) (fun q9 => WP E c 257 177 [a0, a1, a2, a3, a4, a5, a6] q9.1 q9.2 Q) := wp_hw i257_176 rfl rfl rfl rfl rfl rfl rfl rfl
theorem i257_177 : insAt 257 177 = some (.aload 0, 178) := by decide +kernel
theorem r257_177 {E : aEnv} {c : Nat} {ah : aHp} {st : List Value} {Q : Option Value → aHp → Prop} {a1 a2 a3 a4 a5 a6 : Option Value} {x : Nat} : WP E c 257 177 [some (.ref x), a1, a2, a3, a4, a5, a6] (st) ah Q = WP E c 257 178 [some (.ref x), a1, a2, a3, a4, a5, a6] (.ref x :: st) ah Q := wp_s i257_177 rfl rfl rfl rfl
theorem i257_178 : insAt 257 178 = some (.dup, 179) := by decide +kernel
theorem r257_178 {E : aEnv} {c : Nat} {ah : aHp} {st : List Value} {Q : Option Value → aHp → Prop} {a0 a1 a2 a3 a4 a5 a6 : Option Value} {x : Nat} : WP E c 257 178 [a0, a1, a2, a3, a4, a5, a6] (.ref x :: st) ah Q = WP E c 257 179 [a0, a1, a2, a3, a4, a5, a6] (.ref x :: .ref x :: st) ah Q := wp_s i257_178 rfl rfl rfl rfl
theorem r257_178i {E : aEnv} {c : Nat} {ah : aHp} {st : List Value} {Q : Option Value → aHp → Prop} {a0 a1 a2 a3 a4 a5 a6 : Option Value} {x : Int32} : WP E c 257 178 [a0, a1, a2, a3, a4, a5, a6] (.int x :: st) ah Q = WP E c 257 179 [a0, a1, a2, a3, a4, a5, a6] (.int x :: .int x :: st) ah Q := wp_s i257_178 rfl rfl rfl rfl
theorem i257_179 : insAt 257 179 = some (.getfield 11630, 182) := by decide +kernel
theorem r257_179 {E : aEnv} {c : Nat} {ah : aHp} {st : List Value} {Q : Option Value → aHp → Prop} {a0 a1 a2 a3 a4 a5 a6 : Option Value} {a : Nat} : WP E c 257 179 [a0, a1, a2, a3, a4, a5, a6] (.ref a :: st) ah Q = WPo (oGF (hg E ah a) 11 63) (fun v => WP E c 257 182 [a0, a1, a2, a3, a4, a5, a6] (v :: st) ah Q) := wp_getf i257_179
theorem i257_182 : insAt 257 182 = some (.iconst 1, 183) := by decide +kernel
theorem r257_182 {E : aEnv} {c : Nat} {ah : aHp} {st : List Value} {Q : Option Value → aHp → Prop} {a0 a1 a2 a3 a4 a5 a6 : Option Value} : WP E c 257 182 [a0, a1, a2, a3, a4, a5, a6] (st) ah Q = WP E c 257 183 [a0, a1, a2, a3, a4, a5, a6] (.int (1) :: st) ah Q := wp_s i257_182 rfl rfl rfl rfl
theorem i257_183 : insAt 257 183 = some (.iadd, 184) := by decide +kernel
theorem r257_183 {E : aEnv} {c : Nat} {ah : aHp} {st : List Value} {Q : Option Value → aHp → Prop} {a0 a1 a2 a3 a4 a5 a6 : Option Value} {x y : Int32} : WP E c 257 183 [a0, a1, a2, a3, a4, a5, a6] (.int y :: .int x :: st) ah Q = WP E c 257 184 [a0, a1, a2, a3, a4, a5, a6] (.int (x + y) :: st) ah Q := wp_s i257_183 rfl rfl rfl rfl
theorem i257_184 : insAt 257 184 = some (.putfield 11630, 187) := by decide +kernel
theorem r257_184 {E : aEnv} {c : Nat} {ah : aHp} {st : List Value} {Q : Option Value → aHp → Prop} {a0 a1 a2 a3 a4 a5 a6 : Option Value} {a : Nat} {v : Value} : WP E c 257 184 [a0, a1, a2, a3, a4, a5, a6] (v :: .ref a :: st) ah Q = WPo (oPF (hg E ah a) 11630 v) (fun e => WP E c 257 187 [a0, a1, a2, a3, a4, a5, a6] st (hs E ah a e) Q) := wp_putf i257_184
theorem i257_187 : insAt 257 187 = some (.iload 1, 188) := by decide +kernel
theorem r257_187 {E : aEnv} {c : Nat} {ah : aHp} {st : List Value} {Q : Option Value → aHp → Prop} {a0 a2 a3 a4 a5 a6 : Option Value} {x : Int32} : WP E c 257 187 [a0, some (.int x), a2, a3, a4, a5, a6] (st) ah Q = WP E c 257 188 [a0, some (.int x), a2, a3, a4, a5, a6] (.int x :: st) ah Q := wp_s i257_187 rfl rfl rfl rfl
theorem i257_188 : insAt 257 188 = some (.iconst 1, 189) := by decide +kernel
theorem r257_188 {E : aEnv} {c : Nat} {ah : aHp} {st : List Value} {Q : Option Value → aHp → Prop} {a0 a1 a2 a3 a4 a5 a6 : Option Value} : WP E c 257 188 [a0, a1, a2, a3, a4, a5, a6] (st) ah Q = WP E c 257 189 [a0, a1, a2, a3, a4, a5, a6] (.int (1) :: st) ah Q := wp_s i257_188 rfl rfl rfl rfl
theorem i257_189 : insAt 257 189 = some (.iadd, 190) := by decide +kernel
theorem r257_189 {E : aEnv} {c : Nat} {ah : aHp} {st : List Value} {Q : Option Value → aHp → Prop} {a0 a1 a2 a3 a4 a5 a6 : Option Value} {x y : Int32} : WP E c 257 189 [a0, a1, a2, a3, a4, a5, a6] (.int y :: .int x :: st) ah Q = WP E c 257 190 [a0, a1, a2, a3, a4, a5, a6] (.int (x + y) :: st) ah Q := wp_s i257_189 rfl rfl rfl rfl
theorem i257_190 : insAt 257 190 = some (.ireturn, 191) := by decide +kernel
theorem r257_190 {E : aEnv} {c : Nat} {ah : aHp} {Q : Option Value → aHp → Prop} {a0 a1 a2 a3 a4 a5 a6 : Option Value} {x : Int32} : WP E c 257 190 [a0, a1, a2, a3, a4, a5, a6] ([.int x]) ah Q = Q (some (.int x)) ah := wp_rt i257_190 rfl
theorem i257_191 : insAt 257 191 = some (.aload 0, 192) := by decide +kernel
theorem r257_191 {E : aEnv} {c : Nat} {ah : aHp} {st : List Value} {Q : Option Value → aHp → Prop} {a1 a2 a3 a4 a5 a6 : Option Value} {x : Nat} : WP E c 257 191 [some (.ref x), a1, a2, a3, a4, a5, a6] (st) ah Q = WP E c 257 192 [some (.ref x), a1, a2, a3, a4, a5, a6] (.ref x :: st) ah Q := wp_s i257_191 rfl rfl rfl rfl
theorem i257_192 : insAt 257 192 = some (.iload 1, 193) := by decide +kernel
theorem r257_192 {E : aEnv} {c : Nat} {ah : aHp} {st : List Value} {Q : Option Value → aHp → Prop} {a0 a2 a3 a4 a5 a6 : Option Value} {x : Int32} : WP E c 257 192 [a0, some (.int x), a2, a3, a4, a5, a6] (st) ah Q = WP E c 257 193 [a0, some (.int x), a2, a3, a4, a5, a6] (.int x :: st) ah Q := wp_s i257_192 rfl rfl rfl rfl
theorem i257_193 : insAt 257 193 = some (.aload 0, 194) := by decide +kernel
theorem r257_193 {E : aEnv} {c : Nat} {ah : aHp} {st : List Value} {Q : Option Value → aHp → Prop} {a1 a2 a3 a4 a5 a6 : Option Value} {x : Nat} : WP E c 257 193 [some (.ref x), a1, a2, a3, a4, a5, a6] (st) ah Q = WP E c 257 194 [some (.ref x), a1, a2, a3, a4, a5, a6] (.ref x :: st) ah Q := wp_s i257_193 rfl rfl rfl rfl
theorem i257_194 : insAt 257 194 = some (.getfield 11432, 197) := by decide +kernel
theorem r257_194 {E : aEnv} {c : Nat} {ah : aHp} {st : List Value} {Q : Option Value → aHp → Prop} {a0 a1 a2 a3 a4 a5 a6 : Option Value} {a : Nat} : WP E c 257 194 [a0, a1, a2, a3, a4, a5, a6] (.ref a :: st) ah Q = WPo (oGF (hg E ah a) 11 43) (fun v => WP E c 257 197 [a0, a1, a2, a3, a4, a5, a6] (v :: st) ah Q) := wp_getf i257_194
theorem i257_197 : insAt 257 197 = some (.iload 1, 198) := by decide +kernel
theorem r257_197 {E : aEnv} {c : Nat} {ah : aHp} {st : List Value} {Q : Option Value → aHp → Prop} {a0 a2 a3 a4 a5 a6 : Option Value} {x : Int32} : WP E c 257 197 [a0, some (.int x), a2, a3, a4, a5, a6] (st) ah Q = WP E c 257 198 [a0, some (.int x), a2, a3, a4, a5, a6] (.int x :: st) ah Q := wp_s i257_197 rfl rfl rfl rfl
theorem i257_198 : insAt 257 198 = some (.iaload, 199) := by decide +kernel
theorem r257_198 {E : aEnv} {c : Nat} {ah : aHp} {st : List Value} {Q : Option Value → aHp → Prop} {a0 a1 a2 a3 a4 a5 a6 : Option Value} {i : Int32} {a : Nat} : WP E c 257 198 [a0, a1, a2, a3, a4, a5, a6] (.int i :: .ref a :: st) ah Q = WPo (gI E ah (.int i :: .ref a :: st)) (fun s9 => WP E c 257 199 [a0, a1, a2, a3, a4, a5, a6] s9 ah Q) := wp_hr i257_198 rfl rfl rfl rfl rfl rfl rfl rfl
theorem i257_199 : insAt 257 199 = some (.iconst 1, 200) := by decide +kernel
theorem r257_199 {E : aEnv} {c : Nat} {ah : aHp} {st : List Value} {Q : Option Value → aHp → Prop} {a0 a1 a2 a3 a4 a5 a6 : Option Value} : WP E c 257 199 [a0, a1, a2, a3, a4, a5, a6] (st) ah Q = WP E c 257 200 [a0, a1, a2, a3, a4, a5, a6] (.int (1) :: st) ah Q := wp_s i257_199 rfl rfl rfl rfl
theorem i257_200 : insAt 257 200 = some (.if_icmp .ne 210, 203) := by decide +kernel
theorem r257_200 {E : aEnv} {c : Nat} {ah : aHp} {st : List Value} {Q : Option Value → aHp → Prop} {a0 a1 a2 a3 a4 a5 a6 : Option Value} {x y : Int32} : WP E c 257 200 [a0, a1, a2, a3, a4, a5, a6] (.int y :: .int x :: st) ah Q = if ¬ x = y then WP E c 257 210 [a0, a1, a2, a3, a4, a5, a6] st ah Q else WP E c 257 203 [a0, a1, a2, a3, a4, a5, a6] st ah Q := wp_j i257_200 rfl rfl rfl rfl
theorem i257_203 : insAt 257 203 = some (.lload 2, 204) := by decide +kernel
theorem r257_203 {E : aEnv} {c : Nat} {ah : aHp} {st : List Value} {Q : Option Value → aHp → Prop} {a0 a1 a3 a4 a5 a6 : Option Value} {x : Int64} : WP E c 257 203 [a0, a1, some (.long x), a3, a4, a5, a6] (st) ah Q = WP E c 257 204 [a0, a1, some (.long x), a3, a4, a5, a6] (.long x :: st) ah Q := wp_s i257_203 rfl rfl rfl rfl
theorem i257_204 : insAt 257 204 = some (.lload 4, 206) := by decide +kernel
theorem r257_204 {E : aEnv} {c : Nat} {ah : aHp} {st : List Value} {Q : Option Value → aHp → Prop} {a0 a1 a2 a3 a5 a6 : Option Value} {x : Int64} : WP E c 257 204 [a0, a1, a2, a3, some (.long x), a5, a6] (st) ah Q = WP E c 257 206 [a0, a1, a2, a3, some (.long x), a5, a6] (.long x :: st) ah Q := wp_s i257_204 rfl rfl rfl rfl
theorem i257_206 : insAt 257 206 = some (.ladd, 207) := by decide +kernel
theorem r257_206 {E : aEnv} {c : Nat} {ah : aHp} {st : List Value} {Q : Option Value → aHp → Prop} {a0 a1 a2 a3 a4 a5 a6 : Option Value} {x y : Int64} : WP E c 257 206 [a0, a1, a2, a3, a4, a5, a6] (.long y :: .long x :: st) ah Q = WP E c 257 207 [a0, a1, a2, a3, a4, a5, a6] (.long (x + y) :: st) ah Q := wp_s i257_206 rfl rfl rfl rfl
theorem i257_207 : insAt 257 207 = some (.goto 214, 210) := by decide +kernel
theorem r257_207 {E : aEnv} {c : Nat} {ah : aHp} {st : List Value} {Q : Option Value → aHp → Prop} {a0 a1 a2 a3 a4 a5 a6 : Option Value} : WP E c 257 207 [a0, a1, a2, a3, a4, a5, a6] (st) ah Q = WP E c 257 214 [a0, a1, a2, a3, a4, a5, a6] st ah Q := wp_s i257_207 rfl rfl rfl rfl
theorem i257_210 : insAt 257 210 = some (.lload 2, 211) := by decide +kernel
theorem r257_210 {E : aEnv} {c : Nat} {ah : aHp} {st : List Value} {Q : Option Value → aHp → Prop} {a0 a1 a3 a4 a5 a6 : Option Value} {x : Int64} : WP E c 257 210 [a0, a1, some (.long x), a3, a4, a5, a6] (st) ah Q = WP E c 257 211 [a0, a1, some (.long x), a3, a4, a5, a6] (.long x :: st) ah Q := wp_s i257_210 rfl rfl rfl rfl
theorem i257_211 : insAt 257 211 = some (.lload 4, 213) := by decide +kernel
theorem r257_211 {E : aEnv} {c : Nat} {ah : aHp} {st : List Value} {Q : Option Value → aHp → Prop} {a0 a1 a2 a3 a5 a6 : Option Value} {x : Int64} : WP E c 257 211 [a0, a1, a2, a3, some (.long x), a5, a6] (st) ah Q = WP E c 257 213 [a0, a1, a2, a3, some (.long x), a5, a6] (.long x :: st) ah Q := wp_s i257_211 rfl rfl rfl rfl
theorem i257_213 : insAt 257 213 = some (.lsub, 214) := by decide +kernel
theorem r257_213 {E : aEnv} {c : Nat} {ah : aHp} {st : List Value} {Q : Option Value → aHp → Prop} {a0 a1 a2 a3 a4 a5 a6 : Option Value} {x y : Int64} : WP E c 257 213 [a0, a1, a2, a3, a4, a5, a6] (.long y :: .long x :: st) ah Q = WP E c 257 214 [a0, a1, a2, a3, a4, a5, a6] (.long (x - y) :: st) ah Q := wp_s i257_213 rfl rfl rfl rfl
theorem i257_214 : insAt 257 214 = some (.invokevirtual 256, 217) := by decide +kernel
theorem r257_214 {E : aEnv} {c : Nat} {ah ah1 : aHp} {r : Option Value} {st : List Value} {Q : Option Value → aHp → Prop} {a0 a1 a2 a3 a4 a5 a6 : Option Value} {p0 : Nat} {p1 : Int32} {p2 : Int64} (h : EV E c 256 [.ref p0, .int p1, .long p2] ah r ah1) (h2 : oCI (hg E ah p0) = 11) (h3 : wds st ≤ 8) : WP E (c + 1) 257 214 [a0, a1, a2, a3, a4, a5, a6] (.long p2 :: .int p1 :: .ref p0 :: st) ah Q = WP E (c + 1) 257 217 [a0, a1, a2, a3, a4, a5, a6] (r.toList ++ st) ah1 Q := wp_call (As := [.ref p0, .int p1, .long p2]) i257_214 (fun _ => rfl) rfl mr256.1 (rcv_1 h2 mr256.2.2 (by decide)) h3 (by rw [mr256.2.1]; exact Nat.le_of_ble_eq_true rfl) h
theorem i257_217 : insAt 257 217 = some (.aload 0, 218) := by decide +kernel
theorem r257_217 {E : aEnv} {c : Nat} {ah : aHp} {st : List Value} {Q : Option Value → aHp → Prop} {a1 a2 a3 a4 a5 a6 : Option Value} {x : Nat} : WP E c 257 217 [some (.ref x), a1, a2, a3, a4, a5, a6] (st) ah Q = WP E c 257 218 [some (.ref x), a1, a2, a3, a4, a5, a6] (.ref x :: st) ah Q := wp_s i257_217 rfl rfl rfl rfl
theorem i257_218 : insAt 257 218 = some (.dup, 219) := by decide +kernel
theorem r257_218 {E : aEnv} {c : Nat} {ah : aHp} {st : List Value} {Q : Option Value → aHp → Prop} {a0 a1 a2 a3 a4 a5 a6 : Option Value} {x : Nat} : WP E c 257 218 [a0, a1, a2, a3, a4, a5, a6] (.ref x :: st) ah Q = WP E c 257 219 [a0, a1, a2, a3, a4, a5, a6] (.ref x :: .ref x :: st) ah Q := wp_s i257_218 rfl rfl rfl rfl
theorem r257_218i {E : aEnv} {c : Nat} {ah : aHp} {st : List Value} {Q : Option Value → aHp → Prop} {a0 a1 a2 a3 a4 a5 a6 : Option Value} {x : Int32} : WP E c 257 218 [a0, a1, a2, a3, a4, a5, a6] (.int x :: st) ah Q = WP E c 257 219 [a0, a1, a2, a3, a4, a5, a6] (.int x :: .int x :: st) ah Q := wp_s i257_218 rfl rfl rfl rfl
theorem i257_219 : insAt 257 219 = some (.getfield 11630, 222) := by decide +kernel
theorem r257_219 {E : aEnv} {c : Nat} {ah : aHp} {st : List Value} {Q : Option Value → aHp → Prop} {a0 a1 a2 a3 a4 a5 a6 : Option Value} {a : Nat} : WP E c 257 219 [a0, a1, a2, a3, a4, a5, a6] (.ref a :: st) ah Q = WPo (oGF (hg E ah a) 11 63) (fun v => WP E c 257 222 [a0, a1, a2, a3, a4, a5, a6] (v :: st) ah Q) := wp_getf i257_219
theorem i257_222 : insAt 257 222 = some (.iconst 2, 223) := by decide +kernel
theorem r257_222 {E : aEnv} {c : Nat} {ah : aHp} {st : List Value} {Q : Option Value → aHp → Prop} {a0 a1 a2 a3 a4 a5 a6 : Option Value} : WP E c 257 222 [a0, a1, a2, a3, a4, a5, a6] (st) ah Q = WP E c 257 223 [a0, a1, a2, a3, a4, a5, a6] (.int (2) :: st) ah Q := wp_s i257_222 rfl rfl rfl rfl
theorem i257_223 : insAt 257 223 = some (.iadd, 224) := by decide +kernel
theorem r257_223 {E : aEnv} {c : Nat} {ah : aHp} {st : List Value} {Q : Option Value → aHp → Prop} {a0 a1 a2 a3 a4 a5 a6 : Option Value} {x y : Int32} : WP E c 257 223 [a0, a1, a2, a3, a4, a5, a6] (.int y :: .int x :: st) ah Q = WP E c 257 224 [a0, a1, a2, a3, a4, a5, a6] (.int (x + y) :: st) ah Q := wp_s i257_223 rfl rfl rfl rfl
theorem i257_224 : insAt 257 224 = some (.putfield 11630, 227) := by decide +kernel
theorem r257_224 {E : aEnv} {c : Nat} {ah : aHp} {st : List Value} {Q : Option Value → aHp → Prop} {a0 a1 a2 a3 a4 a5 a6 : Option Value} {a : Nat} {v : Value} : WP E c 257 224 [a0, a1, a2, a3, a4, a5, a6] (v :: .ref a :: st) ah Q = WPo (oPF (hg E ah a) 11630 v) (fun e => WP E c 257 227 [a0, a1, a2, a3, a4, a5, a6] st (hs E ah a e) Q) := wp_putf i257_224
theorem i257_227 : insAt 257 227 = some (.iload 1, 228) := by decide +kernel
theorem r257_227 {E : aEnv} {c : Nat} {ah : aHp} {st : List Value} {Q : Option Value → aHp → Prop} {a0 a2 a3 a4 a5 a6 : Option Value} {x : Int32} : WP E c 257 227 [a0, some (.int x), a2, a3, a4, a5, a6] (st) ah Q = WP E c 257 228 [a0, some (.int x), a2, a3, a4, a5, a6] (.int x :: st) ah Q := wp_s i257_227 rfl rfl rfl rfl
theorem i257_228 : insAt 257 228 = some (.iconst 1, 229) := by decide +kernel
theorem r257_228 {E : aEnv} {c : Nat} {ah : aHp} {st : List Value} {Q : Option Value → aHp → Prop} {a0 a1 a2 a3 a4 a5 a6 : Option Value} : WP E c 257 228 [a0, a1, a2, a3, a4, a5, a6] (st) ah Q = WP E c 257 229 [a0, a1, a2, a3, a4, a5, a6] (.int (1) :: st) ah Q := wp_s i257_228 rfl rfl rfl rfl
theorem i257_229 : insAt 257 229 = some (.iadd, 230) := by decide +kernel
theorem r257_229 {E : aEnv} {c : Nat} {ah : aHp} {st : List Value} {Q : Option Value → aHp → Prop} {a0 a1 a2 a3 a4 a5 a6 : Option Value} {x y : Int32} : WP E c 257 229 [a0, a1, a2, a3, a4, a5, a6] (.int y :: .int x :: st) ah Q = WP E c 257 230 [a0, a1, a2, a3, a4, a5, a6] (.int (x + y) :: st) ah Q := wp_s i257_229 rfl rfl rfl rfl
theorem i257_230 : insAt 257 230 = some (.ireturn, 231) := by decide +kernel
theorem r257_230 {E : aEnv} {c : Nat} {ah : aHp} {Q : Option Value → aHp → Prop} {a0 a1 a2 a3 a4 a5 a6 : Option Value} {x : Int32} : WP E c 257 230 [a0, a1, a2, a3, a4, a5, a6] ([.int x]) ah Q = Q (some (.int x)) ah := wp_rt i257_230 rfl
theorem i257_231 : insAt 257 231 = some (.aload 0, 232) := by decide +kernel
theorem r257_231 {E : aEnv} {c : Nat} {ah : aHp} {st : List Value} {Q : Option Value → aHp → Prop} {a1 a2 a3 a4 a5 a6 : Option Value} {x : Nat} : WP E c 257 231 [some (.ref x), a1, a2, a3, a4, a5, a6] (st) ah Q = WP E c 257 232 [some (.ref x), a1, a2, a3, a4, a5, a6] (.ref x :: st) ah Q := wp_s i257_231 rfl rfl rfl rfl
theorem i257_232 : insAt 257 232 = some (.dup, 233) := by decide +kernel
theorem r257_232 {E : aEnv} {c : Nat} {ah : aHp} {st : List Value} {Q : Option Value → aHp → Prop} {a0 a1 a2 a3 a4 a5 a6 : Option Value} {x : Nat} : WP E c 257 232 [a0, a1, a2, a3, a4, a5, a6] (.ref x :: st) ah Q = WP E c 257 233 [a0, a1, a2, a3, a4, a5, a6] (.ref x :: .ref x :: st) ah Q := wp_s i257_232 rfl rfl rfl rfl
theorem r257_232i {E : aEnv} {c : Nat} {ah : aHp} {st : List Value} {Q : Option Value → aHp → Prop} {a0 a1 a2 a3 a4 a5 a6 : Option Value} {x : Int32} : WP E c 257 232 [a0, a1, a2, a3, a4, a5, a6] (.int x :: st) ah Q = WP E c 257 233 [a0, a1, a2, a3, a4, a5, a6] (.int x :: .int x :: st) ah Q := wp_s i257_232 rfl rfl rfl rfl
theorem i257_233 : insAt 257 233 = some (.getfield 11630, 236) := by decide +kernel
theorem r257_233 {E : aEnv} {c : Nat} {ah : aHp} {st : List Value} {Q : Option Value → aHp → Prop} {a0 a1 a2 a3 a4 a5 a6 : Option Value} {a : Nat} : WP E c 257 233 [a0, a1, a2, a3, a4, a5, a6] (.ref a :: st) ah Q = WPo (oGF (hg E ah a) 11 63) (fun v => WP E c 257 236 [a0, a1, a2, a3, a4, a5, a6] (v :: st) ah Q) := wp_getf i257_233
theorem i257_236 : insAt 257 236 = some (.iconst 2, 237) := by decide +kernel
theorem r257_236 {E : aEnv} {c : Nat} {ah : aHp} {st : List Value} {Q : Option Value → aHp → Prop} {a0 a1 a2 a3 a4 a5 a6 : Option Value} : WP E c 257 236 [a0, a1, a2, a3, a4, a5, a6] (st) ah Q = WP E c 257 237 [a0, a1, a2, a3, a4, a5, a6] (.int (2) :: st) ah Q := wp_s i257_236 rfl rfl rfl rfl
theorem i257_237 : insAt 257 237 = some (.aload 0, 238) := by decide +kernel
theorem r257_237 {E : aEnv} {c : Nat} {ah : aHp} {st : List Value} {Q : Option Value → aHp → Prop} {a1 a2 a3 a4 a5 a6 : Option Value} {x : Nat} : WP E c 257 237 [some (.ref x), a1, a2, a3, a4, a5, a6] (st) ah Q = WP E c 257 238 [some (.ref x), a1, a2, a3, a4, a5, a6] (.ref x :: st) ah Q := wp_s i257_237 rfl rfl rfl rfl
theorem i257_238 : insAt 257 238 = some (.lload 2, 239) := by decide +kernel
theorem r257_238 {E : aEnv} {c : Nat} {ah : aHp} {st : List Value} {Q : Option Value → aHp → Prop} {a0 a1 a3 a4 a5 a6 : Option Value} {x : Int64} : WP E c 257 238 [a0, a1, some (.long x), a3, a4, a5, a6] (st) ah Q = WP E c 257 239 [a0, a1, some (.long x), a3, a4, a5, a6] (.long x :: st) ah Q := wp_s i257_238 rfl rfl rfl rfl
theorem i257_239 : insAt 257 239 = some (.invokestatic 291, 242) := by decide +kernel
theorem r257_239 {E : aEnv} {c : Nat} {ah ah1 : aHp} {r : Option Value} {st : List Value} {Q : Option Value → aHp → Prop} {a0 a1 a2 a3 a4 a5 a6 : Option Value} {p0 : Int64} (h : EV E c 291 [.long p0] ah r ah1) (h3 : wds st ≤ 8) : WP E (c + 1) 257 239 [a0, a1, a2, a3, a4, a5, a6] (.long p0 :: st) ah Q = WP E (c + 1) 257 242 [a0, a1, a2, a3, a4, a5, a6] (r.toList ++ st) ah1 Q := wp_call (As := [.long p0]) i257_239 (fun _ => rfl) rfl mr291.1 rfl h3 (by rw [mr291.2.1]; exact Nat.le_of_ble_eq_true rfl) h
theorem i257_242 : insAt 257 242 = some (.invokevirtual 262, 245) := by decide +kernel
theorem r257_242 {E : aEnv} {c : Nat} {ah ah1 : aHp} {r : Option Value} {st : List Value} {Q : Option Value → aHp → Prop} {a0 a1 a2 a3 a4 a5 a6 : Option Value} {p0 : Nat} {p1 : Int64} (h : EV E c 262 [.ref p0, .long p1] ah r ah1) (h2 : oCI (hg E ah p0) = 11) (h3 : wds st ≤ 8) : WP E (c + 1) 257 242 [a0, a1, a2, a3, a4, a5, a6] (.long p1 :: .ref p0 :: st) ah Q = WP E (c + 1) 257 245 [a0, a1, a2, a3, a4, a5, a6] (r.toList ++ st) ah1 Q := wp_call (As := [.ref p0, .long p1]) i257_242 (fun _ => rfl) rfl mr262.1 (rcv_1 h2 mr262.2.2 (by decide)) h3 (by rw [mr262.2.1]; exact Nat.le_of_ble_eq_true rfl) h
theorem i257_245 : insAt 257 245 = some (.iadd, 246) := by decide +kernel
theorem r257_245 {E : aEnv} {c : Nat} {ah : aHp} {st : List Value} {Q : Option Value → aHp → Prop} {a0 a1 a2 a3 a4 a5 a6 : Option Value} {x y : Int32} : WP E c 257 245 [a0, a1, a2, a3, a4, a5, a6] (.int y :: .int x :: st) ah Q = WP E c 257 246 [a0, a1, a2, a3, a4, a5, a6] (.int (x + y) :: st) ah Q := wp_s i257_245 rfl rfl rfl rfl
theorem i257_246 : insAt 257 246 = some (.iadd, 247) := by decide +kernel
theorem r257_246 {E : aEnv} {c : Nat} {ah : aHp} {st : List Value} {Q : Option Value → aHp → Prop} {a0 a1 a2 a3 a4 a5 a6 : Option Value} {x y : Int32} : WP E c 257 246 [a0, a1, a2, a3, a4, a5, a6] (.int y :: .int x :: st) ah Q = WP E c 257 247 [a0, a1, a2, a3, a4, a5, a6] (.int (x + y) :: st) ah Q := wp_s i257_246 rfl rfl rfl rfl
theorem i257_247 : insAt 257 247 = some (.putfield 11630, 250) := by decide +kernel
theorem r257_247 {E : aEnv} {c : Nat} {ah : aHp} {st : List Value} {Q : Option Value → aHp → Prop} {a0 a1 a2 a3 a4 a5 a6 : Option Value} {a : Nat} {v : Value} : WP E c 257 247 [a0, a1, a2, a3, a4, a5, a6] (v :: .ref a :: st) ah Q = WPo (oPF (hg E ah a) 11630 v) (fun e => WP E c 257 250 [a0, a1, a2, a3, a4, a5, a6] st (hs E ah a e) Q) := wp_putf i257_247
theorem i257_250 : insAt 257 250 = some (.aload 0, 251) := by decide +kernel
theorem r257_250 {E : aEnv} {c : Nat} {ah : aHp} {st : List Value} {Q : Option Value → aHp → Prop} {a1 a2 a3 a4 a5 a6 : Option Value} {x : Nat} : WP E c 257 250 [some (.ref x), a1, a2, a3, a4, a5, a6] (st) ah Q = WP E c 257 251 [some (.ref x), a1, a2, a3, a4, a5, a6] (.ref x :: st) ah Q := wp_s i257_250 rfl rfl rfl rfl
theorem i257_251 : insAt 257 251 = some (.iload 1, 252) := by decide +kernel
theorem r257_251 {E : aEnv} {c : Nat} {ah : aHp} {st : List Value} {Q : Option Value → aHp → Prop} {a0 a2 a3 a4 a5 a6 : Option Value} {x : Int32} : WP E c 257 251 [a0, some (.int x), a2, a3, a4, a5, a6] (st) ah Q = WP E c 257 252 [a0, some (.int x), a2, a3, a4, a5, a6] (.int x :: st) ah Q := wp_s i257_251 rfl rfl rfl rfl
theorem i257_252 : insAt 257 252 = some (.lload 2, 253) := by decide +kernel
theorem r257_252 {E : aEnv} {c : Nat} {ah : aHp} {st : List Value} {Q : Option Value → aHp → Prop} {a0 a1 a3 a4 a5 a6 : Option Value} {x : Int64} : WP E c 257 252 [a0, a1, some (.long x), a3, a4, a5, a6] (st) ah Q = WP E c 257 253 [a0, a1, some (.long x), a3, a4, a5, a6] (.long x :: st) ah Q := wp_s i257_252 rfl rfl rfl rfl
theorem i257_253 : insAt 257 253 = some (.lload 4, 255) := by decide +kernel
theorem r257_253 {E : aEnv} {c : Nat} {ah : aHp} {st : List Value} {Q : Option Value → aHp → Prop} {a0 a1 a2 a3 a5 a6 : Option Value} {x : Int64} : WP E c 257 253 [a0, a1, a2, a3, some (.long x), a5, a6] (st) ah Q = WP E c 257 255 [a0, a1, a2, a3, some (.long x), a5, a6] (.long x :: st) ah Q := wp_s i257_253 rfl rfl rfl rfl
theorem i257_255 : insAt 257 255 = some (.lmul, 256) := by decide +kernel
theorem r257_255 {E : aEnv} {c : Nat} {ah : aHp} {st : List Value} {Q : Option Value → aHp → Prop} {a0 a1 a2 a3 a4 a5 a6 : Option Value} {x y : Int64} : WP E c 257 255 [a0, a1, a2, a3, a4, a5, a6] (.long y :: .long x :: st) ah Q = WP E c 257 256 [a0, a1, a2, a3, a4, a5, a6] (.long (x * y) :: st) ah Q := wp_s i257_255 rfl rfl rfl rfl
theorem i257_256 : insAt 257 256 = some (.invokevirtual 256, 259) := by decide +kernel
theorem r257_256 {E : aEnv} {c : Nat} {ah ah1 : aHp} {r : Option Value} {st : List Value} {Q : Option Value → aHp → Prop} {a0 a1 a2 a3 a4 a5 a6 : Option Value} {p0 : Nat} {p1 : Int32} {p2 : Int64} (h : EV E c 256 [.ref p0, .int p1, .long p2] ah r ah1) (h2 : oCI (hg E ah p0) = 11) (h3 : wds st ≤ 8) : WP E (c + 1) 257 256 [a0, a1, a2, a3, a4, a5, a6] (.long p2 :: .int p1 :: .ref p0 :: st) ah Q = WP E (c + 1) 257 259 [a0, a1, a2, a3, a4, a5, a6] (r.toList ++ st) ah1 Q := wp_call (As := [.ref p0, .int p1, .long p2]) i257_256 (fun _ => rfl) rfl mr256.1 (rcv_1 h2 mr256.2.2 (by decide)) h3 (by rw [mr256.2.1]; exact Nat.le_of_ble_eq_true rfl) h
theorem i257_259 : insAt 257 259 = some (.iload 1, 260) := by decide +kernel
theorem r257_259 {E : aEnv} {c : Nat} {ah : aHp} {st : List Value} {Q : Option Value → aHp → Prop} {a0 a2 a3 a4 a5 a6 : Option Value} {x : Int32} : WP E c 257 259 [a0, some (.int x), a2, a3, a4, a5, a6] (st) ah Q = WP E c 257 260 [a0, some (.int x), a2, a3, a4, a5, a6] (.int x :: st) ah Q := wp_s i257_259 rfl rfl rfl rfl
theorem i257_260 : insAt 257 260 = some (.iconst 1, 261) := by decide +kernel
theorem r257_260 {E : aEnv} {c : Nat} {ah : aHp} {st : List Value} {Q : Option Value → aHp → Prop} {a0 a1 a2 a3 a4 a5 a6 : Option Value} : WP E c 257 260 [a0, a1, a2, a3, a4, a5, a6] (st) ah Q = WP E c 257 261 [a0, a1, a2, a3, a4, a5, a6] (.int (1) :: st) ah Q := wp_s i257_260 rfl rfl rfl rfl
theorem i257_261 : insAt 257 261 = some (.iadd, 262) := by decide +kernel
theorem r257_261 {E : aEnv} {c : Nat} {ah : aHp} {st : List Value} {Q : Option Value → aHp → Prop} {a0 a1 a2 a3 a4 a5 a6 : Option Value} {x y : Int32} : WP E c 257 261 [a0, a1, a2, a3, a4, a5, a6] (.int y :: .int x :: st) ah Q = WP E c 257 262 [a0, a1, a2, a3, a4, a5, a6] (.int (x + y) :: st) ah Q := wp_s i257_261 rfl rfl rfl rfl
theorem i257_262 : insAt 257 262 = some (.ireturn, 263) := by decide +kernel
theorem r257_262 {E : aEnv} {c : Nat} {ah : aHp} {Q : Option Value → aHp → Prop} {a0 a1 a2 a3 a4 a5 a6 : Option Value} {x : Int32} : WP E c 257 262 [a0, a1, a2, a3, a4, a5, a6] ([.int x]) ah Q = Q (some (.int x)) ah := wp_rt i257_262 rfl
theorem i257_263 : insAt 257 263 = some (.aload 0, 264) := by decide +kernel
theorem r257_263 {E : aEnv} {c : Nat} {ah : aHp} {st : List Value} {Q : Option Value → aHp → Prop} {a1 a2 a3 a4 a5 a6 : Option Value} {x : Nat} : WP E c 257 263 [some (.ref x), a1, a2, a3, a4, a5, a6] (st) ah Q = WP E c 257 264 [some (.ref x), a1, a2, a3, a4, a5, a6] (.ref x :: st) ah Q := wp_s i257_263 rfl rfl rfl rfl
theorem i257_264 : insAt 257 264 = some (.dup, 265) := by decide +kernel
theorem r257_264 {E : aEnv} {c : Nat} {ah : aHp} {st : List Value} {Q : Option Value → aHp → Prop} {a0 a1 a2 a3 a4 a5 a6 : Option Value} {x : Nat} : WP E c 257 264 [a0, a1, a2, a3, a4, a5, a6] (.ref x :: st) ah Q = WP E c 257 265 [a0, a1, a2, a3, a4, a5, a6] (.ref x :: .ref x :: st) ah Q := wp_s i257_264 rfl rfl rfl rfl
theorem r257_264i {E : aEnv} {c : Nat} {ah : aHp} {st : List Value} {Q : Option Value → aHp → Prop} {a0 a1 a2 a3 a4 a5 a6 : Option Value} {x : Int32} : WP E c 257 264 [a0, a1, a2, a3, a4, a5, a6] (.int x :: st) ah Q = WP E c 257 265 [a0, a1, a2, a3, a4, a5, a6] (.int x :: .int x :: st) ah Q := wp_s i257_264 rfl rfl rfl rfl
theorem i257_265 : insAt 257 265 = some (.getfield 11630, 268) := by decide +kernel
theorem r257_265 {E : aEnv} {c : Nat} {ah : aHp} {st : List Value} {Q : Option Value → aHp → Prop} {a0 a1 a2 a3 a4 a5 a6 : Option Value} {a : Nat} : WP E c 257 265 [a0, a1, a2, a3, a4, a5, a6] (.ref a :: st) ah Q = WPo (oGF (hg E ah a) 11 63) (fun v => WP E c 257 268 [a0, a1, a2, a3, a4, a5, a6] (v :: st) ah Q) := wp_getf i257_265
theorem i257_268 : insAt 257 268 = some (.iconst 3, 269) := by decide +kernel
theorem r257_268 {E : aEnv} {c : Nat} {ah : aHp} {st : List Value} {Q : Option Value → aHp → Prop} {a0 a1 a2 a3 a4 a5 a6 : Option Value} : WP E c 257 268 [a0, a1, a2, a3, a4, a5, a6] (st) ah Q = WP E c 257 269 [a0, a1, a2, a3, a4, a5, a6] (.int (3) :: st) ah Q := wp_s i257_268 rfl rfl rfl rfl
theorem i257_269 : insAt 257 269 = some (.aload 0, 270) := by decide +kernel
theorem r257_269 {E : aEnv} {c : Nat} {ah : aHp} {st : List Value} {Q : Option Value → aHp → Prop} {a1 a2 a3 a4 a5 a6 : Option Value} {x : Nat} : WP E c 257 269 [some (.ref x), a1, a2, a3, a4, a5, a6] (st) ah Q = WP E c 257 270 [some (.ref x), a1, a2, a3, a4, a5, a6] (.ref x :: st) ah Q := wp_s i257_269 rfl rfl rfl rfl
theorem i257_270 : insAt 257 270 = some (.lload 2, 271) := by decide +kernel
theorem r257_270 {E : aEnv} {c : Nat} {ah : aHp} {st : List Value} {Q : Option Value → aHp → Prop} {a0 a1 a3 a4 a5 a6 : Option Value} {x : Int64} : WP E c 257 270 [a0, a1, some (.long x), a3, a4, a5, a6] (st) ah Q = WP E c 257 271 [a0, a1, some (.long x), a3, a4, a5, a6] (.long x :: st) ah Q := wp_s i257_270 rfl rfl rfl rfl
theorem i257_271 : insAt 257 271 = some (.lload 4, 273) := by decide +kernel
theorem r257_271 {E : aEnv} {c : Nat} {ah : aHp} {st : List Value} {Q : Option Value → aHp → Prop} {a0 a1 a2 a3 a5 a6 : Option Value} {x : Int64} : WP E c 257 271 [a0, a1, a2, a3, some (.long x), a5, a6] (st) ah Q = WP E c 257 273 [a0, a1, a2, a3, some (.long x), a5, a6] (.long x :: st) ah Q := wp_s i257_271 rfl rfl rfl rfl
theorem i257_273 : insAt 257 273 = some (.ldiv, 274) := by decide +kernel
theorem r257_273 {E : aEnv} {c : Nat} {ah : aHp} {st : List Value} {Q : Option Value → aHp → Prop} {a0 a1 a2 a3 a4 a5 a6 : Option Value} {x y : Int64} (hy : ¬ y = 0) : WP E c 257 273 [a0, a1, a2, a3, a4, a5, a6] (.long y :: .long x :: st) ah Q = WP E c 257 274 [a0, a1, a2, a3, a4, a5, a6] (.long (x / y) :: st) ah Q := wp_st (z := (274, [a0, a1, a2, a3, a4, a5, a6], .long (x / y) :: st, ah)) i257_273 rfl rfl rfl (by simp [st1, skA, tD, hy])
theorem i257_274 : insAt 257 274 = some (.invokestatic 291, 277) := by decide +kernel
theorem r257_274 {E : aEnv} {c : Nat} {ah ah1 : aHp} {r : Option Value} {st : List Value} {Q : Option Value → aHp → Prop} {a0 a1 a2 a3 a4 a5 a6 : Option Value} {p0 : Int64} (h : EV E c 291 [.long p0] ah r ah1) (h3 : wds st ≤ 8) : WP E (c + 1) 257 274 [a0, a1, a2, a3, a4, a5, a6] (.long p0 :: st) ah Q = WP E (c + 1) 257 277 [a0, a1, a2, a3, a4, a5, a6] (r.toList ++ st) ah1 Q := wp_call (As := [.long p0]) i257_274 (fun _ => rfl) rfl mr291.1 rfl h3 (by rw [mr291.2.1]; exact Nat.le_of_ble_eq_true rfl) h
theorem i257_277 : insAt 257 277 = some (.invokevirtual 262, 280) := by decide +kernel
theorem r257_277 {E : aEnv} {c : Nat} {ah ah1 : aHp} {r : Option Value} {st : List Value} {Q : Option Value → aHp → Prop} {a0 a1 a2 a3 a4 a5 a6 : Option Value} {p0 : Nat} {p1 : Int64} (h : EV E c 262 [.ref p0, .long p1] ah r ah1) (h2 : oCI (hg E ah p0) = 11) (h3 : wds st ≤ 8) : WP E (c + 1) 257 277 [a0, a1, a2, a3, a4, a5, a6] (.long p1 :: .ref p0 :: st) ah Q = WP E (c + 1) 257 280 [a0, a1, a2, a3, a4, a5, a6] (r.toList ++ st) ah1 Q := wp_call (As := [.ref p0, .long p1]) i257_277 (fun _ => rfl) rfl mr262.1 (rcv_1 h2 mr262.2.2 (by decide)) h3 (by rw [mr262.2.1]; exact Nat.le_of_ble_eq_true rfl) h
theorem i257_280 : insAt 257 280 = some (.iadd, 281) := by decide +kernel
theorem r257_280 {E : aEnv} {c : Nat} {ah : aHp} {st : List Value} {Q : Option Value → aHp → Prop} {a0 a1 a2 a3 a4 a5 a6 : Option Value} {x y : Int32} : WP E c 257 280 [a0, a1, a2, a3, a4, a5, a6] (.int y :: .int x :: st) ah Q = WP E c 257 281 [a0, a1, a2, a3, a4, a5, a6] (.int (x + y) :: st) ah Q := wp_s i257_280 rfl rfl rfl rfl
theorem i257_281 : insAt 257 281 = some (.iadd, 282) := by decide +kernel
theorem r257_281 {E : aEnv} {c : Nat} {ah : aHp} {st : List Value} {Q : Option Value → aHp → Prop} {a0 a1 a2 a3 a4 a5 a6 : Option Value} {x y : Int32} : WP E c 257 281 [a0, a1, a2, a3, a4, a5, a6] (.int y :: .int x :: st) ah Q = WP E c 257 282 [a0, a1, a2, a3, a4, a5, a6] (.int (x + y) :: st) ah Q := wp_s i257_281 rfl rfl rfl rfl
theorem i257_282 : insAt 257 282 = some (.putfield 11630, 285) := by decide +kernel
theorem r257_282 {E : aEnv} {c : Nat} {ah : aHp} {st : List Value} {Q : Option Value → aHp → Prop} {a0 a1 a2 a3 a4 a5 a6 : Option Value} {a : Nat} {v : Value} : WP E c 257 282 [a0, a1, a2, a3, a4, a5, a6] (v :: .ref a :: st) ah Q = WPo (oPF (hg E ah a) 11630 v) (fun e => WP E c 257 285 [a0, a1, a2, a3, a4, a5, a6] st (hs E ah a e) Q) := wp_putf i257_282
theorem i257_285 : insAt 257 285 = some (.aload 0, 286) := by decide +kernel
theorem r257_285 {E : aEnv} {c : Nat} {ah : aHp} {st : List Value} {Q : Option Value → aHp → Prop} {a1 a2 a3 a4 a5 a6 : Option Value} {x : Nat} : WP E c 257 285 [some (.ref x), a1, a2, a3, a4, a5, a6] (st) ah Q = WP E c 257 286 [some (.ref x), a1, a2, a3, a4, a5, a6] (.ref x :: st) ah Q := wp_s i257_285 rfl rfl rfl rfl
theorem i257_286 : insAt 257 286 = some (.iload 1, 287) := by decide +kernel
theorem r257_286 {E : aEnv} {c : Nat} {ah : aHp} {st : List Value} {Q : Option Value → aHp → Prop} {a0 a2 a3 a4 a5 a6 : Option Value} {x : Int32} : WP E c 257 286 [a0, some (.int x), a2, a3, a4, a5, a6] (st) ah Q = WP E c 257 287 [a0, some (.int x), a2, a3, a4, a5, a6] (.int x :: st) ah Q := wp_s i257_286 rfl rfl rfl rfl
theorem i257_287 : insAt 257 287 = some (.lload 2, 288) := by decide +kernel
theorem r257_287 {E : aEnv} {c : Nat} {ah : aHp} {st : List Value} {Q : Option Value → aHp → Prop} {a0 a1 a3 a4 a5 a6 : Option Value} {x : Int64} : WP E c 257 287 [a0, a1, some (.long x), a3, a4, a5, a6] (st) ah Q = WP E c 257 288 [a0, a1, some (.long x), a3, a4, a5, a6] (.long x :: st) ah Q := wp_s i257_287 rfl rfl rfl rfl
theorem i257_288 : insAt 257 288 = some (.lload 4, 290) := by decide +kernel
theorem r257_288 {E : aEnv} {c : Nat} {ah : aHp} {st : List Value} {Q : Option Value → aHp → Prop} {a0 a1 a2 a3 a5 a6 : Option Value} {x : Int64} : WP E c 257 288 [a0, a1, a2, a3, some (.long x), a5, a6] (st) ah Q = WP E c 257 290 [a0, a1, a2, a3, some (.long x), a5, a6] (.long x :: st) ah Q := wp_s i257_288 rfl rfl rfl rfl
theorem i257_290 : insAt 257 290 = some (.ldiv, 291) := by decide +kernel
theorem r257_290 {E : aEnv} {c : Nat} {ah : aHp} {st : List Value} {Q : Option Value → aHp → Prop} {a0 a1 a2 a3 a4 a5 a6 : Option Value} {x y : Int64} (hy : ¬ y = 0) : WP E c 257 290 [a0, a1, a2, a3, a4, a5, a6] (.long y :: .long x :: st) ah Q = WP E c 257 291 [a0, a1, a2, a3, a4, a5, a6] (.long (x / y) :: st) ah Q := wp_st (z := (291, [a0, a1, a2, a3, a4, a5, a6], .long (x / y) :: st, ah)) i257_290 rfl rfl rfl (by simp [st1, skA, tD, hy])
theorem i257_291 : insAt 257 291 = some (.invokevirtual 256, 294) := by decide +kernel
theorem r257_291 {E : aEnv} {c : Nat} {ah ah1 : aHp} {r : Option Value} {st : List Value} {Q : Option Value → aHp → Prop} {a0 a1 a2 a3 a4 a5 a6 : Option Value} {p0 : Nat} {p1 : Int32} {p2 : Int64} (h : EV E c 256 [.ref p0, .int p1, .long p2] ah r ah1) (h2 : oCI (hg E ah p0) = 11) (h3 : wds st ≤ 8) : WP E (c + 1) 257 291 [a0, a1, a2, a3, a4, a5, a6] (.long p2 :: .int p1 :: .ref p0 :: st) ah Q = WP E (c + 1) 257 294 [a0, a1, a2, a3, a4, a5, a6] (r.toList ++ st) ah1 Q := wp_call (As := [.ref p0, .int p1, .long p2]) i257_291 (fun _ => rfl) rfl mr256.1 (rcv_1 h2 mr256.2.2 (by decide)) h3 (by rw [mr256.2.1]; exact Nat.le_of_ble_eq_true rfl) h
theorem i257_294 : insAt 257 294 = some (.aload 0, 295) := by decide +kernel
theorem r257_294 {E : aEnv} {c : Nat} {ah : aHp} {st : List Value} {Q : Option Value → aHp → Prop} {a1 a2 a3 a4 a5 a6 : Option Value} {x : Nat} : WP E c 257 294 [some (.ref x), a1, a2, a3, a4, a5, a6] (st) ah Q = WP E c 257 295 [some (.ref x), a1, a2, a3, a4, a5, a6] (.ref x :: st) ah Q := wp_s i257_294 rfl rfl rfl rfl
theorem i257_295 : insAt 257 295 = some (.getfield 11582, 298) := by decide +kernel
theorem r257_295 {E : aEnv} {c : Nat} {ah : aHp} {st : List Value} {Q : Option Value → aHp → Prop} {a0 a1 a2 a3 a4 a5 a6 : Option Value} {a : Nat} : WP E c 257 295 [a0, a1, a2, a3, a4, a5, a6] (.ref a :: st) ah Q = WPo (oGF (hg E ah a) 11 58) (fun v => WP E c 257 298 [a0, a1, a2, a3, a4, a5, a6] (v :: st) ah Q) := wp_getf i257_295
theorem i257_298 : insAt 257 298 = some (.aload 0, 299) := by decide +kernel
theorem r257_298 {E : aEnv} {c : Nat} {ah : aHp} {st : List Value} {Q : Option Value → aHp → Prop} {a1 a2 a3 a4 a5 a6 : Option Value} {x : Nat} : WP E c 257 298 [some (.ref x), a1, a2, a3, a4, a5, a6] (st) ah Q = WP E c 257 299 [some (.ref x), a1, a2, a3, a4, a5, a6] (.ref x :: st) ah Q := wp_s i257_298 rfl rfl rfl rfl
theorem i257_299 : insAt 257 299 = some (.getfield 11472, 302) := by decide +kernel
theorem r257_299 {E : aEnv} {c : Nat} {ah : aHp} {st : List Value} {Q : Option Value → aHp → Prop} {a0 a1 a2 a3 a4 a5 a6 : Option Value} {a : Nat} : WP E c 257 299 [a0, a1, a2, a3, a4, a5, a6] (.ref a :: st) ah Q = WPo (oGF (hg E ah a) 11 47) (fun v => WP E c 257 302 [a0, a1, a2, a3, a4, a5, a6] (v :: st) ah Q) := wp_getf i257_299
theorem i257_302 : insAt 257 302 = some (.iload 1, 303) := by decide +kernel
theorem r257_302 {E : aEnv} {c : Nat} {ah : aHp} {st : List Value} {Q : Option Value → aHp → Prop} {a0 a2 a3 a4 a5 a6 : Option Value} {x : Int32} : WP E c 257 302 [a0, some (.int x), a2, a3, a4, a5, a6] (st) ah Q = WP E c 257 303 [a0, some (.int x), a2, a3, a4, a5, a6] (.int x :: st) ah Q := wp_s i257_302 rfl rfl rfl rfl
theorem i257_303 : insAt 257 303 = some (.iaload, 304) := by decide +kernel
theorem r257_303 {E : aEnv} {c : Nat} {ah : aHp} {st : List Value} {Q : Option Value → aHp → Prop} {a0 a1 a2 a3 a4 a5 a6 : Option Value} {i : Int32} {a : Nat} : WP E c 257 303 [a0, a1, a2, a3, a4, a5, a6] (.int i :: .ref a :: st) ah Q = WPo (gI E ah (.int i :: .ref a :: st)) (fun s9 => WP E c 257 304 [a0, a1, a2, a3, a4, a5, a6] s9 ah Q) := wp_hr i257_303 rfl rfl rfl rfl rfl rfl rfl rfl
theorem i257_304 : insAt 257 304 = some (.lload 2, 305) := by decide +kernel
theorem r257_304 {E : aEnv} {c : Nat} {ah : aHp} {st : List Value} {Q : Option Value → aHp → Prop} {a0 a1 a3 a4 a5 a6 : Option Value} {x : Int64} : WP E c 257 304 [a0, a1, some (.long x), a3, a4, a5, a6] (st) ah Q = WP E c 257 305 [a0, a1, some (.long x), a3, a4, a5, a6] (.long x :: st) ah Q := wp_s i257_304 rfl rfl rfl rfl
theorem i257_305 : insAt 257 305 = some (.lload 4, 307) := by decide +kernel
theorem r257_305 {E : aEnv} {c : Nat} {ah : aHp} {st : List Value} {Q : Option Value → aHp → Prop} {a0 a1 a2 a3 a5 a6 : Option Value} {x : Int64} : WP E c 257 305 [a0, a1, a2, a3, some (.long x), a5, a6] (st) ah Q = WP E c 257 307 [a0, a1, a2, a3, some (.long x), a5, a6] (.long x :: st) ah Q := wp_s i257_305 rfl rfl rfl rfl
theorem i257_307 : insAt 257 307 = some (.lrem, 308) := by decide +kernel
theorem r257_307 {E : aEnv} {c : Nat} {ah : aHp} {st : List Value} {Q : Option Value → aHp → Prop} {a0 a1 a2 a3 a4 a5 a6 : Option Value} {x y : Int64} (hy : ¬ y = 0) : WP E c 257 307 [a0, a1, a2, a3, a4, a5, a6] (.long y :: .long x :: st) ah Q = WP E c 257 308 [a0, a1, a2, a3, a4, a5, a6] (.long (x - x / y * y) :: st) ah Q := wp_st (z := (308, [a0, a1, a2, a3, a4, a5, a6], .long (x - x / y * y) :: st, ah)) i257_307 rfl rfl rfl (by simp [st1, skA, tD, hy])
theorem i257_308 : insAt 257 308 = some (.lastore, 309) := by decide +kernel
theorem r257_308 {E : aEnv} {c : Nat} {ah : aHp} {st : List Value} {Q : Option Value → aHp → Prop} {a0 a1 a2 a3 a4 a5 a6 : Option Value} {x : Int64} {i : Int32} {a : Nat} : WP E c 257 308 [a0, a1, a2, a3, a4, a5, a6] (.long x :: .int i :: .ref a :: st) ah Q = WPo (pL E ah (.long x :: .int i :: .ref a :: st)) (fun q9 => WP E c 257 309 [a0, a1, a2, a3, a4, a5, a6] q9.1 q9.2 Q) := wp_hw i257_308 rfl rfl rfl rfl rfl rfl rfl rfl
theorem i257_309 : insAt 257 309 = some (.iload 1, 310) := by decide +kernel
theorem r257_309 {E : aEnv} {c : Nat} {ah : aHp} {st : List Value} {Q : Option Value → aHp → Prop} {a0 a2 a3 a4 a5 a6 : Option Value} {x : Int32} : WP E c 257 309 [a0, some (.int x), a2, a3, a4, a5, a6] (st) ah Q = WP E c 257 310 [a0, some (.int x), a2, a3, a4, a5, a6] (.int x :: st) ah Q := wp_s i257_309 rfl rfl rfl rfl
theorem i257_310 : insAt 257 310 = some (.iconst 1, 311) := by decide +kernel
theorem r257_310 {E : aEnv} {c : Nat} {ah : aHp} {st : List Value} {Q : Option Value → aHp → Prop} {a0 a1 a2 a3 a4 a5 a6 : Option Value} : WP E c 257 310 [a0, a1, a2, a3, a4, a5, a6] (st) ah Q = WP E c 257 311 [a0, a1, a2, a3, a4, a5, a6] (.int (1) :: st) ah Q := wp_s i257_310 rfl rfl rfl rfl
theorem i257_311 : insAt 257 311 = some (.iadd, 312) := by decide +kernel
theorem r257_311 {E : aEnv} {c : Nat} {ah : aHp} {st : List Value} {Q : Option Value → aHp → Prop} {a0 a1 a2 a3 a4 a5 a6 : Option Value} {x y : Int32} : WP E c 257 311 [a0, a1, a2, a3, a4, a5, a6] (.int y :: .int x :: st) ah Q = WP E c 257 312 [a0, a1, a2, a3, a4, a5, a6] (.int (x + y) :: st) ah Q := wp_s i257_311 rfl rfl rfl rfl
theorem i257_312 : insAt 257 312 = some (.ireturn, 313) := by decide +kernel
theorem r257_312 {E : aEnv} {c : Nat} {ah : aHp} {Q : Option Value → aHp → Prop} {a0 a1 a2 a3 a4 a5 a6 : Option Value} {x : Int32} : WP E c 257 312 [a0, a1, a2, a3, a4, a5, a6] ([.int x]) ah Q = Q (some (.int x)) ah := wp_rt i257_312 rfl
theorem i257_313 : insAt 257 313 = some (.aload 0, 314) := by decide +kernel
theorem r257_313 {E : aEnv} {c : Nat} {ah : aHp} {st : List Value} {Q : Option Value → aHp → Prop} {a1 a2 a3 a4 a5 a6 : Option Value} {x : Nat} : WP E c 257 313 [some (.ref x), a1, a2, a3, a4, a5, a6] (st) ah Q = WP E c 257 314 [some (.ref x), a1, a2, a3, a4, a5, a6] (.ref x :: st) ah Q := wp_s i257_313 rfl rfl rfl rfl
theorem i257_314 : insAt 257 314 = some (.getfield 11592, 317) := by decide +kernel
theorem r257_314 {E : aEnv} {c : Nat} {ah : aHp} {st : List Value} {Q : Option Value → aHp → Prop} {a0 a1 a2 a3 a4 a5 a6 : Option Value} {a : Nat} : WP E c 257 314 [a0, a1, a2, a3, a4, a5, a6] (.ref a :: st) ah Q = WPo (oGF (hg E ah a) 11 59) (fun v => WP E c 257 317 [a0, a1, a2, a3, a4, a5, a6] (v :: st) ah Q) := wp_getf i257_314
theorem i257_317 : insAt 257 317 = some (.aload 0, 318) := by decide +kernel
theorem r257_317 {E : aEnv} {c : Nat} {ah : aHp} {st : List Value} {Q : Option Value → aHp → Prop} {a1 a2 a3 a4 a5 a6 : Option Value} {x : Nat} : WP E c 257 317 [some (.ref x), a1, a2, a3, a4, a5, a6] (st) ah Q = WP E c 257 318 [some (.ref x), a1, a2, a3, a4, a5, a6] (.ref x :: st) ah Q := wp_s i257_317 rfl rfl rfl rfl
theorem i257_318 : insAt 257 318 = some (.getfield 11620, 321) := by decide +kernel
theorem r257_318 {E : aEnv} {c : Nat} {ah : aHp} {st : List Value} {Q : Option Value → aHp → Prop} {a0 a1 a2 a3 a4 a5 a6 : Option Value} {a : Nat} : WP E c 257 318 [a0, a1, a2, a3, a4, a5, a6] (.ref a :: st) ah Q = WPo (oGF (hg E ah a) 11 62) (fun v => WP E c 257 321 [a0, a1, a2, a3, a4, a5, a6] (v :: st) ah Q) := wp_getf i257_318
theorem i257_321 : insAt 257 321 = some (.lload 2, 322) := by decide +kernel
theorem r257_321 {E : aEnv} {c : Nat} {ah : aHp} {st : List Value} {Q : Option Value → aHp → Prop} {a0 a1 a3 a4 a5 a6 : Option Value} {x : Int64} : WP E c 257 321 [a0, a1, some (.long x), a3, a4, a5, a6] (st) ah Q = WP E c 257 322 [a0, a1, some (.long x), a3, a4, a5, a6] (.long x :: st) ah Q := wp_s i257_321 rfl rfl rfl rfl
theorem i257_322 : insAt 257 322 = some (.lastore, 323) := by decide +kernel
theorem r257_322 {E : aEnv} {c : Nat} {ah : aHp} {st : List Value} {Q : Option Value → aHp → Prop} {a0 a1 a2 a3 a4 a5 a6 : Option Value} {x : Int64} {i : Int32} {a : Nat} : WP E c 257 322 [a0, a1, a2, a3, a4, a5, a6] (.long x :: .int i :: .ref a :: st) ah Q = WPo (pL E ah (.long x :: .int i :: .ref a :: st)) (fun q9 => WP E c 257 323 [a0, a1, a2, a3, a4, a5, a6] q9.1 q9.2 Q) := wp_hw i257_322 rfl rfl rfl rfl rfl rfl rfl rfl
theorem i257_323 : insAt 257 323 = some (.aload 0, 324) := by decide +kernel
theorem r257_323 {E : aEnv} {c : Nat} {ah : aHp} {st : List Value} {Q : Option Value → aHp → Prop} {a1 a2 a3 a4 a5 a6 : Option Value} {x : Nat} : WP E c 257 323 [some (.ref x), a1, a2, a3, a4, a5, a6] (st) ah Q = WP E c 257 324 [some (.ref x), a1, a2, a3, a4, a5, a6] (.ref x :: st) ah Q := wp_s i257_323 rfl rfl rfl rfl
theorem i257_324 : insAt 257 324 = some (.dup, 325) := by decide +kernel
theorem r257_324 {E : aEnv} {c : Nat} {ah : aHp} {st : List Value} {Q : Option Value → aHp → Prop} {a0 a1 a2 a3 a4 a5 a6 : Option Value} {x : Nat} : WP E c 257 324 [a0, a1, a2, a3, a4, a5, a6] (.ref x :: st) ah Q = WP E c 257 325 [a0, a1, a2, a3, a4, a5, a6] (.ref x :: .ref x :: st) ah Q := wp_s i257_324 rfl rfl rfl rfl
theorem r257_324i {E : aEnv} {c : Nat} {ah : aHp} {st : List Value} {Q : Option Value → aHp → Prop} {a0 a1 a2 a3 a4 a5 a6 : Option Value} {x : Int32} : WP E c 257 324 [a0, a1, a2, a3, a4, a5, a6] (.int x :: st) ah Q = WP E c 257 325 [a0, a1, a2, a3, a4, a5, a6] (.int x :: .int x :: st) ah Q := wp_s i257_324 rfl rfl rfl rfl
theorem i257_325 : insAt 257 325 = some (.getfield 11620, 328) := by decide +kernel
theorem r257_325 {E : aEnv} {c : Nat} {ah : aHp} {st : List Value} {Q : Option Value → aHp → Prop} {a0 a1 a2 a3 a4 a5 a6 : Option Value} {a : Nat} : WP E c 257 325 [a0, a1, a2, a3, a4, a5, a6] (.ref a :: st) ah Q = WPo (oGF (hg E ah a) 11 62) (fun v => WP E c 257 328 [a0, a1, a2, a3, a4, a5, a6] (v :: st) ah Q) := wp_getf i257_325
theorem i257_328 : insAt 257 328 = some (.iconst 1, 329) := by decide +kernel
theorem r257_328 {E : aEnv} {c : Nat} {ah : aHp} {st : List Value} {Q : Option Value → aHp → Prop} {a0 a1 a2 a3 a4 a5 a6 : Option Value} : WP E c 257 328 [a0, a1, a2, a3, a4, a5, a6] (st) ah Q = WP E c 257 329 [a0, a1, a2, a3, a4, a5, a6] (.int (1) :: st) ah Q := wp_s i257_328 rfl rfl rfl rfl
theorem i257_329 : insAt 257 329 = some (.iadd, 330) := by decide +kernel
theorem r257_329 {E : aEnv} {c : Nat} {ah : aHp} {st : List Value} {Q : Option Value → aHp → Prop} {a0 a1 a2 a3 a4 a5 a6 : Option Value} {x y : Int32} : WP E c 257 329 [a0, a1, a2, a3, a4, a5, a6] (.int y :: .int x :: st) ah Q = WP E c 257 330 [a0, a1, a2, a3, a4, a5, a6] (.int (x + y) :: st) ah Q := wp_s i257_329 rfl rfl rfl rfl
theorem i257_330 : insAt 257 330 = some (.putfield 11620, 333) := by decide +kernel
theorem r257_330 {E : aEnv} {c : Nat} {ah : aHp} {st : List Value} {Q : Option Value → aHp → Prop} {a0 a1 a2 a3 a4 a5 a6 : Option Value} {a : Nat} {v : Value} : WP E c 257 330 [a0, a1, a2, a3, a4, a5, a6] (v :: .ref a :: st) ah Q = WPo (oPF (hg E ah a) 11620 v) (fun e => WP E c 257 333 [a0, a1, a2, a3, a4, a5, a6] st (hs E ah a e) Q) := wp_putf i257_330
theorem i257_333 : insAt 257 333 = some (.aload 0, 334) := by decide +kernel
theorem r257_333 {E : aEnv} {c : Nat} {ah : aHp} {st : List Value} {Q : Option Value → aHp → Prop} {a1 a2 a3 a4 a5 a6 : Option Value} {x : Nat} : WP E c 257 333 [some (.ref x), a1, a2, a3, a4, a5, a6] (st) ah Q = WP E c 257 334 [some (.ref x), a1, a2, a3, a4, a5, a6] (.ref x :: st) ah Q := wp_s i257_333 rfl rfl rfl rfl
theorem i257_334 : insAt 257 334 = some (.dup, 335) := by decide +kernel
theorem r257_334 {E : aEnv} {c : Nat} {ah : aHp} {st : List Value} {Q : Option Value → aHp → Prop} {a0 a1 a2 a3 a4 a5 a6 : Option Value} {x : Nat} : WP E c 257 334 [a0, a1, a2, a3, a4, a5, a6] (.ref x :: st) ah Q = WP E c 257 335 [a0, a1, a2, a3, a4, a5, a6] (.ref x :: .ref x :: st) ah Q := wp_s i257_334 rfl rfl rfl rfl
theorem r257_334i {E : aEnv} {c : Nat} {ah : aHp} {st : List Value} {Q : Option Value → aHp → Prop} {a0 a1 a2 a3 a4 a5 a6 : Option Value} {x : Int32} : WP E c 257 334 [a0, a1, a2, a3, a4, a5, a6] (.int x :: st) ah Q = WP E c 257 335 [a0, a1, a2, a3, a4, a5, a6] (.int x :: .int x :: st) ah Q := wp_s i257_334 rfl rfl rfl rfl
theorem i257_335 : insAt 257 335 = some (.getfield 11630, 338) := by decide +kernel
theorem r257_335 {E : aEnv} {c : Nat} {ah : aHp} {st : List Value} {Q : Option Value → aHp → Prop} {a0 a1 a2 a3 a4 a5 a6 : Option Value} {a : Nat} : WP E c 257 335 [a0, a1, a2, a3, a4, a5, a6] (.ref a :: st) ah Q = WPo (oGF (hg E ah a) 11 63) (fun v => WP E c 257 338 [a0, a1, a2, a3, a4, a5, a6] (v :: st) ah Q) := wp_getf i257_335
theorem i257_338 : insAt 257 338 = some (.iconst 1, 339) := by decide +kernel
theorem r257_338 {E : aEnv} {c : Nat} {ah : aHp} {st : List Value} {Q : Option Value → aHp → Prop} {a0 a1 a2 a3 a4 a5 a6 : Option Value} : WP E c 257 338 [a0, a1, a2, a3, a4, a5, a6] (st) ah Q = WP E c 257 339 [a0, a1, a2, a3, a4, a5, a6] (.int (1) :: st) ah Q := wp_s i257_338 rfl rfl rfl rfl
theorem i257_339 : insAt 257 339 = some (.iadd, 340) := by decide +kernel
theorem r257_339 {E : aEnv} {c : Nat} {ah : aHp} {st : List Value} {Q : Option Value → aHp → Prop} {a0 a1 a2 a3 a4 a5 a6 : Option Value} {x y : Int32} : WP E c 257 339 [a0, a1, a2, a3, a4, a5, a6] (.int y :: .int x :: st) ah Q = WP E c 257 340 [a0, a1, a2, a3, a4, a5, a6] (.int (x + y) :: st) ah Q := wp_s i257_339 rfl rfl rfl rfl
theorem i257_340 : insAt 257 340 = some (.putfield 11630, 343) := by decide +kernel
theorem r257_340 {E : aEnv} {c : Nat} {ah : aHp} {st : List Value} {Q : Option Value → aHp → Prop} {a0 a1 a2 a3 a4 a5 a6 : Option Value} {a : Nat} {v : Value} : WP E c 257 340 [a0, a1, a2, a3, a4, a5, a6] (v :: .ref a :: st) ah Q = WPo (oPF (hg E ah a) 11630 v) (fun e => WP E c 257 343 [a0, a1, a2, a3, a4, a5, a6] st (hs E ah a e) Q) := wp_putf i257_340
theorem i257_343 : insAt 257 343 = some (.iload 1, 344) := by decide +kernel
theorem r257_343 {E : aEnv} {c : Nat} {ah : aHp} {st : List Value} {Q : Option Value → aHp → Prop} {a0 a2 a3 a4 a5 a6 : Option Value} {x : Int32} : WP E c 257 343 [a0, some (.int x), a2, a3, a4, a5, a6] (st) ah Q = WP E c 257 344 [a0, some (.int x), a2, a3, a4, a5, a6] (.int x :: st) ah Q := wp_s i257_343 rfl rfl rfl rfl
theorem i257_344 : insAt 257 344 = some (.iconst 1, 345) := by decide +kernel
theorem r257_344 {E : aEnv} {c : Nat} {ah : aHp} {st : List Value} {Q : Option Value → aHp → Prop} {a0 a1 a2 a3 a4 a5 a6 : Option Value} : WP E c 257 344 [a0, a1, a2, a3, a4, a5, a6] (st) ah Q = WP E c 257 345 [a0, a1, a2, a3, a4, a5, a6] (.int (1) :: st) ah Q := wp_s i257_344 rfl rfl rfl rfl
theorem i257_345 : insAt 257 345 = some (.iadd, 346) := by decide +kernel
theorem r257_345 {E : aEnv} {c : Nat} {ah : aHp} {st : List Value} {Q : Option Value → aHp → Prop} {a0 a1 a2 a3 a4 a5 a6 : Option Value} {x y : Int32} : WP E c 257 345 [a0, a1, a2, a3, a4, a5, a6] (.int y :: .int x :: st) ah Q = WP E c 257 346 [a0, a1, a2, a3, a4, a5, a6] (.int (x + y) :: st) ah Q := wp_s i257_345 rfl rfl rfl rfl
theorem i257_346 : insAt 257 346 = some (.ireturn, 347) := by decide +kernel
theorem r257_346 {E : aEnv} {c : Nat} {ah : aHp} {Q : Option Value → aHp → Prop} {a0 a1 a2 a3 a4 a5 a6 : Option Value} {x : Int32} : WP E c 257 346 [a0, a1, a2, a3, a4, a5, a6] ([.int x]) ah Q = Q (some (.int x)) ah := wp_rt i257_346 rfl
theorem i257_347 : insAt 257 347 = some (.aload 0, 348) := by decide +kernel
theorem r257_347 {E : aEnv} {c : Nat} {ah : aHp} {st : List Value} {Q : Option Value → aHp → Prop} {a1 a2 a3 a4 a5 a6 : Option Value} {x : Nat} : WP E c 257 347 [some (.ref x), a1, a2, a3, a4, a5, a6] (st) ah Q = WP E c 257 348 [some (.ref x), a1, a2, a3, a4, a5, a6] (.ref x :: st) ah Q := wp_s i257_347 rfl rfl rfl rfl
theorem i257_348 : insAt 257 348 = some (.dup, 349) := by decide +kernel
theorem r257_348 {E : aEnv} {c : Nat} {ah : aHp} {st : List Value} {Q : Option Value → aHp → Prop} {a0 a1 a2 a3 a4 a5 a6 : Option Value} {x : Nat} : WP E c 257 348 [a0, a1, a2, a3, a4, a5, a6] (.ref x :: st) ah Q = WP E c 257 349 [a0, a1, a2, a3, a4, a5, a6] (.ref x :: .ref x :: st) ah Q := wp_s i257_348 rfl rfl rfl rfl
theorem r257_348i {E : aEnv} {c : Nat} {ah : aHp} {st : List Value} {Q : Option Value → aHp → Prop} {a0 a1 a2 a3 a4 a5 a6 : Option Value} {x : Int32} : WP E c 257 348 [a0, a1, a2, a3, a4, a5, a6] (.int x :: st) ah Q = WP E c 257 349 [a0, a1, a2, a3, a4, a5, a6] (.int x :: .int x :: st) ah Q := wp_s i257_348 rfl rfl rfl rfl
theorem i257_349 : insAt 257 349 = some (.getfield 11630, 352) := by decide +kernel
theorem r257_349 {E : aEnv} {c : Nat} {ah : aHp} {st : List Value} {Q : Option Value → aHp → Prop} {a0 a1 a2 a3 a4 a5 a6 : Option Value} {a : Nat} : WP E c 257 349 [a0, a1, a2, a3, a4, a5, a6] (.ref a :: st) ah Q = WPo (oGF (hg E ah a) 11 63) (fun v => WP E c 257 352 [a0, a1, a2, a3, a4, a5, a6] (v :: st) ah Q) := wp_getf i257_349
theorem i257_352 : insAt 257 352 = some (.iload 6, 354) := by decide +kernel
theorem r257_352 {E : aEnv} {c : Nat} {ah : aHp} {st : List Value} {Q : Option Value → aHp → Prop} {a0 a1 a2 a3 a4 a5 : Option Value} {x : Int32} : WP E c 257 352 [a0, a1, a2, a3, a4, a5, some (.int x)] (st) ah Q = WP E c 257 354 [a0, a1, a2, a3, a4, a5, some (.int x)] (.int x :: st) ah Q := wp_s i257_352 rfl rfl rfl rfl
theorem i257_354 : insAt 257 354 = some (.ifCond .eq 366, 357) := by decide +kernel
theorem r257_354 {E : aEnv} {c : Nat} {ah : aHp} {st : List Value} {Q : Option Value → aHp → Prop} {a0 a1 a2 a3 a4 a5 a6 : Option Value} {x : Int32} : WP E c 257 354 [a0, a1, a2, a3, a4, a5, a6] (.int x :: st) ah Q = if x = 0 then WP E c 257 366 [a0, a1, a2, a3, a4, a5, a6] st ah Q else WP E c 257 357 [a0, a1, a2, a3, a4, a5, a6] st ah Q := wp_j i257_354 rfl rfl rfl rfl
theorem i257_357 : insAt 257 357 = some (.aload 0, 358) := by decide +kernel
theorem r257_357 {E : aEnv} {c : Nat} {ah : aHp} {st : List Value} {Q : Option Value → aHp → Prop} {a1 a2 a3 a4 a5 a6 : Option Value} {x : Nat} : WP E c 257 357 [some (.ref x), a1, a2, a3, a4, a5, a6] (st) ah Q = WP E c 257 358 [some (.ref x), a1, a2, a3, a4, a5, a6] (.ref x :: st) ah Q := wp_s i257_357 rfl rfl rfl rfl
theorem i257_358 : insAt 257 358 = some (.getfield 11442, 361) := by decide +kernel
theorem r257_358 {E : aEnv} {c : Nat} {ah : aHp} {st : List Value} {Q : Option Value → aHp → Prop} {a0 a1 a2 a3 a4 a5 a6 : Option Value} {a : Nat} : WP E c 257 358 [a0, a1, a2, a3, a4, a5, a6] (.ref a :: st) ah Q = WPo (oGF (hg E ah a) 11 44) (fun v => WP E c 257 361 [a0, a1, a2, a3, a4, a5, a6] (v :: st) ah Q) := wp_getf i257_358
theorem i257_361 : insAt 257 361 = some (.iload 1, 362) := by decide +kernel
theorem r257_361 {E : aEnv} {c : Nat} {ah : aHp} {st : List Value} {Q : Option Value → aHp → Prop} {a0 a2 a3 a4 a5 a6 : Option Value} {x : Int32} : WP E c 257 361 [a0, some (.int x), a2, a3, a4, a5, a6] (st) ah Q = WP E c 257 362 [a0, some (.int x), a2, a3, a4, a5, a6] (.int x :: st) ah Q := wp_s i257_361 rfl rfl rfl rfl
theorem i257_362 : insAt 257 362 = some (.iaload, 363) := by decide +kernel
theorem r257_362 {E : aEnv} {c : Nat} {ah : aHp} {st : List Value} {Q : Option Value → aHp → Prop} {a0 a1 a2 a3 a4 a5 a6 : Option Value} {i : Int32} {a : Nat} : WP E c 257 362 [a0, a1, a2, a3, a4, a5, a6] (.int i :: .ref a :: st) ah Q = WPo (gI E ah (.int i :: .ref a :: st)) (fun s9 => WP E c 257 363 [a0, a1, a2, a3, a4, a5, a6] s9 ah Q) := wp_hr i257_362 rfl rfl rfl rfl rfl rfl rfl rfl
theorem i257_363 : insAt 257 363 = some (.goto 367, 366) := by decide +kernel
theorem r257_363 {E : aEnv} {c : Nat} {ah : aHp} {st : List Value} {Q : Option Value → aHp → Prop} {a0 a1 a2 a3 a4 a5 a6 : Option Value} : WP E c 257 363 [a0, a1, a2, a3, a4, a5, a6] (st) ah Q = WP E c 257 367 [a0, a1, a2, a3, a4, a5, a6] st ah Q := wp_s i257_363 rfl rfl rfl rfl
theorem i257_366 : insAt 257 366 = some (.iconst 0, 367) := by decide +kernel
theorem r257_366 {E : aEnv} {c : Nat} {ah : aHp} {st : List Value} {Q : Option Value → aHp → Prop} {a0 a1 a2 a3 a4 a5 a6 : Option Value} : WP E c 257 366 [a0, a1, a2, a3, a4, a5, a6] (st) ah Q = WP E c 257 367 [a0, a1, a2, a3, a4, a5, a6] (.int (0) :: st) ah Q := wp_s i257_366 rfl rfl rfl rfl
theorem i257_367 : insAt 257 367 = some (.iadd, 368) := by decide +kernel
theorem r257_367 {E : aEnv} {c : Nat} {ah : aHp} {st : List Value} {Q : Option Value → aHp → Prop} {a0 a1 a2 a3 a4 a5 a6 : Option Value} {x y : Int32} : WP E c 257 367 [a0, a1, a2, a3, a4, a5, a6] (.int y :: .int x :: st) ah Q = WP E c 257 368 [a0, a1, a2, a3, a4, a5, a6] (.int (x + y) :: st) ah Q := wp_s i257_367 rfl rfl rfl rfl
theorem i257_368 : insAt 257 368 = some (.putfield 11630, 371) := by decide +kernel
theorem r257_368 {E : aEnv} {c : Nat} {ah : aHp} {st : List Value} {Q : Option Value → aHp → Prop} {a0 a1 a2 a3 a4 a5 a6 : Option Value} {a : Nat} {v : Value} : WP E c 257 368 [a0, a1, a2, a3, a4, a5, a6] (v :: .ref a :: st) ah Q = WPo (oPF (hg E ah a) 11630 v) (fun e => WP E c 257 371 [a0, a1, a2, a3, a4, a5, a6] st (hs E ah a e) Q) := wp_putf i257_368
theorem i257_371 : insAt 257 371 = some (.iload 6, 373) := by decide +kernel
theorem r257_371 {E : aEnv} {c : Nat} {ah : aHp} {st : List Value} {Q : Option Value → aHp → Prop} {a0 a1 a2 a3 a4 a5 : Option Value} {x : Int32} : WP E c 257 371 [a0, a1, a2, a3, a4, a5, some (.int x)] (st) ah Q = WP E c 257 373 [a0, a1, a2, a3, a4, a5, some (.int x)] (.int x :: st) ah Q := wp_s i257_371 rfl rfl rfl rfl
theorem i257_373 : insAt 257 373 = some (.ifCond .eq 387, 376) := by decide +kernel
theorem r257_373 {E : aEnv} {c : Nat} {ah : aHp} {st : List Value} {Q : Option Value → aHp → Prop} {a0 a1 a2 a3 a4 a5 a6 : Option Value} {x : Int32} : WP E c 257 373 [a0, a1, a2, a3, a4, a5, a6] (.int x :: st) ah Q = if x = 0 then WP E c 257 387 [a0, a1, a2, a3, a4, a5, a6] st ah Q else WP E c 257 376 [a0, a1, a2, a3, a4, a5, a6] st ah Q := wp_j i257_373 rfl rfl rfl rfl
theorem i257_376 : insAt 257 376 = some (.iload 1, 377) := by decide +kernel
theorem r257_376 {E : aEnv} {c : Nat} {ah : aHp} {st : List Value} {Q : Option Value → aHp → Prop} {a0 a2 a3 a4 a5 a6 : Option Value} {x : Int32} : WP E c 257 376 [a0, some (.int x), a2, a3, a4, a5, a6] (st) ah Q = WP E c 257 377 [a0, some (.int x), a2, a3, a4, a5, a6] (.int x :: st) ah Q := wp_s i257_376 rfl rfl rfl rfl
theorem i257_377 : insAt 257 377 = some (.aload 0, 378) := by decide +kernel
theorem r257_377 {E : aEnv} {c : Nat} {ah : aHp} {st : List Value} {Q : Option Value → aHp → Prop} {a1 a2 a3 a4 a5 a6 : Option Value} {x : Nat} : WP E c 257 377 [some (.ref x), a1, a2, a3, a4, a5, a6] (st) ah Q = WP E c 257 378 [some (.ref x), a1, a2, a3, a4, a5, a6] (.ref x :: st) ah Q := wp_s i257_377 rfl rfl rfl rfl
theorem i257_378 : insAt 257 378 = some (.getfield 11442, 381) := by decide +kernel
theorem r257_378 {E : aEnv} {c : Nat} {ah : aHp} {st : List Value} {Q : Option Value → aHp → Prop} {a0 a1 a2 a3 a4 a5 a6 : Option Value} {a : Nat} : WP E c 257 378 [a0, a1, a2, a3, a4, a5, a6] (.ref a :: st) ah Q = WPo (oGF (hg E ah a) 11 44) (fun v => WP E c 257 381 [a0, a1, a2, a3, a4, a5, a6] (v :: st) ah Q) := wp_getf i257_378
theorem i257_381 : insAt 257 381 = some (.iload 1, 382) := by decide +kernel
theorem r257_381 {E : aEnv} {c : Nat} {ah : aHp} {st : List Value} {Q : Option Value → aHp → Prop} {a0 a2 a3 a4 a5 a6 : Option Value} {x : Int32} : WP E c 257 381 [a0, some (.int x), a2, a3, a4, a5, a6] (st) ah Q = WP E c 257 382 [a0, some (.int x), a2, a3, a4, a5, a6] (.int x :: st) ah Q := wp_s i257_381 rfl rfl rfl rfl
theorem i257_382 : insAt 257 382 = some (.iaload, 383) := by decide +kernel
theorem r257_382 {E : aEnv} {c : Nat} {ah : aHp} {st : List Value} {Q : Option Value → aHp → Prop} {a0 a1 a2 a3 a4 a5 a6 : Option Value} {i : Int32} {a : Nat} : WP E c 257 382 [a0, a1, a2, a3, a4, a5, a6] (.int i :: .ref a :: st) ah Q = WPo (gI E ah (.int i :: .ref a :: st)) (fun s9 => WP E c 257 383 [a0, a1, a2, a3, a4, a5, a6] s9 ah Q) := wp_hr i257_382 rfl rfl rfl rfl rfl rfl rfl rfl
theorem i257_383 : insAt 257 383 = some (.isub, 384) := by decide +kernel
theorem r257_383 {E : aEnv} {c : Nat} {ah : aHp} {st : List Value} {Q : Option Value → aHp → Prop} {a0 a1 a2 a3 a4 a5 a6 : Option Value} {x y : Int32} : WP E c 257 383 [a0, a1, a2, a3, a4, a5, a6] (.int y :: .int x :: st) ah Q = WP E c 257 384 [a0, a1, a2, a3, a4, a5, a6] (.int (x - y) :: st) ah Q := wp_s i257_383 rfl rfl rfl rfl
theorem i257_384 : insAt 257 384 = some (.goto 390, 387) := by decide +kernel
theorem r257_384 {E : aEnv} {c : Nat} {ah : aHp} {st : List Value} {Q : Option Value → aHp → Prop} {a0 a1 a2 a3 a4 a5 a6 : Option Value} : WP E c 257 384 [a0, a1, a2, a3, a4, a5, a6] (st) ah Q = WP E c 257 390 [a0, a1, a2, a3, a4, a5, a6] st ah Q := wp_s i257_384 rfl rfl rfl rfl
theorem i257_387 : insAt 257 387 = some (.iload 1, 388) := by decide +kernel
theorem r257_387 {E : aEnv} {c : Nat} {ah : aHp} {st : List Value} {Q : Option Value → aHp → Prop} {a0 a2 a3 a4 a5 a6 : Option Value} {x : Int32} : WP E c 257 387 [a0, some (.int x), a2, a3, a4, a5, a6] (st) ah Q = WP E c 257 388 [a0, some (.int x), a2, a3, a4, a5, a6] (.int x :: st) ah Q := wp_s i257_387 rfl rfl rfl rfl
theorem i257_388 : insAt 257 388 = some (.iconst 1, 389) := by decide +kernel
theorem r257_388 {E : aEnv} {c : Nat} {ah : aHp} {st : List Value} {Q : Option Value → aHp → Prop} {a0 a1 a2 a3 a4 a5 a6 : Option Value} : WP E c 257 388 [a0, a1, a2, a3, a4, a5, a6] (st) ah Q = WP E c 257 389 [a0, a1, a2, a3, a4, a5, a6] (.int (1) :: st) ah Q := wp_s i257_388 rfl rfl rfl rfl
theorem i257_389 : insAt 257 389 = some (.iadd, 390) := by decide +kernel
theorem r257_389 {E : aEnv} {c : Nat} {ah : aHp} {st : List Value} {Q : Option Value → aHp → Prop} {a0 a1 a2 a3 a4 a5 a6 : Option Value} {x y : Int32} : WP E c 257 389 [a0, a1, a2, a3, a4, a5, a6] (.int y :: .int x :: st) ah Q = WP E c 257 390 [a0, a1, a2, a3, a4, a5, a6] (.int (x + y) :: st) ah Q := wp_s i257_389 rfl rfl rfl rfl
theorem i257_390 : insAt 257 390 = some (.ireturn, 391) := by decide +kernel
theorem r257_390 {E : aEnv} {c : Nat} {ah : aHp} {Q : Option Value → aHp → Prop} {a0 a1 a2 a3 a4 a5 a6 : Option Value} {x : Int32} : WP E c 257 390 [a0, a1, a2, a3, a4, a5, a6] ([.int x]) ah Q = Q (some (.int x)) ah := wp_rt i257_390 rfl
theorem i257_391 : insAt 257 391 = some (.iload 6, 393) := by decide +kernel
theorem r257_391 {E : aEnv} {c : Nat} {ah : aHp} {st : List Value} {Q : Option Value → aHp → Prop} {a0 a1 a2 a3 a4 a5 : Option Value} {x : Int32} : WP E c 257 391 [a0, a1, a2, a3, a4, a5, some (.int x)] (st) ah Q = WP E c 257 393 [a0, a1, a2, a3, a4, a5, some (.int x)] (.int x :: st) ah Q := wp_s i257_391 rfl rfl rfl rfl
theorem i257_393 : insAt 257 393 = some (.ifCond .eq 407, 396) := by decide +kernel
theorem r257_393 {E : aEnv} {c : Nat} {ah : aHp} {st : List Value} {Q : Option Value → aHp → Prop} {a0 a1 a2 a3 a4 a5 a6 : Option Value} {x : Int32} : WP E c 257 393 [a0, a1, a2, a3, a4, a5, a6] (.int x :: st) ah Q = if x = 0 then WP E c 257 407 [a0, a1, a2, a3, a4, a5, a6] st ah Q else WP E c 257 396 [a0, a1, a2, a3, a4, a5, a6] st ah Q := wp_j i257_393 rfl rfl rfl rfl
theorem i257_396 : insAt 257 396 = some (.iload 1, 397) := by decide +kernel
theorem r257_396 {E : aEnv} {c : Nat} {ah : aHp} {st : List Value} {Q : Option Value → aHp → Prop} {a0 a2 a3 a4 a5 a6 : Option Value} {x : Int32} : WP E c 257 396 [a0, some (.int x), a2, a3, a4, a5, a6] (st) ah Q = WP E c 257 397 [a0, some (.int x), a2, a3, a4, a5, a6] (.int x :: st) ah Q := wp_s i257_396 rfl rfl rfl rfl
theorem i257_397 : insAt 257 397 = some (.aload 0, 398) := by decide +kernel
theorem r257_397 {E : aEnv} {c : Nat} {ah : aHp} {st : List Value} {Q : Option Value → aHp → Prop} {a1 a2 a3 a4 a5 a6 : Option Value} {x : Nat} : WP E c 257 397 [some (.ref x), a1, a2, a3, a4, a5, a6] (st) ah Q = WP E c 257 398 [some (.ref x), a1, a2, a3, a4, a5, a6] (.ref x :: st) ah Q := wp_s i257_397 rfl rfl rfl rfl
theorem i257_398 : insAt 257 398 = some (.getfield 11442, 401) := by decide +kernel
theorem r257_398 {E : aEnv} {c : Nat} {ah : aHp} {st : List Value} {Q : Option Value → aHp → Prop} {a0 a1 a2 a3 a4 a5 a6 : Option Value} {a : Nat} : WP E c 257 398 [a0, a1, a2, a3, a4, a5, a6] (.ref a :: st) ah Q = WPo (oGF (hg E ah a) 11 44) (fun v => WP E c 257 401 [a0, a1, a2, a3, a4, a5, a6] (v :: st) ah Q) := wp_getf i257_398
theorem i257_401 : insAt 257 401 = some (.iload 1, 402) := by decide +kernel
theorem r257_401 {E : aEnv} {c : Nat} {ah : aHp} {st : List Value} {Q : Option Value → aHp → Prop} {a0 a2 a3 a4 a5 a6 : Option Value} {x : Int32} : WP E c 257 401 [a0, some (.int x), a2, a3, a4, a5, a6] (st) ah Q = WP E c 257 402 [a0, some (.int x), a2, a3, a4, a5, a6] (.int x :: st) ah Q := wp_s i257_401 rfl rfl rfl rfl
theorem i257_402 : insAt 257 402 = some (.iaload, 403) := by decide +kernel
theorem r257_402 {E : aEnv} {c : Nat} {ah : aHp} {st : List Value} {Q : Option Value → aHp → Prop} {a0 a1 a2 a3 a4 a5 a6 : Option Value} {i : Int32} {a : Nat} : WP E c 257 402 [a0, a1, a2, a3, a4, a5, a6] (.int i :: .ref a :: st) ah Q = WPo (gI E ah (.int i :: .ref a :: st)) (fun s9 => WP E c 257 403 [a0, a1, a2, a3, a4, a5, a6] s9 ah Q) := wp_hr i257_402 rfl rfl rfl rfl rfl rfl rfl rfl
theorem i257_403 : insAt 257 403 = some (.iadd, 404) := by decide +kernel
theorem r257_403 {E : aEnv} {c : Nat} {ah : aHp} {st : List Value} {Q : Option Value → aHp → Prop} {a0 a1 a2 a3 a4 a5 a6 : Option Value} {x y : Int32} : WP E c 257 403 [a0, a1, a2, a3, a4, a5, a6] (.int y :: .int x :: st) ah Q = WP E c 257 404 [a0, a1, a2, a3, a4, a5, a6] (.int (x + y) :: st) ah Q := wp_s i257_403 rfl rfl rfl rfl
theorem i257_404 : insAt 257 404 = some (.goto 410, 407) := by decide +kernel
theorem r257_404 {E : aEnv} {c : Nat} {ah : aHp} {st : List Value} {Q : Option Value → aHp → Prop} {a0 a1 a2 a3 a4 a5 a6 : Option Value} : WP E c 257 404 [a0, a1, a2, a3, a4, a5, a6] (st) ah Q = WP E c 257 410 [a0, a1, a2, a3, a4, a5, a6] st ah Q := wp_s i257_404 rfl rfl rfl rfl
theorem i257_407 : insAt 257 407 = some (.iload 1, 408) := by decide +kernel
theorem r257_407 {E : aEnv} {c : Nat} {ah : aHp} {st : List Value} {Q : Option Value → aHp → Prop} {a0 a2 a3 a4 a5 a6 : Option Value} {x : Int32} : WP E c 257 407 [a0, some (.int x), a2, a3, a4, a5, a6] (st) ah Q = WP E c 257 408 [a0, some (.int x), a2, a3, a4, a5, a6] (.int x :: st) ah Q := wp_s i257_407 rfl rfl rfl rfl
theorem i257_408 : insAt 257 408 = some (.iconst 1, 409) := by decide +kernel
theorem r257_408 {E : aEnv} {c : Nat} {ah : aHp} {st : List Value} {Q : Option Value → aHp → Prop} {a0 a1 a2 a3 a4 a5 a6 : Option Value} : WP E c 257 408 [a0, a1, a2, a3, a4, a5, a6] (st) ah Q = WP E c 257 409 [a0, a1, a2, a3, a4, a5, a6] (.int (1) :: st) ah Q := wp_s i257_408 rfl rfl rfl rfl
theorem i257_409 : insAt 257 409 = some (.iadd, 410) := by decide +kernel
theorem r257_409 {E : aEnv} {c : Nat} {ah : aHp} {st : List Value} {Q : Option Value → aHp → Prop} {a0 a1 a2 a3 a4 a5 a6 : Option Value} {x y : Int32} : WP E c 257 409 [a0, a1, a2, a3, a4, a5, a6] (.int y :: .int x :: st) ah Q = WP E c 257 410 [a0, a1, a2, a3, a4, a5, a6] (.int (x + y) :: st) ah Q := wp_s i257_409 rfl rfl rfl rfl
theorem i257_410 : insAt 257 410 = some (.ireturn, 411) := by decide +kernel
theorem r257_410 {E : aEnv} {c : Nat} {ah : aHp} {Q : Option Value → aHp → Prop} {a0 a1 a2 a3 a4 a5 a6 : Option Value} {x : Int32} : WP E c 257 410 [a0, a1, a2, a3, a4, a5, a6] ([.int x]) ah Q = Q (some (.int x)) ah := wp_rt i257_410 rfl
theorem e258 {E : aEnv} {c : Nat} {ah ahF : aHp} {r : Option Value} {p0 : Nat} (h : WP E c 258 0 [some (.ref p0), none] [] ah (fun r1 x1 => r1 = r ∧ x1 = ahF)) : EV E c 258 [.ref p0] ah r ahF := EV.of (by rw [mr258.2.1]; exact h)
theorem i258_0 : insAt 258 0 = some (.aload 0, 1) := by decide +kernel
theorem r258_0 {E : aEnv} {c : Nat} {ah : aHp} {st : List Value} {Q : Option Value → aHp → Prop} {a1 : Option Value} {x : Nat} : WP E c 258 0 [some (.ref x), a1] (st) ah Q = WP E c 258 1 [some (.ref x), a1] (.ref x :: st) ah Q := wp_s i258_0 rfl rfl rfl rfl
theorem i258_1 : insAt 258 1 = some (.iconst 0, 2) := by decide +kernel
theorem r258_1 {E : aEnv} {c : Nat} {ah : aHp} {st : List Value} {Q : Option Value → aHp → Prop} {a0 a1 : Option Value} : WP E c 258 1 [a0, a1] (st) ah Q = WP E c 258 2 [a0, a1] (.int (0) :: st) ah Q := wp_s i258_1 rfl rfl rfl rfl
theorem i258_2 : insAt 258 2 = some (.putfield 11010, 5) := by decide +kernel
theorem r258_2 {E : aEnv} {c : Nat} {ah : aHp} {st : List Value} {Q : Option Value → aHp → Prop} {a0 a1 : Option Value} {a : Nat} {v : Value} : WP E c 258 2 [a0, a1] (v :: .ref a :: st) ah Q = WPo (oPF (hg E ah a) 11010 v) (fun e => WP E c 258 5 [a0, a1] st (hs E ah a e) Q) := wp_putf i258_2
theorem i258_5 : insAt 258 5 = some (.aload 0, 6) := by decide +kernel
theorem r258_5 {E : aEnv} {c : Nat} {ah : aHp} {st : List Value} {Q : Option Value → aHp → Prop} {a1 : Option Value} {x : Nat} : WP E c 258 5 [some (.ref x), a1] (st) ah Q = WP E c 258 6 [some (.ref x), a1] (.ref x :: st) ah Q := wp_s i258_5 rfl rfl rfl rfl
theorem i258_6 : insAt 258 6 = some (.iconst 0, 7) := by decide +kernel
theorem r258_6 {E : aEnv} {c : Nat} {ah : aHp} {st : List Value} {Q : Option Value → aHp → Prop} {a0 a1 : Option Value} : WP E c 258 6 [a0, a1] (st) ah Q = WP E c 258 7 [a0, a1] (.int (0) :: st) ah Q := wp_s i258_6 rfl rfl rfl rfl
theorem i258_7 : insAt 258 7 = some (.putfield 11000, 10) := by decide +kernel
theorem r258_7 {E : aEnv} {c : Nat} {ah : aHp} {st : List Value} {Q : Option Value → aHp → Prop} {a0 a1 : Option Value} {a : Nat} {v : Value} : WP E c 258 7 [a0, a1] (v :: .ref a :: st) ah Q = WPo (oPF (hg E ah a) 11000 v) (fun e => WP E c 258 10 [a0, a1] st (hs E ah a e) Q) := wp_putf i258_7
theorem i258_10 : insAt 258 10 = some (.aload 0, 11) := by decide +kernel
theorem r258_10 {E : aEnv} {c : Nat} {ah : aHp} {st : List Value} {Q : Option Value → aHp → Prop} {a1 : Option Value} {x : Nat} : WP E c 258 10 [some (.ref x), a1] (st) ah Q = WP E c 258 11 [some (.ref x), a1] (.ref x :: st) ah Q := wp_s i258_10 rfl rfl rfl rfl
theorem i258_11 : insAt 258 11 = some (.getfield 11410, 14) := by decide +kernel
theorem r258_11 {E : aEnv} {c : Nat} {ah : aHp} {st : List Value} {Q : Option Value → aHp → Prop} {a0 a1 : Option Value} {a : Nat} : WP E c 258 11 [a0, a1] (.ref a :: st) ah Q = WPo (oGF (hg E ah a) 11 41) (fun v => WP E c 258 14 [a0, a1] (v :: st) ah Q) := wp_getf i258_11
theorem i258_14 : insAt 258 14 = some (.ifCond .ge 24, 17) := by decide +kernel
theorem r258_14 {E : aEnv} {c : Nat} {ah : aHp} {st : List Value} {Q : Option Value → aHp → Prop} {a0 a1 : Option Value} {x : Int32} : WP E c 258 14 [a0, a1] (.int x :: st) ah Q = if 0 ≤ x then WP E c 258 24 [a0, a1] st ah Q else WP E c 258 17 [a0, a1] st ah Q := wp_j i258_14 rfl rfl rfl rfl
theorem i258_17 : insAt 258 17 = some (.aload 0, 18) := by decide +kernel
theorem r258_17 {E : aEnv} {c : Nat} {ah : aHp} {st : List Value} {Q : Option Value → aHp → Prop} {a1 : Option Value} {x : Nat} : WP E c 258 17 [some (.ref x), a1] (st) ah Q = WP E c 258 18 [some (.ref x), a1] (.ref x :: st) ah Q := wp_s i258_17 rfl rfl rfl rfl
theorem i258_18 : insAt 258 18 = some (.iconst 8, 20) := by decide +kernel
theorem r258_18 {E : aEnv} {c : Nat} {ah : aHp} {st : List Value} {Q : Option Value → aHp → Prop} {a0 a1 : Option Value} : WP E c 258 18 [a0, a1] (st) ah Q = WP E c 258 20 [a0, a1] (.int (8) :: st) ah Q := wp_s i258_18 rfl rfl rfl rfl
theorem i258_20 : insAt 258 20 = some (.invokevirtual 197, 23) := by decide +kernel
theorem r258_20 {E : aEnv} {c : Nat} {ah ah1 : aHp} {r : Option Value} {st : List Value} {Q : Option Value → aHp → Prop} {a0 a1 : Option Value} {p0 : Nat} {p1 : Int32} (h : EV E c 197 [.ref p0, .int p1] ah r ah1) (h2 : oCI (hg E ah p0) = 11) (h3 : wds st ≤ 8) : WP E (c + 1) 258 20 [a0, a1] (.int p1 :: .ref p0 :: st) ah Q = WP E (c + 1) 258 23 [a0, a1] (r.toList ++ st) ah1 Q := wp_call (As := [.ref p0, .int p1]) i258_20 (fun _ => rfl) rfl mr197.1 (rcv_1 h2 mr197.2.2 (by decide)) h3 (by rw [mr197.2.1]; exact Nat.le_of_ble_eq_true rfl) h
theorem i258_23 : insAt 258 23 = some (.ireturn, 24) := by decide +kernel
theorem r258_23 {E : aEnv} {c : Nat} {ah : aHp} {Q : Option Value → aHp → Prop} {a0 a1 : Option Value} {x : Int32} : WP E c 258 23 [a0, a1] ([.int x]) ah Q = Q (some (.int x)) ah := wp_rt i258_23 rfl
theorem i258_24 : insAt 258 24 = some (.iconst 0, 25) := by decide +kernel
theorem r258_24 {E : aEnv} {c : Nat} {ah : aHp} {st : List Value} {Q : Option Value → aHp → Prop} {a0 a1 : Option Value} : WP E c 258 24 [a0, a1] (st) ah Q = WP E c 258 25 [a0, a1] (.int (0) :: st) ah Q := wp_s i258_24 rfl rfl rfl rfl
theorem i258_25 : insAt 258 25 = some (.istore 1, 26) := by decide +kernel
theorem r258_25 {E : aEnv} {c : Nat} {ah : aHp} {st : List Value} {Q : Option Value → aHp → Prop} {a0 a1 : Option Value} {x : Int32} : WP E c 258 25 [a0, a1] (.int x :: st) ah Q = WP E c 258 26 [kil a0, some (.int x)] (st) ah Q := wp_s i258_25 rfl rfl rfl rfl
theorem i258_26 : insAt 258 26 = some (.iload 1, 27) := by decide +kernel
theorem r258_26 {E : aEnv} {c : Nat} {ah : aHp} {st : List Value} {Q : Option Value → aHp → Prop} {a0 : Option Value} {x : Int32} : WP E c 258 26 [a0, some (.int x)] (st) ah Q = WP E c 258 27 [a0, some (.int x)] (.int x :: st) ah Q := wp_s i258_26 rfl rfl rfl rfl
theorem i258_27 : insAt 258 27 = some (.iconst 20, 29) := by decide +kernel
theorem r258_27 {E : aEnv} {c : Nat} {ah : aHp} {st : List Value} {Q : Option Value → aHp → Prop} {a0 a1 : Option Value} : WP E c 258 27 [a0, a1] (st) ah Q = WP E c 258 29 [a0, a1] (.int (20) :: st) ah Q := wp_s i258_27 rfl rfl rfl rfl
theorem i258_29 : insAt 258 29 = some (.if_icmp .ge 45, 32) := by decide +kernel
theorem r258_29 {E : aEnv} {c : Nat} {ah : aHp} {st : List Value} {Q : Option Value → aHp → Prop} {a0 a1 : Option Value} {x y : Int32} : WP E c 258 29 [a0, a1] (.int y :: .int x :: st) ah Q = if y ≤ x then WP E c 258 45 [a0, a1] st ah Q else WP E c 258 32 [a0, a1] st ah Q := wp_j i258_29 rfl rfl rfl rfl
theorem i258_32 : insAt 258 32 = some (.aload 0, 33) := by decide +kernel
theorem r258_32 {E : aEnv} {c : Nat} {ah : aHp} {st : List Value} {Q : Option Value → aHp → Prop} {a1 : Option Value} {x : Nat} : WP E c 258 32 [some (.ref x), a1] (st) ah Q = WP E c 258 33 [some (.ref x), a1] (.ref x :: st) ah Q := wp_s i258_32 rfl rfl rfl rfl
theorem i258_33 : insAt 258 33 = some (.getfield 11582, 36) := by decide +kernel
theorem r258_33 {E : aEnv} {c : Nat} {ah : aHp} {st : List Value} {Q : Option Value → aHp → Prop} {a0 a1 : Option Value} {a : Nat} : WP E c 258 33 [a0, a1] (.ref a :: st) ah Q = WPo (oGF (hg E ah a) 11 58) (fun v => WP E c 258 36 [a0, a1] (v :: st) ah Q) := wp_getf i258_33
theorem i258_36 : insAt 258 36 = some (.iload 1, 37) := by decide +kernel
theorem r258_36 {E : aEnv} {c : Nat} {ah : aHp} {st : List Value} {Q : Option Value → aHp → Prop} {a0 : Option Value} {x : Int32} : WP E c 258 36 [a0, some (.int x)] (st) ah Q = WP E c 258 37 [a0, some (.int x)] (.int x :: st) ah Q := wp_s i258_36 rfl rfl rfl rfl
theorem i258_37 : insAt 258 37 = some (.jsr_w 0, 38) := by decide +kernel
theorem r258_37 {E : aEnv} {c : Nat} {ah : aHp} {st : List Value} {Q : Option Value → aHp → Prop} {a0 a1 : Option Value} : WP E c 258 37 [a0, a1] (st) ah Q = WP E c 258 38 [a0, a1] (.long (0) :: st) ah Q := wp_s i258_37 rfl rfl rfl rfl
theorem i258_38 : insAt 258 38 = some (.lastore, 39) := by decide +kernel
theorem r258_38 {E : aEnv} {c : Nat} {ah : aHp} {st : List Value} {Q : Option Value → aHp → Prop} {a0 a1 : Option Value} {x : Int64} {i : Int32} {a : Nat} : WP E c 258 38 [a0, a1] (.long x :: .int i :: .ref a :: st) ah Q = WPo (pL E ah (.long x :: .int i :: .ref a :: st)) (fun q9 => WP E c 258 39 [a0, a1] q9.1 q9.2 Q) := wp_hw i258_38 rfl rfl rfl rfl rfl rfl rfl rfl
theorem i258_39 : insAt 258 39 = some (.iinc 1 1, 42) := by decide +kernel
theorem r258_39 {E : aEnv} {c : Nat} {ah : aHp} {st : List Value} {Q : Option Value → aHp → Prop} {a0 : Option Value} {x : Int32} : WP E c 258 39 [a0, some (.int x)] (st) ah Q = WP E c 258 42 [kil a0, some (.int (x + 1))] (st) ah Q := wp_s i258_39 rfl rfl rfl rfl
theorem i258_42 : insAt 258 42 = some (.goto 26, 45) := by decide +kernel
theorem r258_42 {E : aEnv} {c : Nat} {ah : aHp} {st : List Value} {Q : Option Value → aHp → Prop} {a0 a1 : Option Value} : WP E c 258 42 [a0, a1] (st) ah Q = WP E c 258 26 [a0, a1] st ah Q := wp_s i258_42 rfl rfl rfl rfl
theorem i258_45 : insAt 258 45 = some (.aload 0, 46) := by decide +kernel
theorem r258_45 {E : aEnv} {c : Nat} {ah : aHp} {st : List Value} {Q : Option Value → aHp → Prop} {a1 : Option Value} {x : Nat} : WP E c 258 45 [some (.ref x), a1] (st) ah Q = WP E c 258 46 [some (.ref x), a1] (.ref x :: st) ah Q := wp_s i258_45 rfl rfl rfl rfl
theorem i258_46 : insAt 258 46 = some (.iconst 1, 47) := by decide +kernel
theorem r258_46 {E : aEnv} {c : Nat} {ah : aHp} {st : List Value} {Q : Option Value → aHp → Prop} {a0 a1 : Option Value} : WP E c 258 46 [a0, a1] (st) ah Q = WP E c 258 47 [a0, a1] (.int (1) :: st) ah Q := wp_s i258_46 rfl rfl rfl rfl
theorem i258_47 : insAt 258 47 = some (.putfield 11603, 50) := by decide +kernel
theorem r258_47 {E : aEnv} {c : Nat} {ah : aHp} {st : List Value} {Q : Option Value → aHp → Prop} {a0 a1 : Option Value} {a : Nat} {v : Value} : WP E c 258 47 [a0, a1] (v :: .ref a :: st) ah Q = WPo (oPF (hg E ah a) 11603 v) (fun e => WP E c 258 50 [a0, a1] st (hs E ah a e) Q) := wp_putf i258_47
theorem i258_50 : insAt 258 50 = some (.aload 0, 51) := by decide +kernel
theorem r258_50 {E : aEnv} {c : Nat} {ah : aHp} {st : List Value} {Q : Option Value → aHp → Prop} {a1 : Option Value} {x : Nat} : WP E c 258 50 [some (.ref x), a1] (st) ah Q = WP E c 258 51 [some (.ref x), a1] (.ref x :: st) ah Q := wp_s i258_50 rfl rfl rfl rfl
theorem i258_51 : insAt 258 51 = some (.iconst 0, 52) := by decide +kernel
theorem r258_51 {E : aEnv} {c : Nat} {ah : aHp} {st : List Value} {Q : Option Value → aHp → Prop} {a0 a1 : Option Value} : WP E c 258 51 [a0, a1] (st) ah Q = WP E c 258 52 [a0, a1] (.int (0) :: st) ah Q := wp_s i258_51 rfl rfl rfl rfl
theorem i258_52 : insAt 258 52 = some (.putfield 11613, 55) := by decide +kernel
theorem r258_52 {E : aEnv} {c : Nat} {ah : aHp} {st : List Value} {Q : Option Value → aHp → Prop} {a0 a1 : Option Value} {a : Nat} {v : Value} : WP E c 258 52 [a0, a1] (v :: .ref a :: st) ah Q = WPo (oPF (hg E ah a) 11613 v) (fun e => WP E c 258 55 [a0, a1] st (hs E ah a e) Q) := wp_putf i258_52
theorem i258_55 : insAt 258 55 = some (.aload 0, 56) := by decide +kernel
theorem r258_55 {E : aEnv} {c : Nat} {ah : aHp} {st : List Value} {Q : Option Value → aHp → Prop} {a1 : Option Value} {x : Nat} : WP E c 258 55 [some (.ref x), a1] (st) ah Q = WP E c 258 56 [some (.ref x), a1] (.ref x :: st) ah Q := wp_s i258_55 rfl rfl rfl rfl
theorem i258_56 : insAt 258 56 = some (.iconst 0, 57) := by decide +kernel
theorem r258_56 {E : aEnv} {c : Nat} {ah : aHp} {st : List Value} {Q : Option Value → aHp → Prop} {a0 a1 : Option Value} : WP E c 258 56 [a0, a1] (st) ah Q = WP E c 258 57 [a0, a1] (.int (0) :: st) ah Q := wp_s i258_56 rfl rfl rfl rfl
theorem i258_57 : insAt 258 57 = some (.putfield 11620, 60) := by decide +kernel
theorem r258_57 {E : aEnv} {c : Nat} {ah : aHp} {st : List Value} {Q : Option Value → aHp → Prop} {a0 a1 : Option Value} {a : Nat} {v : Value} : WP E c 258 57 [a0, a1] (v :: .ref a :: st) ah Q = WPo (oPF (hg E ah a) 11620 v) (fun e => WP E c 258 60 [a0, a1] st (hs E ah a e) Q) := wp_putf i258_57
theorem i258_60 : insAt 258 60 = some (.aload 0, 61) := by decide +kernel
theorem r258_60 {E : aEnv} {c : Nat} {ah : aHp} {st : List Value} {Q : Option Value → aHp → Prop} {a1 : Option Value} {x : Nat} : WP E c 258 60 [some (.ref x), a1] (st) ah Q = WP E c 258 61 [some (.ref x), a1] (.ref x :: st) ah Q := wp_s i258_60 rfl rfl rfl rfl
theorem i258_61 : insAt 258 61 = some (.iconst 0, 62) := by decide +kernel
theorem r258_61 {E : aEnv} {c : Nat} {ah : aHp} {st : List Value} {Q : Option Value → aHp → Prop} {a0 a1 : Option Value} : WP E c 258 61 [a0, a1] (st) ah Q = WP E c 258 62 [a0, a1] (.int (0) :: st) ah Q := wp_s i258_61 rfl rfl rfl rfl
theorem i258_62 : insAt 258 62 = some (.putfield 11630, 65) := by decide +kernel
theorem r258_62 {E : aEnv} {c : Nat} {ah : aHp} {st : List Value} {Q : Option Value → aHp → Prop} {a0 a1 : Option Value} {a : Nat} {v : Value} : WP E c 258 62 [a0, a1] (v :: .ref a :: st) ah Q = WPo (oPF (hg E ah a) 11630 v) (fun e => WP E c 258 65 [a0, a1] st (hs E ah a e) Q) := wp_putf i258_62
theorem i258_65 : insAt 258 65 = some (.aload 0, 66) := by decide +kernel
theorem r258_65 {E : aEnv} {c : Nat} {ah : aHp} {st : List Value} {Q : Option Value → aHp → Prop} {a1 : Option Value} {x : Nat} : WP E c 258 65 [some (.ref x), a1] (st) ah Q = WP E c 258 66 [some (.ref x), a1] (.ref x :: st) ah Q := wp_s i258_65 rfl rfl rfl rfl
theorem i258_66 : insAt 258 66 = some (.iconst 0, 67) := by decide +kernel
theorem r258_66 {E : aEnv} {c : Nat} {ah : aHp} {st : List Value} {Q : Option Value → aHp → Prop} {a0 a1 : Option Value} : WP E c 258 66 [a0, a1] (st) ah Q = WP E c 258 67 [a0, a1] (.int (0) :: st) ah Q := wp_s i258_66 rfl rfl rfl rfl
theorem i258_67 : insAt 258 67 = some (.putfield 11640, 70) := by decide +kernel
theorem r258_67 {E : aEnv} {c : Nat} {ah : aHp} {st : List Value} {Q : Option Value → aHp → Prop} {a0 a1 : Option Value} {a : Nat} {v : Value} : WP E c 258 67 [a0, a1] (v :: .ref a :: st) ah Q = WPo (oPF (hg E ah a) 11640 v) (fun e => WP E c 258 70 [a0, a1] st (hs E ah a e) Q) := wp_putf i258_67
theorem i258_70 : insAt 258 70 = some (.aload 0, 71) := by decide +kernel
theorem r258_70 {E : aEnv} {c : Nat} {ah : aHp} {st : List Value} {Q : Option Value → aHp → Prop} {a1 : Option Value} {x : Nat} : WP E c 258 70 [some (.ref x), a1] (st) ah Q = WP E c 258 71 [some (.ref x), a1] (.ref x :: st) ah Q := wp_s i258_70 rfl rfl rfl rfl
theorem i258_71 : insAt 258 71 = some (.iconst (-1), 72) := by decide +kernel
theorem r258_71 {E : aEnv} {c : Nat} {ah : aHp} {st : List Value} {Q : Option Value → aHp → Prop} {a0 a1 : Option Value} : WP E c 258 71 [a0, a1] (st) ah Q = WP E c 258 72 [a0, a1] (.int ((-1)) :: st) ah Q := wp_s i258_71 rfl rfl rfl rfl
theorem i258_72 : insAt 258 72 = some (.putfield 11650, 75) := by decide +kernel
theorem r258_72 {E : aEnv} {c : Nat} {ah : aHp} {st : List Value} {Q : Option Value → aHp → Prop} {a0 a1 : Option Value} {a : Nat} {v : Value} : WP E c 258 72 [a0, a1] (v :: .ref a :: st) ah Q = WPo (oPF (hg E ah a) 11650 v) (fun e => WP E c 258 75 [a0, a1] st (hs E ah a e) Q) := wp_putf i258_72
theorem i258_75 : insAt 258 75 = some (.aload 0, 76) := by decide +kernel
theorem r258_75 {E : aEnv} {c : Nat} {ah : aHp} {st : List Value} {Q : Option Value → aHp → Prop} {a1 : Option Value} {x : Nat} : WP E c 258 75 [some (.ref x), a1] (st) ah Q = WP E c 258 76 [some (.ref x), a1] (.ref x :: st) ah Q := wp_s i258_75 rfl rfl rfl rfl
theorem i258_76 : insAt 258 76 = some (.iconst 0, 77) := by decide +kernel
theorem r258_76 {E : aEnv} {c : Nat} {ah : aHp} {st : List Value} {Q : Option Value → aHp → Prop} {a0 a1 : Option Value} : WP E c 258 76 [a0, a1] (st) ah Q = WP E c 258 77 [a0, a1] (.int (0) :: st) ah Q := wp_s i258_76 rfl rfl rfl rfl
theorem i258_77 : insAt 258 77 = some (.putfield 11660, 80) := by decide +kernel
theorem r258_77 {E : aEnv} {c : Nat} {ah : aHp} {st : List Value} {Q : Option Value → aHp → Prop} {a0 a1 : Option Value} {a : Nat} {v : Value} : WP E c 258 77 [a0, a1] (v :: .ref a :: st) ah Q = WPo (oPF (hg E ah a) 11660 v) (fun e => WP E c 258 80 [a0, a1] st (hs E ah a e) Q) := wp_putf i258_77
theorem i258_80 : insAt 258 80 = some (.iconst 0, 81) := by decide +kernel
theorem r258_80 {E : aEnv} {c : Nat} {ah : aHp} {st : List Value} {Q : Option Value → aHp → Prop} {a0 a1 : Option Value} : WP E c 258 80 [a0, a1] (st) ah Q = WP E c 258 81 [a0, a1] (.int (0) :: st) ah Q := wp_s i258_80 rfl rfl rfl rfl
theorem i258_81 : insAt 258 81 = some (.istore 1, 82) := by decide +kernel
theorem r258_81 {E : aEnv} {c : Nat} {ah : aHp} {st : List Value} {Q : Option Value → aHp → Prop} {a0 a1 : Option Value} {x : Int32} : WP E c 258 81 [a0, a1] (.int x :: st) ah Q = WP E c 258 82 [kil a0, some (.int x)] (st) ah Q := wp_s i258_81 rfl rfl rfl rfl
theorem i258_82 : insAt 258 82 = some (.aload 0, 83) := by decide +kernel
theorem r258_82 {E : aEnv} {c : Nat} {ah : aHp} {st : List Value} {Q : Option Value → aHp → Prop} {a1 : Option Value} {x : Nat} : WP E c 258 82 [some (.ref x), a1] (st) ah Q = WP E c 258 83 [some (.ref x), a1] (.ref x :: st) ah Q := wp_s i258_82 rfl rfl rfl rfl
theorem i258_83 : insAt 258 83 = some (.getfield 11640, 86) := by decide +kernel
theorem r258_83 {E : aEnv} {c : Nat} {ah : aHp} {st : List Value} {Q : Option Value → aHp → Prop} {a0 a1 : Option Value} {a : Nat} : WP E c 258 83 [a0, a1] (.ref a :: st) ah Q = WPo (oGF (hg E ah a) 11 64) (fun v => WP E c 258 86 [a0, a1] (v :: st) ah Q) := wp_getf i258_83
theorem i258_86 : insAt 258 86 = some (.ifCond .ne 154, 89) := by decide +kernel
theorem r258_86 {E : aEnv} {c : Nat} {ah : aHp} {st : List Value} {Q : Option Value → aHp → Prop} {a0 a1 : Option Value} {x : Int32} : WP E c 258 86 [a0, a1] (.int x :: st) ah Q = if ¬ x = 0 then WP E c 258 154 [a0, a1] st ah Q else WP E c 258 89 [a0, a1] st ah Q := wp_j i258_86 rfl rfl rfl rfl
theorem i258_89 : insAt 258 89 = some (.iload 1, 90) := by decide +kernel
theorem r258_89 {E : aEnv} {c : Nat} {ah : aHp} {st : List Value} {Q : Option Value → aHp → Prop} {a0 : Option Value} {x : Int32} : WP E c 258 89 [a0, some (.int x)] (st) ah Q = WP E c 258 90 [a0, some (.int x)] (.int x :: st) ah Q := wp_s i258_89 rfl rfl rfl rfl
theorem i258_90 : insAt 258 90 = some (.aload 0, 91) := by decide +kernel
theorem r258_90 {E : aEnv} {c : Nat} {ah : aHp} {st : List Value} {Q : Option Value → aHp → Prop} {a1 : Option Value} {x : Nat} : WP E c 258 90 [some (.ref x), a1] (st) ah Q = WP E c 258 91 [some (.ref x), a1] (.ref x :: st) ah Q := wp_s i258_90 rfl rfl rfl rfl
theorem i258_91 : insAt 258 91 = some (.getfield 11410, 94) := by decide +kernel
theorem r258_91 {E : aEnv} {c : Nat} {ah : aHp} {st : List Value} {Q : Option Value → aHp → Prop} {a0 a1 : Option Value} {a : Nat} : WP E c 258 91 [a0, a1] (.ref a :: st) ah Q = WPo (oGF (hg E ah a) 11 41) (fun v => WP E c 258 94 [a0, a1] (v :: st) ah Q) := wp_getf i258_91
theorem i258_94 : insAt 258 94 = some (.if_icmp .ge 154, 97) := by decide +kernel
theorem r258_94 {E : aEnv} {c : Nat} {ah : aHp} {st : List Value} {Q : Option Value → aHp → Prop} {a0 a1 : Option Value} {x y : Int32} : WP E c 258 94 [a0, a1] (.int y :: .int x :: st) ah Q = if y ≤ x then WP E c 258 154 [a0, a1] st ah Q else WP E c 258 97 [a0, a1] st ah Q := wp_j i258_94 rfl rfl rfl rfl
theorem i258_97 : insAt 258 97 = some (.aload 0, 98) := by decide +kernel
theorem r258_97 {E : aEnv} {c : Nat} {ah : aHp} {st : List Value} {Q : Option Value → aHp → Prop} {a1 : Option Value} {x : Nat} : WP E c 258 97 [some (.ref x), a1] (st) ah Q = WP E c 258 98 [some (.ref x), a1] (.ref x :: st) ah Q := wp_s i258_97 rfl rfl rfl rfl
theorem i258_98 : insAt 258 98 = some (.aload 0, 99) := by decide +kernel
theorem r258_98 {E : aEnv} {c : Nat} {ah : aHp} {st : List Value} {Q : Option Value → aHp → Prop} {a1 : Option Value} {x : Nat} : WP E c 258 98 [some (.ref x), a1] (st) ah Q = WP E c 258 99 [some (.ref x), a1] (.ref x :: st) ah Q := wp_s i258_98 rfl rfl rfl rfl
theorem i258_99 : insAt 258 99 = some (.getfield 11660, 102) := by decide +kernel
theorem r258_99 {E : aEnv} {c : Nat} {ah : aHp} {st : List Value} {Q : Option Value → aHp → Prop} {a0 a1 : Option Value} {a : Nat} : WP E c 258 99 [a0, a1] (.ref a :: st) ah Q = WPo (oGF (hg E ah a) 11 66) (fun v => WP E c 258 102 [a0, a1] (v :: st) ah Q) := wp_getf i258_99
theorem i258_102 : insAt 258 102 = some (.iconst 5000, 105) := by decide +kernel
theorem r258_102 {E : aEnv} {c : Nat} {ah : aHp} {st : List Value} {Q : Option Value → aHp → Prop} {a0 a1 : Option Value} : WP E c 258 102 [a0, a1] (st) ah Q = WP E c 258 105 [a0, a1] (.int (5000) :: st) ah Q := wp_s i258_102 rfl rfl rfl rfl
theorem i258_105 : insAt 258 105 = some (.if_icmp .ne 112, 108) := by decide +kernel
theorem r258_105 {E : aEnv} {c : Nat} {ah : aHp} {st : List Value} {Q : Option Value → aHp → Prop} {a0 a1 : Option Value} {x y : Int32} : WP E c 258 105 [a0, a1] (.int y :: .int x :: st) ah Q = if ¬ x = y then WP E c 258 112 [a0, a1] st ah Q else WP E c 258 108 [a0, a1] st ah Q := wp_j i258_105 rfl rfl rfl rfl
theorem i258_108 : insAt 258 108 = some (.iconst 4, 109) := by decide +kernel
theorem r258_108 {E : aEnv} {c : Nat} {ah : aHp} {st : List Value} {Q : Option Value → aHp → Prop} {a0 a1 : Option Value} : WP E c 258 108 [a0, a1] (st) ah Q = WP E c 258 109 [a0, a1] (.int (4) :: st) ah Q := wp_s i258_108 rfl rfl rfl rfl
theorem i258_109 : insAt 258 109 = some (.goto 117, 112) := by decide +kernel
theorem r258_109 {E : aEnv} {c : Nat} {ah : aHp} {st : List Value} {Q : Option Value → aHp → Prop} {a0 a1 : Option Value} : WP E c 258 109 [a0, a1] (st) ah Q = WP E c 258 117 [a0, a1] st ah Q := wp_s i258_109 rfl rfl rfl rfl
theorem i258_112 : insAt 258 112 = some (.aload 0, 113) := by decide +kernel
theorem r258_112 {E : aEnv} {c : Nat} {ah : aHp} {st : List Value} {Q : Option Value → aHp → Prop} {a1 : Option Value} {x : Nat} : WP E c 258 112 [some (.ref x), a1] (st) ah Q = WP E c 258 113 [some (.ref x), a1] (.ref x :: st) ah Q := wp_s i258_112 rfl rfl rfl rfl
theorem i258_113 : insAt 258 113 = some (.iload 1, 114) := by decide +kernel
theorem r258_113 {E : aEnv} {c : Nat} {ah : aHp} {st : List Value} {Q : Option Value → aHp → Prop} {a0 : Option Value} {x : Int32} : WP E c 258 113 [a0, some (.int x)] (st) ah Q = WP E c 258 114 [a0, some (.int x)] (.int x :: st) ah Q := wp_s i258_113 rfl rfl rfl rfl
theorem i258_114 : insAt 258 114 = some (.invokevirtual 255, 117) := by decide +kernel
theorem r258_114 {E : aEnv} {c : Nat} {ah ah1 : aHp} {r : Option Value} {st : List Value} {Q : Option Value → aHp → Prop} {a0 a1 : Option Value} {p0 : Nat} {p1 : Int32} (h : EV E c 255 [.ref p0, .int p1] ah r ah1) (h2 : oCI (hg E ah p0) = 11) (h3 : wds st ≤ 8) : WP E (c + 1) 258 114 [a0, a1] (.int p1 :: .ref p0 :: st) ah Q = WP E (c + 1) 258 117 [a0, a1] (r.toList ++ st) ah1 Q := wp_call (As := [.ref p0, .int p1]) i258_114 (fun _ => rfl) rfl mr255.1 (rcv_1 h2 mr255.2.2 (by decide)) h3 (by rw [mr255.2.1]; exact Nat.le_of_ble_eq_true rfl) h
theorem i258_117 : insAt 258 117 = some (.putfield 11640, 120) := by decide +kernel
theorem r258_117 {E : aEnv} {c : Nat} {ah : aHp} {st : List Value} {Q : Option Value → aHp → Prop} {a0 a1 : Option Value} {a : Nat} {v : Value} : WP E c 258 117 [a0, a1] (v :: .ref a :: st) ah Q = WPo (oPF (hg E ah a) 11640 v) (fun e => WP E c 258 120 [a0, a1] st (hs E ah a e) Q) := wp_putf i258_117
theorem i258_120 : insAt 258 120 = some (.aload 0, 121) := by decide +kernel
theorem r258_120 {E : aEnv} {c : Nat} {ah : aHp} {st : List Value} {Q : Option Value → aHp → Prop} {a1 : Option Value} {x : Nat} : WP E c 258 120 [some (.ref x), a1] (st) ah Q = WP E c 258 121 [some (.ref x), a1] (.ref x :: st) ah Q := wp_s i258_120 rfl rfl rfl rfl
theorem i258_121 : insAt 258 121 = some (.getfield 11640, 124) := by decide +kernel
theorem r258_121 {E : aEnv} {c : Nat} {ah : aHp} {st : List Value} {Q : Option Value → aHp → Prop} {a0 a1 : Option Value} {a : Nat} : WP E c 258 121 [a0, a1] (.ref a :: st) ah Q = WPo (oGF (hg E ah a) 11 64) (fun v => WP E c 258 124 [a0, a1] (v :: st) ah Q) := wp_getf i258_121
theorem i258_124 : insAt 258 124 = some (.ifCond .le 135, 127) := by decide +kernel
theorem r258_124 {E : aEnv} {c : Nat} {ah : aHp} {st : List Value} {Q : Option Value → aHp → Prop} {a0 a1 : Option Value} {x : Int32} : WP E c 258 124 [a0, a1] (.int x :: st) ah Q = if x ≤ 0 then WP E c 258 135 [a0, a1] st ah Q else WP E c 258 127 [a0, a1] st ah Q := wp_j i258_124 rfl rfl rfl rfl
theorem i258_127 : insAt 258 127 = some (.aload 0, 128) := by decide +kernel
theorem r258_127 {E : aEnv} {c : Nat} {ah : aHp} {st : List Value} {Q : Option Value → aHp → Prop} {a1 : Option Value} {x : Nat} : WP E c 258 127 [some (.ref x), a1] (st) ah Q = WP E c 258 128 [some (.ref x), a1] (.ref x :: st) ah Q := wp_s i258_127 rfl rfl rfl rfl
theorem i258_128 : insAt 258 128 = some (.iload 1, 129) := by decide +kernel
theorem r258_128 {E : aEnv} {c : Nat} {ah : aHp} {st : List Value} {Q : Option Value → aHp → Prop} {a0 : Option Value} {x : Int32} : WP E c 258 128 [a0, some (.int x)] (st) ah Q = WP E c 258 129 [a0, some (.int x)] (.int x :: st) ah Q := wp_s i258_128 rfl rfl rfl rfl
theorem i258_129 : insAt 258 129 = some (.putfield 11650, 132) := by decide +kernel
theorem r258_129 {E : aEnv} {c : Nat} {ah : aHp} {st : List Value} {Q : Option Value → aHp → Prop} {a0 a1 : Option Value} {a : Nat} {v : Value} : WP E c 258 129 [a0, a1] (v :: .ref a :: st) ah Q = WPo (oPF (hg E ah a) 11650 v) (fun e => WP E c 258 132 [a0, a1] st (hs E ah a e) Q) := wp_putf i258_129
theorem i258_132 : insAt 258 132 = some (.goto 82, 135) := by decide +kernel
theorem r258_132 {E : aEnv} {c : Nat} {ah : aHp} {st : List Value} {Q : Option Value → aHp → Prop} {a0 a1 : Option Value} : WP E c 258 132 [a0, a1] (st) ah Q = WP E c 258 82 [a0, a1] st ah Q := wp_s i258_132 rfl rfl rfl rfl
theorem i258_135 : insAt 258 135 = some (.aload 0, 136) := by decide +kernel
theorem r258_135 {E : aEnv} {c : Nat} {ah : aHp} {st : List Value} {Q : Option Value → aHp → Prop} {a1 : Option Value} {x : Nat} : WP E c 258 135 [some (.ref x), a1] (st) ah Q = WP E c 258 136 [some (.ref x), a1] (.ref x :: st) ah Q := wp_s i258_135 rfl rfl rfl rfl
theorem i258_136 : insAt 258 136 = some (.dup, 137) := by decide +kernel
theorem r258_136 {E : aEnv} {c : Nat} {ah : aHp} {st : List Value} {Q : Option Value → aHp → Prop} {a0 a1 : Option Value} {x : Nat} : WP E c 258 136 [a0, a1] (.ref x :: st) ah Q = WP E c 258 137 [a0, a1] (.ref x :: .ref x :: st) ah Q := wp_s i258_136 rfl rfl rfl rfl
theorem r258_136i {E : aEnv} {c : Nat} {ah : aHp} {st : List Value} {Q : Option Value → aHp → Prop} {a0 a1 : Option Value} {x : Int32} : WP E c 258 136 [a0, a1] (.int x :: st) ah Q = WP E c 258 137 [a0, a1] (.int x :: .int x :: st) ah Q := wp_s i258_136 rfl rfl rfl rfl
theorem i258_137 : insAt 258 137 = some (.getfield 11660, 140) := by decide +kernel
theorem r258_137 {E : aEnv} {c : Nat} {ah : aHp} {st : List Value} {Q : Option Value → aHp → Prop} {a0 a1 : Option Value} {a : Nat} : WP E c 258 137 [a0, a1] (.ref a :: st) ah Q = WPo (oGF (hg E ah a) 11 66) (fun v => WP E c 258 140 [a0, a1] (v :: st) ah Q) := wp_getf i258_137
theorem i258_140 : insAt 258 140 = some (.iconst 1, 141) := by decide +kernel
theorem r258_140 {E : aEnv} {c : Nat} {ah : aHp} {st : List Value} {Q : Option Value → aHp → Prop} {a0 a1 : Option Value} : WP E c 258 140 [a0, a1] (st) ah Q = WP E c 258 141 [a0, a1] (.int (1) :: st) ah Q := wp_s i258_140 rfl rfl rfl rfl
theorem i258_141 : insAt 258 141 = some (.iadd, 142) := by decide +kernel
theorem r258_141 {E : aEnv} {c : Nat} {ah : aHp} {st : List Value} {Q : Option Value → aHp → Prop} {a0 a1 : Option Value} {x y : Int32} : WP E c 258 141 [a0, a1] (.int y :: .int x :: st) ah Q = WP E c 258 142 [a0, a1] (.int (x + y) :: st) ah Q := wp_s i258_141 rfl rfl rfl rfl
theorem i258_142 : insAt 258 142 = some (.putfield 11660, 145) := by decide +kernel
theorem r258_142 {E : aEnv} {c : Nat} {ah : aHp} {st : List Value} {Q : Option Value → aHp → Prop} {a0 a1 : Option Value} {a : Nat} {v : Value} : WP E c 258 142 [a0, a1] (v :: .ref a :: st) ah Q = WPo (oPF (hg E ah a) 11660 v) (fun e => WP E c 258 145 [a0, a1] st (hs E ah a e) Q) := wp_putf i258_142
theorem i258_145 : insAt 258 145 = some (.aload 0, 146) := by decide +kernel
theorem r258_145 {E : aEnv} {c : Nat} {ah : aHp} {st : List Value} {Q : Option Value → aHp → Prop} {a1 : Option Value} {x : Nat} : WP E c 258 145 [some (.ref x), a1] (st) ah Q = WP E c 258 146 [some (.ref x), a1] (.ref x :: st) ah Q := wp_s i258_145 rfl rfl rfl rfl
theorem i258_146 : insAt 258 146 = some (.iload 1, 147) := by decide +kernel
theorem r258_146 {E : aEnv} {c : Nat} {ah : aHp} {st : List Value} {Q : Option Value → aHp → Prop} {a0 : Option Value} {x : Int32} : WP E c 258 146 [a0, some (.int x)] (st) ah Q = WP E c 258 147 [a0, some (.int x)] (.int x :: st) ah Q := wp_s i258_146 rfl rfl rfl rfl
theorem i258_147 : insAt 258 147 = some (.invokevirtual 257, 150) := by decide +kernel
theorem r258_147 {E : aEnv} {c : Nat} {ah ah1 : aHp} {r : Option Value} {st : List Value} {Q : Option Value → aHp → Prop} {a0 a1 : Option Value} {p0 : Nat} {p1 : Int32} (h : EV E c 257 [.ref p0, .int p1] ah r ah1) (h2 : oCI (hg E ah p0) = 11) (h3 : wds st ≤ 8) : WP E (c + 1) 258 147 [a0, a1] (.int p1 :: .ref p0 :: st) ah Q = WP E (c + 1) 258 150 [a0, a1] (r.toList ++ st) ah1 Q := wp_call (As := [.ref p0, .int p1]) i258_147 (fun _ => rfl) rfl mr257.1 (rcv_1 h2 mr257.2.2 (by decide)) h3 (by rw [mr257.2.1]; exact Nat.le_of_ble_eq_true rfl) h
theorem i258_150 : insAt 258 150 = some (.istore 1, 151) := by decide +kernel
theorem r258_150 {E : aEnv} {c : Nat} {ah : aHp} {st : List Value} {Q : Option Value → aHp → Prop} {a0 a1 : Option Value} {x : Int32} : WP E c 258 150 [a0, a1] (.int x :: st) ah Q = WP E c 258 151 [kil a0, some (.int x)] (st) ah Q := wp_s i258_150 rfl rfl rfl rfl
theorem i258_151 : insAt 258 151 = some (.goto 82, 154) := by decide +kernel
theorem r258_151 {E : aEnv} {c : Nat} {ah : aHp} {st : List Value} {Q : Option Value → aHp → Prop} {a0 a1 : Option Value} : WP E c 258 151 [a0, a1] (st) ah Q = WP E c 258 82 [a0, a1] st ah Q := wp_s i258_151 rfl rfl rfl rfl
theorem i258_154 : insAt 258 154 = some (.aload 0, 155) := by decide +kernel
theorem r258_154 {E : aEnv} {c : Nat} {ah : aHp} {st : List Value} {Q : Option Value → aHp → Prop} {a1 : Option Value} {x : Nat} : WP E c 258 154 [some (.ref x), a1] (st) ah Q = WP E c 258 155 [some (.ref x), a1] (.ref x :: st) ah Q := wp_s i258_154 rfl rfl rfl rfl
theorem i258_155 : insAt 258 155 = some (.getfield 11620, 158) := by decide +kernel
theorem r258_155 {E : aEnv} {c : Nat} {ah : aHp} {st : List Value} {Q : Option Value → aHp → Prop} {a0 a1 : Option Value} {a : Nat} : WP E c 258 155 [a0, a1] (.ref a :: st) ah Q = WPo (oGF (hg E ah a) 11 62) (fun v => WP E c 258 158 [a0, a1] (v :: st) ah Q) := wp_getf i258_155
theorem i258_158 : insAt 258 158 = some (.ireturn, 159) := by decide +kernel
theorem r258_158 {E : aEnv} {c : Nat} {ah : aHp} {Q : Option Value → aHp → Prop} {a0 a1 : Option Value} {x : Int32} : WP E c 258 158 [a0, a1] ([.int x]) ah Q = Q (some (.int x)) ah := wp_rt i258_158 rfl
theorem e259 {E : aEnv} {c : Nat} {ah ahF : aHp} {r : Option Value} {p0 : Nat} {p1 : Int32} (h : WP E c 259 0 [some (.ref p0), some (.int p1)] [] ah (fun r1 x1 => r1 = r ∧ x1 = ahF)) : EV E c 259 [.ref p0, .int p1] ah r ahF := EV.of (by rw [mr259.2.1]; exact h)
theorem i259_0 : insAt 259 0 = some (.aload 0, 1) := by decide +kernel
theorem r259_0 {E : aEnv} {c : Nat} {ah : aHp} {st : List Value} {Q : Option Value → aHp → Prop} {a1 : Option Value} {x : Nat} : WP E c 259 0 [some (.ref x), a1] (st) ah Q = WP E c 259 1 [some (.ref x), a1] (.ref x :: st) ah Q := wp_s i259_0 rfl rfl rfl rfl
theorem i259_1 : insAt 259 1 = some (.iconst 0, 2) := by decide +kernel
theorem r259_1 {E : aEnv} {c : Nat} {ah : aHp} {st : List Value} {Q : Option Value → aHp → Prop} {a0 a1 : Option Value} : WP E c 259 1 [a0, a1] (st) ah Q = WP E c 259 2 [a0, a1] (.int (0) :: st) ah Q := wp_s i259_1 rfl rfl rfl rfl
theorem i259_2 : insAt 259 2 = some (.putfield 11010, 5) := by decide +kernel
theorem r259_2 {E : aEnv} {c : Nat} {ah : aHp} {st : List Value} {Q : Option Value → aHp → Prop} {a0 a1 : Option Value} {a : Nat} {v : Value} : WP E c 259 2 [a0, a1] (v :: .ref a :: st) ah Q = WPo (oPF (hg E ah a) 11010 v) (fun e => WP E c 259 5 [a0, a1] st (hs E ah a e) Q) := wp_putf i259_2
theorem i259_5 : insAt 259 5 = some (.aload 0, 6) := by decide +kernel
theorem r259_5 {E : aEnv} {c : Nat} {ah : aHp} {st : List Value} {Q : Option Value → aHp → Prop} {a1 : Option Value} {x : Nat} : WP E c 259 5 [some (.ref x), a1] (st) ah Q = WP E c 259 6 [some (.ref x), a1] (.ref x :: st) ah Q := wp_s i259_5 rfl rfl rfl rfl
theorem i259_6 : insAt 259 6 = some (.iconst 0, 7) := by decide +kernel
theorem r259_6 {E : aEnv} {c : Nat} {ah : aHp} {st : List Value} {Q : Option Value → aHp → Prop} {a0 a1 : Option Value} : WP E c 259 6 [a0, a1] (st) ah Q = WP E c 259 7 [a0, a1] (.int (0) :: st) ah Q := wp_s i259_6 rfl rfl rfl rfl
theorem i259_7 : insAt 259 7 = some (.putfield 11000, 10) := by decide +kernel
theorem r259_7 {E : aEnv} {c : Nat} {ah : aHp} {st : List Value} {Q : Option Value → aHp → Prop} {a0 a1 : Option Value} {a : Nat} {v : Value} : WP E c 259 7 [a0, a1] (v :: .ref a :: st) ah Q = WPo (oPF (hg E ah a) 11000 v) (fun e => WP E c 259 10 [a0, a1] st (hs E ah a e) Q) := wp_putf i259_7
theorem i259_10 : insAt 259 10 = some (.iload 1, 11) := by decide +kernel
theorem r259_10 {E : aEnv} {c : Nat} {ah : aHp} {st : List Value} {Q : Option Value → aHp → Prop} {a0 : Option Value} {x : Int32} : WP E c 259 10 [a0, some (.int x)] (st) ah Q = WP E c 259 11 [a0, some (.int x)] (.int x :: st) ah Q := wp_s i259_10 rfl rfl rfl rfl
theorem i259_11 : insAt 259 11 = some (.i2l, 12) := by decide +kernel
theorem r259_11 {E : aEnv} {c : Nat} {ah : aHp} {st : List Value} {Q : Option Value → aHp → Prop} {a0 a1 : Option Value} {x : Int32} : WP E c 259 11 [a0, a1] (.int x :: st) ah Q = WP E c 259 12 [a0, a1] (.long x.toInt64 :: st) ah Q := wp_s i259_11 rfl rfl rfl rfl
theorem i259_12 : insAt 259 12 = some (.jsr_w 0, 13) := by decide +kernel
theorem r259_12 {E : aEnv} {c : Nat} {ah : aHp} {st : List Value} {Q : Option Value → aHp → Prop} {a0 a1 : Option Value} : WP E c 259 12 [a0, a1] (st) ah Q = WP E c 259 13 [a0, a1] (.long (0) :: st) ah Q := wp_s i259_12 rfl rfl rfl rfl
theorem i259_13 : insAt 259 13 = some (.jsr_w 3, 16) := by decide +kernel
theorem r259_13 {E : aEnv} {c : Nat} {ah : aHp} {st : List Value} {Q : Option Value → aHp → Prop} {a0 a1 : Option Value} : WP E c 259 13 [a0, a1] (st) ah Q = WP E c 259 16 [a0, a1] (.long (3) :: st) ah Q := wp_s i259_13 rfl rfl rfl rfl
theorem i259_16 : insAt 259 16 = some (.invokestatic 199, 19) := by decide +kernel
theorem r259_16 {E : aEnv} {c : Nat} {ah ah1 : aHp} {r : Option Value} {st : List Value} {Q : Option Value → aHp → Prop} {a0 a1 : Option Value} {p0 : Int64} {p1 : Int64} {p2 : Int64} (h : EV E c 199 [.long p0, .long p1, .long p2] ah r ah1) (h3 : wds st ≤ 8) : WP E (c + 1) 259 16 [a0, a1] (.long p2 :: .long p1 :: .long p0 :: st) ah Q = WP E (c + 1) 259 19 [a0, a1] (r.toList ++ st) ah1 Q := wp_call (As := [.long p0, .long p1, .long p2]) i259_16 (fun _ => rfl) rfl mr199.1 rfl h3 (by rw [mr199.2.1]; exact Nat.le_of_ble_eq_true rfl) h
theorem i259_19 : insAt 259 19 = some (.ifCond .ne 28, 22) := by decide +kernel
theorem r259_19 {E : aEnv} {c : Nat} {ah : aHp} {st : List Value} {Q : Option Value → aHp → Prop} {a0 a1 : Option Value} {x : Int32} : WP E c 259 19 [a0, a1] (.int x :: st) ah Q = if ¬ x = 0 then WP E c 259 28 [a0, a1] st ah Q else WP E c 259 22 [a0, a1] st ah Q := wp_j i259_19 rfl rfl rfl rfl
theorem i259_22 : insAt 259 22 = some (.aload 0, 23) := by decide +kernel
theorem r259_22 {E : aEnv} {c : Nat} {ah : aHp} {st : List Value} {Q : Option Value → aHp → Prop} {a1 : Option Value} {x : Nat} : WP E c 259 22 [some (.ref x), a1] (st) ah Q = WP E c 259 23 [some (.ref x), a1] (.ref x :: st) ah Q := wp_s i259_22 rfl rfl rfl rfl
theorem i259_23 : insAt 259 23 = some (.iconst 5, 24) := by decide +kernel
theorem r259_23 {E : aEnv} {c : Nat} {ah : aHp} {st : List Value} {Q : Option Value → aHp → Prop} {a0 a1 : Option Value} : WP E c 259 23 [a0, a1] (st) ah Q = WP E c 259 24 [a0, a1] (.int (5) :: st) ah Q := wp_s i259_23 rfl rfl rfl rfl
theorem i259_24 : insAt 259 24 = some (.invokevirtual 197, 27) := by decide +kernel
theorem r259_24 {E : aEnv} {c : Nat} {ah ah1 : aHp} {r : Option Value} {st : List Value} {Q : Option Value → aHp → Prop} {a0 a1 : Option Value} {p0 : Nat} {p1 : Int32} (h : EV E c 197 [.ref p0, .int p1] ah r ah1) (h2 : oCI (hg E ah p0) = 11) (h3 : wds st ≤ 8) : WP E (c + 1) 259 24 [a0, a1] (.int p1 :: .ref p0 :: st) ah Q = WP E (c + 1) 259 27 [a0, a1] (r.toList ++ st) ah1 Q := wp_call (As := [.ref p0, .int p1]) i259_24 (fun _ => rfl) rfl mr197.1 (rcv_1 h2 mr197.2.2 (by decide)) h3 (by rw [mr197.2.1]; exact Nat.le_of_ble_eq_true rfl) h
theorem i259_27 : insAt 259 27 = some (.ireturn, 28) := by decide +kernel
theorem r259_27 {E : aEnv} {c : Nat} {ah : aHp} {Q : Option Value → aHp → Prop} {a0 a1 : Option Value} {x : Int32} : WP E c 259 27 [a0, a1] ([.int x]) ah Q = Q (some (.int x)) ah := wp_rt i259_27 rfl
theorem i259_28 : insAt 259 28 = some (.aload 0, 29) := by decide +kernel
theorem r259_28 {E : aEnv} {c : Nat} {ah : aHp} {st : List Value} {Q : Option Value → aHp → Prop} {a1 : Option Value} {x : Nat} : WP E c 259 28 [some (.ref x), a1] (st) ah Q = WP E c 259 29 [some (.ref x), a1] (.ref x :: st) ah Q := wp_s i259_28 rfl rfl rfl rfl
theorem i259_29 : insAt 259 29 = some (.getfield 11603, 32) := by decide +kernel
theorem r259_29 {E : aEnv} {c : Nat} {ah : aHp} {st : List Value} {Q : Option Value → aHp → Prop} {a0 a1 : Option Value} {a : Nat} : WP E c 259 29 [a0, a1] (.ref a :: st) ah Q = WPo (oGF (hg E ah a) 11 60) (fun v => WP E c 259 32 [a0, a1] (v :: st) ah Q) := wp_getf i259_29
theorem i259_32 : insAt 259 32 = some (.ifCond .ne 42, 35) := by decide +kernel
theorem r259_32 {E : aEnv} {c : Nat} {ah : aHp} {st : List Value} {Q : Option Value → aHp → Prop} {a0 a1 : Option Value} {x : Int32} : WP E c 259 32 [a0, a1] (.int x :: st) ah Q = if ¬ x = 0 then WP E c 259 42 [a0, a1] st ah Q else WP E c 259 35 [a0, a1] st ah Q := wp_j i259_32 rfl rfl rfl rfl
theorem i259_35 : insAt 259 35 = some (.aload 0, 36) := by decide +kernel
theorem r259_35 {E : aEnv} {c : Nat} {ah : aHp} {st : List Value} {Q : Option Value → aHp → Prop} {a1 : Option Value} {x : Nat} : WP E c 259 35 [some (.ref x), a1] (st) ah Q = WP E c 259 36 [some (.ref x), a1] (.ref x :: st) ah Q := wp_s i259_35 rfl rfl rfl rfl
theorem i259_36 : insAt 259 36 = some (.iconst 8, 38) := by decide +kernel
theorem r259_36 {E : aEnv} {c : Nat} {ah : aHp} {st : List Value} {Q : Option Value → aHp → Prop} {a0 a1 : Option Value} : WP E c 259 36 [a0, a1] (st) ah Q = WP E c 259 38 [a0, a1] (.int (8) :: st) ah Q := wp_s i259_36 rfl rfl rfl rfl
theorem i259_38 : insAt 259 38 = some (.invokevirtual 197, 41) := by decide +kernel
theorem r259_38 {E : aEnv} {c : Nat} {ah ah1 : aHp} {r : Option Value} {st : List Value} {Q : Option Value → aHp → Prop} {a0 a1 : Option Value} {p0 : Nat} {p1 : Int32} (h : EV E c 197 [.ref p0, .int p1] ah r ah1) (h2 : oCI (hg E ah p0) = 11) (h3 : wds st ≤ 8) : WP E (c + 1) 259 38 [a0, a1] (.int p1 :: .ref p0 :: st) ah Q = WP E (c + 1) 259 41 [a0, a1] (r.toList ++ st) ah1 Q := wp_call (As := [.ref p0, .int p1]) i259_38 (fun _ => rfl) rfl mr197.1 (rcv_1 h2 mr197.2.2 (by decide)) h3 (by rw [mr197.2.1]; exact Nat.le_of_ble_eq_true rfl) h
theorem i259_41 : insAt 259 41 = some (.ireturn, 42) := by decide +kernel
theorem r259_41 {E : aEnv} {c : Nat} {ah : aHp} {Q : Option Value → aHp → Prop} {a0 a1 : Option Value} {x : Int32} : WP E c 259 41 [a0, a1] ([.int x]) ah Q = Q (some (.int x)) ah := wp_rt i259_41 rfl
theorem i259_42 : insAt 259 42 = some (.iload 1, 43) := by decide +kernel
theorem r259_42 {E : aEnv} {c : Nat} {ah : aHp} {st : List Value} {Q : Option Value → aHp → Prop} {a0 : Option Value} {x : Int32} : WP E c 259 42 [a0, some (.int x)] (st) ah Q = WP E c 259 43 [a0, some (.int x)] (.int x :: st) ah Q := wp_s i259_42 rfl rfl rfl rfl
theorem i259_43 : insAt 259 43 = some (.ifCond .ne 53, 46) := by decide +kernel
theorem r259_43 {E : aEnv} {c : Nat} {ah : aHp} {st : List Value} {Q : Option Value → aHp → Prop} {a0 a1 : Option Value} {x : Int32} : WP E c 259 43 [a0, a1] (.int x :: st) ah Q = if ¬ x = 0 then WP E c 259 53 [a0, a1] st ah Q else WP E c 259 46 [a0, a1] st ah Q := wp_j i259_43 rfl rfl rfl rfl
theorem i259_46 : insAt 259 46 = some (.aload 0, 47) := by decide +kernel
theorem r259_46 {E : aEnv} {c : Nat} {ah : aHp} {st : List Value} {Q : Option Value → aHp → Prop} {a1 : Option Value} {x : Nat} : WP E c 259 46 [some (.ref x), a1] (st) ah Q = WP E c 259 47 [some (.ref x), a1] (.ref x :: st) ah Q := wp_s i259_46 rfl rfl rfl rfl
theorem i259_47 : insAt 259 47 = some (.getfield 11630, 50) := by decide +kernel
theorem r259_47 {E : aEnv} {c : Nat} {ah : aHp} {st : List Value} {Q : Option Value → aHp → Prop} {a0 a1 : Option Value} {a : Nat} : WP E c 259 47 [a0, a1] (.ref a :: st) ah Q = WPo (oGF (hg E ah a) 11 63) (fun v => WP E c 259 50 [a0, a1] (v :: st) ah Q) := wp_getf i259_47
theorem i259_50 : insAt 259 50 = some (.goto 81, 53) := by decide +kernel
theorem r259_50 {E : aEnv} {c : Nat} {ah : aHp} {st : List Value} {Q : Option Value → aHp → Prop} {a0 a1 : Option Value} : WP E c 259 50 [a0, a1] (st) ah Q = WP E c 259 81 [a0, a1] st ah Q := wp_s i259_50 rfl rfl rfl rfl
theorem i259_53 : insAt 259 53 = some (.iload 1, 54) := by decide +kernel
theorem r259_53 {E : aEnv} {c : Nat} {ah : aHp} {st : List Value} {Q : Option Value → aHp → Prop} {a0 : Option Value} {x : Int32} : WP E c 259 53 [a0, some (.int x)] (st) ah Q = WP E c 259 54 [a0, some (.int x)] (.int x :: st) ah Q := wp_s i259_53 rfl rfl rfl rfl
theorem i259_54 : insAt 259 54 = some (.iconst 1, 55) := by decide +kernel
theorem r259_54 {E : aEnv} {c : Nat} {ah : aHp} {st : List Value} {Q : Option Value → aHp → Prop} {a0 a1 : Option Value} : WP E c 259 54 [a0, a1] (st) ah Q = WP E c 259 55 [a0, a1] (.int (1) :: st) ah Q := wp_s i259_54 rfl rfl rfl rfl
theorem i259_55 : insAt 259 55 = some (.if_icmp .ne 65, 58) := by decide +kernel
theorem r259_55 {E : aEnv} {c : Nat} {ah : aHp} {st : List Value} {Q : Option Value → aHp → Prop} {a0 a1 : Option Value} {x y : Int32} : WP E c 259 55 [a0, a1] (.int y :: .int x :: st) ah Q = if ¬ x = y then WP E c 259 65 [a0, a1] st ah Q else WP E c 259 58 [a0, a1] st ah Q := wp_j i259_55 rfl rfl rfl rfl
theorem i259_58 : insAt 259 58 = some (.aload 0, 59) := by decide +kernel
theorem r259_58 {E : aEnv} {c : Nat} {ah : aHp} {st : List Value} {Q : Option Value → aHp → Prop} {a1 : Option Value} {x : Nat} : WP E c 259 58 [some (.ref x), a1] (st) ah Q = WP E c 259 59 [some (.ref x), a1] (.ref x :: st) ah Q := wp_s i259_58 rfl rfl rfl rfl
theorem i259_59 : insAt 259 59 = some (.getfield 11640, 62) := by decide +kernel
theorem r259_59 {E : aEnv} {c : Nat} {ah : aHp} {st : List Value} {Q : Option Value → aHp → Prop} {a0 a1 : Option Value} {a : Nat} : WP E c 259 59 [a0, a1] (.ref a :: st) ah Q = WPo (oGF (hg E ah a) 11 64) (fun v => WP E c 259 62 [a0, a1] (v :: st) ah Q) := wp_getf i259_59
theorem i259_62 : insAt 259 62 = some (.goto 81, 65) := by decide +kernel
theorem r259_62 {E : aEnv} {c : Nat} {ah : aHp} {st : List Value} {Q : Option Value → aHp → Prop} {a0 a1 : Option Value} : WP E c 259 62 [a0, a1] (st) ah Q = WP E c 259 81 [a0, a1] st ah Q := wp_s i259_62 rfl rfl rfl rfl
theorem i259_65 : insAt 259 65 = some (.iload 1, 66) := by decide +kernel
theorem r259_65 {E : aEnv} {c : Nat} {ah : aHp} {st : List Value} {Q : Option Value → aHp → Prop} {a0 : Option Value} {x : Int32} : WP E c 259 65 [a0, some (.int x)] (st) ah Q = WP E c 259 66 [a0, some (.int x)] (.int x :: st) ah Q := wp_s i259_65 rfl rfl rfl rfl
theorem i259_66 : insAt 259 66 = some (.iconst 2, 67) := by decide +kernel
theorem r259_66 {E : aEnv} {c : Nat} {ah : aHp} {st : List Value} {Q : Option Value → aHp → Prop} {a0 a1 : Option Value} : WP E c 259 66 [a0, a1] (st) ah Q = WP E c 259 67 [a0, a1] (.int (2) :: st) ah Q := wp_s i259_66 rfl rfl rfl rfl
theorem i259_67 : insAt 259 67 = some (.if_icmp .ne 77, 70) := by decide +kernel
theorem r259_67 {E : aEnv} {c : Nat} {ah : aHp} {st : List Value} {Q : Option Value → aHp → Prop} {a0 a1 : Option Value} {x y : Int32} : WP E c 259 67 [a0, a1] (.int y :: .int x :: st) ah Q = if ¬ x = y then WP E c 259 77 [a0, a1] st ah Q else WP E c 259 70 [a0, a1] st ah Q := wp_j i259_67 rfl rfl rfl rfl
theorem i259_70 : insAt 259 70 = some (.aload 0, 71) := by decide +kernel
theorem r259_70 {E : aEnv} {c : Nat} {ah : aHp} {st : List Value} {Q : Option Value → aHp → Prop} {a1 : Option Value} {x : Nat} : WP E c 259 70 [some (.ref x), a1] (st) ah Q = WP E c 259 71 [some (.ref x), a1] (.ref x :: st) ah Q := wp_s i259_70 rfl rfl rfl rfl
theorem i259_71 : insAt 259 71 = some (.getfield 11650, 74) := by decide +kernel
theorem r259_71 {E : aEnv} {c : Nat} {ah : aHp} {st : List Value} {Q : Option Value → aHp → Prop} {a0 a1 : Option Value} {a : Nat} : WP E c 259 71 [a0, a1] (.ref a :: st) ah Q = WPo (oGF (hg E ah a) 11 65) (fun v => WP E c 259 74 [a0, a1] (v :: st) ah Q) := wp_getf i259_71
theorem i259_74 : insAt 259 74 = some (.goto 81, 77) := by decide +kernel
theorem r259_74 {E : aEnv} {c : Nat} {ah : aHp} {st : List Value} {Q : Option Value → aHp → Prop} {a0 a1 : Option Value} : WP E c 259 74 [a0, a1] (st) ah Q = WP E c 259 81 [a0, a1] st ah Q := wp_s i259_74 rfl rfl rfl rfl
theorem i259_77 : insAt 259 77 = some (.aload 0, 78) := by decide +kernel
theorem r259_77 {E : aEnv} {c : Nat} {ah : aHp} {st : List Value} {Q : Option Value → aHp → Prop} {a1 : Option Value} {x : Nat} : WP E c 259 77 [some (.ref x), a1] (st) ah Q = WP E c 259 78 [some (.ref x), a1] (.ref x :: st) ah Q := wp_s i259_77 rfl rfl rfl rfl
theorem i259_78 : insAt 259 78 = some (.getfield 11660, 81) := by decide +kernel
theorem r259_78 {E : aEnv} {c : Nat} {ah : aHp} {st : List Value} {Q : Option Value → aHp → Prop} {a0 a1 : Option Value} {a : Nat} : WP E c 259 78 [a0, a1] (.ref a :: st) ah Q = WPo (oGF (hg E ah a) 11 66) (fun v => WP E c 259 81 [a0, a1] (v :: st) ah Q) := wp_getf i259_78
theorem i259_81 : insAt 259 81 = some (.ireturn, 82) := by decide +kernel
theorem r259_81 {E : aEnv} {c : Nat} {ah : aHp} {Q : Option Value → aHp → Prop} {a0 a1 : Option Value} {x : Int32} : WP E c 259 81 [a0, a1] ([.int x]) ah Q = Q (some (.int x)) ah := wp_rt i259_81 rfl
theorem e260 {E : aEnv} {c : Nat} {ah ahF : aHp} {r : Option Value} {p0 : Nat} {p1 : Int32} (h : WP E c 260 0 [some (.ref p0), some (.int p1)] [] ah (fun r1 x1 => r1 = r ∧ x1 = ahF)) : EV E c 260 [.ref p0, .int p1] ah r ahF := EV.of (by rw [mr260.2.1]; exact h)
theorem i260_0 : insAt 260 0 = some (.aload 0, 1) := by decide +kernel
theorem r260_0 {E : aEnv} {c : Nat} {ah : aHp} {st : List Value} {Q : Option Value → aHp → Prop} {a1 : Option Value} {x : Nat} : WP E c 260 0 [some (.ref x), a1] (st) ah Q = WP E c 260 1 [some (.ref x), a1] (.ref x :: st) ah Q := wp_s i260_0 rfl rfl rfl rfl
theorem i260_1 : insAt 260 1 = some (.iconst 0, 2) := by decide +kernel
theorem r260_1 {E : aEnv} {c : Nat} {ah : aHp} {st : List Value} {Q : Option Value → aHp → Prop} {a0 a1 : Option Value} : WP E c 260 1 [a0, a1] (st) ah Q = WP E c 260 2 [a0, a1] (.int (0) :: st) ah Q := wp_s i260_1 rfl rfl rfl rfl
theorem i260_2 : insAt 260 2 = some (.putfield 11010, 5) := by decide +kernel
theorem r260_2 {E : aEnv} {c : Nat} {ah : aHp} {st : List Value} {Q : Option Value → aHp → Prop} {a0 a1 : Option Value} {a : Nat} {v : Value} : WP E c 260 2 [a0, a1] (v :: .ref a :: st) ah Q = WPo (oPF (hg E ah a) 11010 v) (fun e => WP E c 260 5 [a0, a1] st (hs E ah a e) Q) := wp_putf i260_2
theorem i260_5 : insAt 260 5 = some (.aload 0, 6) := by decide +kernel
theorem r260_5 {E : aEnv} {c : Nat} {ah : aHp} {st : List Value} {Q : Option Value → aHp → Prop} {a1 : Option Value} {x : Nat} : WP E c 260 5 [some (.ref x), a1] (st) ah Q = WP E c 260 6 [some (.ref x), a1] (.ref x :: st) ah Q := wp_s i260_5 rfl rfl rfl rfl
theorem i260_6 : insAt 260 6 = some (.iconst 0, 7) := by decide +kernel
theorem r260_6 {E : aEnv} {c : Nat} {ah : aHp} {st : List Value} {Q : Option Value → aHp → Prop} {a0 a1 : Option Value} : WP E c 260 6 [a0, a1] (st) ah Q = WP E c 260 7 [a0, a1] (.int (0) :: st) ah Q := wp_s i260_6 rfl rfl rfl rfl
theorem i260_7 : insAt 260 7 = some (.putfield 11000, 10) := by decide +kernel
theorem r260_7 {E : aEnv} {c : Nat} {ah : aHp} {st : List Value} {Q : Option Value → aHp → Prop} {a0 a1 : Option Value} {a : Nat} {v : Value} : WP E c 260 7 [a0, a1] (v :: .ref a :: st) ah Q = WPo (oPF (hg E ah a) 11000 v) (fun e => WP E c 260 10 [a0, a1] st (hs E ah a e) Q) := wp_putf i260_7
theorem i260_10 : insAt 260 10 = some (.iload 1, 11) := by decide +kernel
theorem r260_10 {E : aEnv} {c : Nat} {ah : aHp} {st : List Value} {Q : Option Value → aHp → Prop} {a0 : Option Value} {x : Int32} : WP E c 260 10 [a0, some (.int x)] (st) ah Q = WP E c 260 11 [a0, some (.int x)] (.int x :: st) ah Q := wp_s i260_10 rfl rfl rfl rfl
theorem i260_11 : insAt 260 11 = some (.i2l, 12) := by decide +kernel
theorem r260_11 {E : aEnv} {c : Nat} {ah : aHp} {st : List Value} {Q : Option Value → aHp → Prop} {a0 a1 : Option Value} {x : Int32} : WP E c 260 11 [a0, a1] (.int x :: st) ah Q = WP E c 260 12 [a0, a1] (.long x.toInt64 :: st) ah Q := wp_s i260_11 rfl rfl rfl rfl
theorem i260_12 : insAt 260 12 = some (.jsr_w 0, 13) := by decide +kernel
theorem r260_12 {E : aEnv} {c : Nat} {ah : aHp} {st : List Value} {Q : Option Value → aHp → Prop} {a0 a1 : Option Value} : WP E c 260 12 [a0, a1] (st) ah Q = WP E c 260 13 [a0, a1] (.long (0) :: st) ah Q := wp_s i260_12 rfl rfl rfl rfl
theorem i260_13 : insAt 260 13 = some (.aload 0, 14) := by decide +kernel
theorem r260_13 {E : aEnv} {c : Nat} {ah : aHp} {st : List Value} {Q : Option Value → aHp → Prop} {a1 : Option Value} {x : Nat} : WP E c 260 13 [some (.ref x), a1] (st) ah Q = WP E c 260 14 [some (.ref x), a1] (.ref x :: st) ah Q := wp_s i260_13 rfl rfl rfl rfl
theorem i260_14 : insAt 260 14 = some (.getfield 11620, 17) := by decide +kernel
theorem r260_14 {E : aEnv} {c : Nat} {ah : aHp} {st : List Value} {Q : Option Value → aHp → Prop} {a0 a1 : Option Value} {a : Nat} : WP E c 260 14 [a0, a1] (.ref a :: st) ah Q = WPo (oGF (hg E ah a) 11 62) (fun v => WP E c 260 17 [a0, a1] (v :: st) ah Q) := wp_getf i260_14
theorem i260_17 : insAt 260 17 = some (.iconst 1, 18) := by decide +kernel
theorem r260_17 {E : aEnv} {c : Nat} {ah : aHp} {st : List Value} {Q : Option Value → aHp → Prop} {a0 a1 : Option Value} : WP E c 260 17 [a0, a1] (st) ah Q = WP E c 260 18 [a0, a1] (.int (1) :: st) ah Q := wp_s i260_17 rfl rfl rfl rfl
theorem i260_18 : insAt 260 18 = some (.isub, 19) := by decide +kernel
theorem r260_18 {E : aEnv} {c : Nat} {ah : aHp} {st : List Value} {Q : Option Value → aHp → Prop} {a0 a1 : Option Value} {x y : Int32} : WP E c 260 18 [a0, a1] (.int y :: .int x :: st) ah Q = WP E c 260 19 [a0, a1] (.int (x - y) :: st) ah Q := wp_s i260_18 rfl rfl rfl rfl
theorem i260_19 : insAt 260 19 = some (.i2l, 20) := by decide +kernel
theorem r260_19 {E : aEnv} {c : Nat} {ah : aHp} {st : List Value} {Q : Option Value → aHp → Prop} {a0 a1 : Option Value} {x : Int32} : WP E c 260 19 [a0, a1] (.int x :: st) ah Q = WP E c 260 20 [a0, a1] (.long x.toInt64 :: st) ah Q := wp_s i260_19 rfl rfl rfl rfl
theorem i260_20 : insAt 260 20 = some (.invokestatic 199, 23) := by decide +kernel
theorem r260_20 {E : aEnv} {c : Nat} {ah ah1 : aHp} {r : Option Value} {st : List Value} {Q : Option Value → aHp → Prop} {a0 a1 : Option Value} {p0 : Int64} {p1 : Int64} {p2 : Int64} (h : EV E c 199 [.long p0, .long p1, .long p2] ah r ah1) (h3 : wds st ≤ 8) : WP E (c + 1) 260 20 [a0, a1] (.long p2 :: .long p1 :: .long p0 :: st) ah Q = WP E (c + 1) 260 23 [a0, a1] (r.toList ++ st) ah1 Q := wp_call (As := [.long p0, .long p1, .long p2]) i260_20 (fun _ => rfl) rfl mr199.1 rfl h3 (by rw [mr199.2.1]; exact Nat.le_of_ble_eq_true rfl) h
theorem i260_23 : insAt 260 23 = some (.ifCond .eq 35, 26) := by decide +kernel
theorem r260_23 {E : aEnv} {c : Nat} {ah : aHp} {st : List Value} {Q : Option Value → aHp → Prop} {a0 a1 : Option Value} {x : Int32} : WP E c 260 23 [a0, a1] (.int x :: st) ah Q = if x = 0 then WP E c 260 35 [a0, a1] st ah Q else WP E c 260 26 [a0, a1] st ah Q := wp_j i260_23 rfl rfl rfl rfl
theorem i260_26 : insAt 260 26 = some (.aload 0, 27) := by decide +kernel
theorem r260_26 {E : aEnv} {c : Nat} {ah : aHp} {st : List Value} {Q : Option Value → aHp → Prop} {a1 : Option Value} {x : Nat} : WP E c 260 26 [some (.ref x), a1] (st) ah Q = WP E c 260 27 [some (.ref x), a1] (.ref x :: st) ah Q := wp_s i260_26 rfl rfl rfl rfl
theorem i260_27 : insAt 260 27 = some (.getfield 11592, 30) := by decide +kernel
theorem r260_27 {E : aEnv} {c : Nat} {ah : aHp} {st : List Value} {Q : Option Value → aHp → Prop} {a0 a1 : Option Value} {a : Nat} : WP E c 260 27 [a0, a1] (.ref a :: st) ah Q = WPo (oGF (hg E ah a) 11 59) (fun v => WP E c 260 30 [a0, a1] (v :: st) ah Q) := wp_getf i260_27
theorem i260_30 : insAt 260 30 = some (.iload 1, 31) := by decide +kernel
theorem r260_30 {E : aEnv} {c : Nat} {ah : aHp} {st : List Value} {Q : Option Value → aHp → Prop} {a0 : Option Value} {x : Int32} : WP E c 260 30 [a0, some (.int x)] (st) ah Q = WP E c 260 31 [a0, some (.int x)] (.int x :: st) ah Q := wp_s i260_30 rfl rfl rfl rfl
theorem i260_31 : insAt 260 31 = some (.laload, 32) := by decide +kernel
theorem r260_31 {E : aEnv} {c : Nat} {ah : aHp} {st : List Value} {Q : Option Value → aHp → Prop} {a0 a1 : Option Value} {i : Int32} {a : Nat} : WP E c 260 31 [a0, a1] (.int i :: .ref a :: st) ah Q = WPo (gL E ah (.int i :: .ref a :: st)) (fun s9 => WP E c 260 32 [a0, a1] s9 ah Q) := wp_hr i260_31 rfl rfl rfl rfl rfl rfl rfl rfl
theorem i260_32 : insAt 260 32 = some (.goto 42, 35) := by decide +kernel
theorem r260_32 {E : aEnv} {c : Nat} {ah : aHp} {st : List Value} {Q : Option Value → aHp → Prop} {a0 a1 : Option Value} : WP E c 260 32 [a0, a1] (st) ah Q = WP E c 260 42 [a0, a1] st ah Q := wp_s i260_32 rfl rfl rfl rfl
theorem i260_35 : insAt 260 35 = some (.aload 0, 36) := by decide +kernel
theorem r260_35 {E : aEnv} {c : Nat} {ah : aHp} {st : List Value} {Q : Option Value → aHp → Prop} {a1 : Option Value} {x : Nat} : WP E c 260 35 [some (.ref x), a1] (st) ah Q = WP E c 260 36 [some (.ref x), a1] (.ref x :: st) ah Q := wp_s i260_35 rfl rfl rfl rfl
theorem i260_36 : insAt 260 36 = some (.iconst 8, 38) := by decide +kernel
theorem r260_36 {E : aEnv} {c : Nat} {ah : aHp} {st : List Value} {Q : Option Value → aHp → Prop} {a0 a1 : Option Value} : WP E c 260 36 [a0, a1] (st) ah Q = WP E c 260 38 [a0, a1] (.int (8) :: st) ah Q := wp_s i260_36 rfl rfl rfl rfl
theorem i260_38 : insAt 260 38 = some (.invokevirtual 197, 41) := by decide +kernel
theorem r260_38 {E : aEnv} {c : Nat} {ah ah1 : aHp} {r : Option Value} {st : List Value} {Q : Option Value → aHp → Prop} {a0 a1 : Option Value} {p0 : Nat} {p1 : Int32} (h : EV E c 197 [.ref p0, .int p1] ah r ah1) (h2 : oCI (hg E ah p0) = 11) (h3 : wds st ≤ 8) : WP E (c + 1) 260 38 [a0, a1] (.int p1 :: .ref p0 :: st) ah Q = WP E (c + 1) 260 41 [a0, a1] (r.toList ++ st) ah1 Q := wp_call (As := [.ref p0, .int p1]) i260_38 (fun _ => rfl) rfl mr197.1 (rcv_1 h2 mr197.2.2 (by decide)) h3 (by rw [mr197.2.1]; exact Nat.le_of_ble_eq_true rfl) h
theorem i260_41 : insAt 260 41 = some (.i2l, 42) := by decide +kernel
theorem r260_41 {E : aEnv} {c : Nat} {ah : aHp} {st : List Value} {Q : Option Value → aHp → Prop} {a0 a1 : Option Value} {x : Int32} : WP E c 260 41 [a0, a1] (.int x :: st) ah Q = WP E c 260 42 [a0, a1] (.long x.toInt64 :: st) ah Q := wp_s i260_41 rfl rfl rfl rfl
theorem i260_42 : insAt 260 42 = some (.lreturn, 43) := by decide +kernel
theorem r260_42 {E : aEnv} {c : Nat} {ah : aHp} {Q : Option Value → aHp → Prop} {a0 a1 : Option Value} {x : Int64} : WP E c 260 42 [a0, a1] ([.long x]) ah Q = Q (some (.long x)) ah := wp_rt i260_42 rfl
theorem e261 {E : aEnv} {c : Nat} {ah ahF : aHp} {r : Option Value} {p0 : Nat} {p1 : Int32} (h : WP E c 261 0 [some (.ref p0), some (.int p1)] [] ah (fun r1 x1 => r1 = r ∧ x1 = ahF)) : EV E c 261 [.ref p0, .int p1] ah r ahF := EV.of (by rw [mr261.2.1]; exact h)
theorem i261_0 : insAt 261 0 = some (.aload 0, 1) := by decide +kernel
theorem r261_0 {E : aEnv} {c : Nat} {ah : aHp} {st : List Value} {Q : Option Value → aHp → Prop} {a1 : Option Value} {x : Nat} : WP E c 261 0 [some (.ref x), a1] (st) ah Q = WP E c 261 1 [some (.ref x), a1] (.ref x :: st) ah Q := wp_s i261_0 rfl rfl rfl rfl
theorem i261_1 : insAt 261 1 = some (.iconst 0, 2) := by decide +kernel
theorem r261_1 {E : aEnv} {c : Nat} {ah : aHp} {st : List Value} {Q : Option Value → aHp → Prop} {a0 a1 : Option Value} : WP E c 261 1 [a0, a1] (st) ah Q = WP E c 261 2 [a0, a1] (.int (0) :: st) ah Q := wp_s i261_1 rfl rfl rfl rfl
theorem i261_2 : insAt 261 2 = some (.putfield 11010, 5) := by decide +kernel
theorem r261_2 {E : aEnv} {c : Nat} {ah : aHp} {st : List Value} {Q : Option Value → aHp → Prop} {a0 a1 : Option Value} {a : Nat} {v : Value} : WP E c 261 2 [a0, a1] (v :: .ref a :: st) ah Q = WPo (oPF (hg E ah a) 11010 v) (fun e => WP E c 261 5 [a0, a1] st (hs E ah a e) Q) := wp_putf i261_2
theorem i261_5 : insAt 261 5 = some (.aload 0, 6) := by decide +kernel
theorem r261_5 {E : aEnv} {c : Nat} {ah : aHp} {st : List Value} {Q : Option Value → aHp → Prop} {a1 : Option Value} {x : Nat} : WP E c 261 5 [some (.ref x), a1] (st) ah Q = WP E c 261 6 [some (.ref x), a1] (.ref x :: st) ah Q := wp_s i261_5 rfl rfl rfl rfl
theorem i261_6 : insAt 261 6 = some (.iconst 0, 7) := by decide +kernel
theorem r261_6 {E : aEnv} {c : Nat} {ah : aHp} {st : List Value} {Q : Option Value → aHp → Prop} {a0 a1 : Option Value} : WP E c 261 6 [a0, a1] (st) ah Q = WP E c 261 7 [a0, a1] (.int (0) :: st) ah Q := wp_s i261_6 rfl rfl rfl rfl
theorem i261_7 : insAt 261 7 = some (.putfield 11000, 10) := by decide +kernel
theorem r261_7 {E : aEnv} {c : Nat} {ah : aHp} {st : List Value} {Q : Option Value → aHp → Prop} {a0 a1 : Option Value} {a : Nat} {v : Value} : WP E c 261 7 [a0, a1] (v :: .ref a :: st) ah Q = WPo (oPF (hg E ah a) 11000 v) (fun e => WP E c 261 10 [a0, a1] st (hs E ah a e) Q) := wp_putf i261_7
theorem i261_10 : insAt 261 10 = some (.iload 1, 11) := by decide +kernel
theorem r261_10 {E : aEnv} {c : Nat} {ah : aHp} {st : List Value} {Q : Option Value → aHp → Prop} {a0 : Option Value} {x : Int32} : WP E c 261 10 [a0, some (.int x)] (st) ah Q = WP E c 261 11 [a0, some (.int x)] (.int x :: st) ah Q := wp_s i261_10 rfl rfl rfl rfl
theorem i261_11 : insAt 261 11 = some (.i2l, 12) := by decide +kernel
theorem r261_11 {E : aEnv} {c : Nat} {ah : aHp} {st : List Value} {Q : Option Value → aHp → Prop} {a0 a1 : Option Value} {x : Int32} : WP E c 261 11 [a0, a1] (.int x :: st) ah Q = WP E c 261 12 [a0, a1] (.long x.toInt64 :: st) ah Q := wp_s i261_11 rfl rfl rfl rfl
theorem i261_12 : insAt 261 12 = some (.jsr_w 0, 13) := by decide +kernel
theorem r261_12 {E : aEnv} {c : Nat} {ah : aHp} {st : List Value} {Q : Option Value → aHp → Prop} {a0 a1 : Option Value} : WP E c 261 12 [a0, a1] (st) ah Q = WP E c 261 13 [a0, a1] (.long (0) :: st) ah Q := wp_s i261_12 rfl rfl rfl rfl
theorem i261_13 : insAt 261 13 = some (.jsr_w 19, 16) := by decide +kernel
theorem r261_13 {E : aEnv} {c : Nat} {ah : aHp} {st : List Value} {Q : Option Value → aHp → Prop} {a0 a1 : Option Value} : WP E c 261 13 [a0, a1] (st) ah Q = WP E c 261 16 [a0, a1] (.long (19) :: st) ah Q := wp_s i261_13 rfl rfl rfl rfl
theorem i261_16 : insAt 261 16 = some (.invokestatic 199, 19) := by decide +kernel
theorem r261_16 {E : aEnv} {c : Nat} {ah ah1 : aHp} {r : Option Value} {st : List Value} {Q : Option Value → aHp → Prop} {a0 a1 : Option Value} {p0 : Int64} {p1 : Int64} {p2 : Int64} (h : EV E c 199 [.long p0, .long p1, .long p2] ah r ah1) (h3 : wds st ≤ 8) : WP E (c + 1) 261 16 [a0, a1] (.long p2 :: .long p1 :: .long p0 :: st) ah Q = WP E (c + 1) 261 19 [a0, a1] (r.toList ++ st) ah1 Q := wp_call (As := [.long p0, .long p1, .long p2]) i261_16 (fun _ => rfl) rfl mr199.1 rfl h3 (by rw [mr199.2.1]; exact Nat.le_of_ble_eq_true rfl) h
theorem i261_19 : insAt 261 19 = some (.ifCond .ne 29, 22) := by decide +kernel
theorem r261_19 {E : aEnv} {c : Nat} {ah : aHp} {st : List Value} {Q : Option Value → aHp → Prop} {a0 a1 : Option Value} {x : Int32} : WP E c 261 19 [a0, a1] (.int x :: st) ah Q = if ¬ x = 0 then WP E c 261 29 [a0, a1] st ah Q else WP E c 261 22 [a0, a1] st ah Q := wp_j i261_19 rfl rfl rfl rfl
theorem i261_22 : insAt 261 22 = some (.aload 0, 23) := by decide +kernel
theorem r261_22 {E : aEnv} {c : Nat} {ah : aHp} {st : List Value} {Q : Option Value → aHp → Prop} {a1 : Option Value} {x : Nat} : WP E c 261 22 [some (.ref x), a1] (st) ah Q = WP E c 261 23 [some (.ref x), a1] (.ref x :: st) ah Q := wp_s i261_22 rfl rfl rfl rfl
theorem i261_23 : insAt 261 23 = some (.iconst 2, 24) := by decide +kernel
theorem r261_23 {E : aEnv} {c : Nat} {ah : aHp} {st : List Value} {Q : Option Value → aHp → Prop} {a0 a1 : Option Value} : WP E c 261 23 [a0, a1] (st) ah Q = WP E c 261 24 [a0, a1] (.int (2) :: st) ah Q := wp_s i261_23 rfl rfl rfl rfl
theorem i261_24 : insAt 261 24 = some (.invokevirtual 197, 27) := by decide +kernel
theorem r261_24 {E : aEnv} {c : Nat} {ah ah1 : aHp} {r : Option Value} {st : List Value} {Q : Option Value → aHp → Prop} {a0 a1 : Option Value} {p0 : Nat} {p1 : Int32} (h : EV E c 197 [.ref p0, .int p1] ah r ah1) (h2 : oCI (hg E ah p0) = 11) (h3 : wds st ≤ 8) : WP E (c + 1) 261 24 [a0, a1] (.int p1 :: .ref p0 :: st) ah Q = WP E (c + 1) 261 27 [a0, a1] (r.toList ++ st) ah1 Q := wp_call (As := [.ref p0, .int p1]) i261_24 (fun _ => rfl) rfl mr197.1 (rcv_1 h2 mr197.2.2 (by decide)) h3 (by rw [mr197.2.1]; exact Nat.le_of_ble_eq_true rfl) h
theorem i261_27 : insAt 261 27 = some (.i2l, 28) := by decide +kernel
theorem r261_27 {E : aEnv} {c : Nat} {ah : aHp} {st : List Value} {Q : Option Value → aHp → Prop} {a0 a1 : Option Value} {x : Int32} : WP E c 261 27 [a0, a1] (.int x :: st) ah Q = WP E c 261 28 [a0, a1] (.long x.toInt64 :: st) ah Q := wp_s i261_27 rfl rfl rfl rfl
theorem i261_28 : insAt 261 28 = some (.lreturn, 29) := by decide +kernel
theorem r261_28 {E : aEnv} {c : Nat} {ah : aHp} {Q : Option Value → aHp → Prop} {a0 a1 : Option Value} {x : Int64} : WP E c 261 28 [a0, a1] ([.long x]) ah Q = Q (some (.long x)) ah := wp_rt i261_28 rfl
theorem i261_29 : insAt 261 29 = some (.aload 0, 30) := by decide +kernel
theorem r261_29 {E : aEnv} {c : Nat} {ah : aHp} {st : List Value} {Q : Option Value → aHp → Prop} {a1 : Option Value} {x : Nat} : WP E c 261 29 [some (.ref x), a1] (st) ah Q = WP E c 261 30 [some (.ref x), a1] (.ref x :: st) ah Q := wp_s i261_29 rfl rfl rfl rfl
theorem i261_30 : insAt 261 30 = some (.getfield 11603, 33) := by decide +kernel
theorem r261_30 {E : aEnv} {c : Nat} {ah : aHp} {st : List Value} {Q : Option Value → aHp → Prop} {a0 a1 : Option Value} {a : Nat} : WP E c 261 30 [a0, a1] (.ref a :: st) ah Q = WPo (oGF (hg E ah a) 11 60) (fun v => WP E c 261 33 [a0, a1] (v :: st) ah Q) := wp_getf i261_30
theorem i261_33 : insAt 261 33 = some (.ifCond .eq 45, 36) := by decide +kernel
theorem r261_33 {E : aEnv} {c : Nat} {ah : aHp} {st : List Value} {Q : Option Value → aHp → Prop} {a0 a1 : Option Value} {x : Int32} : WP E c 261 33 [a0, a1] (.int x :: st) ah Q = if x = 0 then WP E c 261 45 [a0, a1] st ah Q else WP E c 261 36 [a0, a1] st ah Q := wp_j i261_33 rfl rfl rfl rfl
theorem i261_36 : insAt 261 36 = some (.aload 0, 37) := by decide +kernel
theorem r261_36 {E : aEnv} {c : Nat} {ah : aHp} {st : List Value} {Q : Option Value → aHp → Prop} {a1 : Option Value} {x : Nat} : WP E c 261 36 [some (.ref x), a1] (st) ah Q = WP E c 261 37 [some (.ref x), a1] (.ref x :: st) ah Q := wp_s i261_36 rfl rfl rfl rfl
theorem i261_37 : insAt 261 37 = some (.getfield 11582, 40) := by decide +kernel
theorem r261_37 {E : aEnv} {c : Nat} {ah : aHp} {st : List Value} {Q : Option Value → aHp → Prop} {a0 a1 : Option Value} {a : Nat} : WP E c 261 37 [a0, a1] (.ref a :: st) ah Q = WPo (oGF (hg E ah a) 11 58) (fun v => WP E c 261 40 [a0, a1] (v :: st) ah Q) := wp_getf i261_37
theorem i261_40 : insAt 261 40 = some (.iload 1, 41) := by decide +kernel
theorem r261_40 {E : aEnv} {c : Nat} {ah : aHp} {st : List Value} {Q : Option Value → aHp → Prop} {a0 : Option Value} {x : Int32} : WP E c 261 40 [a0, some (.int x)] (st) ah Q = WP E c 261 41 [a0, some (.int x)] (.int x :: st) ah Q := wp_s i261_40 rfl rfl rfl rfl
theorem i261_41 : insAt 261 41 = some (.laload, 42) := by decide +kernel
theorem r261_41 {E : aEnv} {c : Nat} {ah : aHp} {st : List Value} {Q : Option Value → aHp → Prop} {a0 a1 : Option Value} {i : Int32} {a : Nat} : WP E c 261 41 [a0, a1] (.int i :: .ref a :: st) ah Q = WPo (gL E ah (.int i :: .ref a :: st)) (fun s9 => WP E c 261 42 [a0, a1] s9 ah Q) := wp_hr i261_41 rfl rfl rfl rfl rfl rfl rfl rfl
theorem i261_42 : insAt 261 42 = some (.goto 52, 45) := by decide +kernel
theorem r261_42 {E : aEnv} {c : Nat} {ah : aHp} {st : List Value} {Q : Option Value → aHp → Prop} {a0 a1 : Option Value} : WP E c 261 42 [a0, a1] (st) ah Q = WP E c 261 52 [a0, a1] st ah Q := wp_s i261_42 rfl rfl rfl rfl
theorem i261_45 : insAt 261 45 = some (.aload 0, 46) := by decide +kernel
theorem r261_45 {E : aEnv} {c : Nat} {ah : aHp} {st : List Value} {Q : Option Value → aHp → Prop} {a1 : Option Value} {x : Nat} : WP E c 261 45 [some (.ref x), a1] (st) ah Q = WP E c 261 46 [some (.ref x), a1] (.ref x :: st) ah Q := wp_s i261_45 rfl rfl rfl rfl
theorem i261_46 : insAt 261 46 = some (.iconst 8, 48) := by decide +kernel
theorem r261_46 {E : aEnv} {c : Nat} {ah : aHp} {st : List Value} {Q : Option Value → aHp → Prop} {a0 a1 : Option Value} : WP E c 261 46 [a0, a1] (st) ah Q = WP E c 261 48 [a0, a1] (.int (8) :: st) ah Q := wp_s i261_46 rfl rfl rfl rfl
theorem i261_48 : insAt 261 48 = some (.invokevirtual 197, 51) := by decide +kernel
theorem r261_48 {E : aEnv} {c : Nat} {ah ah1 : aHp} {r : Option Value} {st : List Value} {Q : Option Value → aHp → Prop} {a0 a1 : Option Value} {p0 : Nat} {p1 : Int32} (h : EV E c 197 [.ref p0, .int p1] ah r ah1) (h2 : oCI (hg E ah p0) = 11) (h3 : wds st ≤ 8) : WP E (c + 1) 261 48 [a0, a1] (.int p1 :: .ref p0 :: st) ah Q = WP E (c + 1) 261 51 [a0, a1] (r.toList ++ st) ah1 Q := wp_call (As := [.ref p0, .int p1]) i261_48 (fun _ => rfl) rfl mr197.1 (rcv_1 h2 mr197.2.2 (by decide)) h3 (by rw [mr197.2.1]; exact Nat.le_of_ble_eq_true rfl) h
theorem i261_51 : insAt 261 51 = some (.i2l, 52) := by decide +kernel
theorem r261_51 {E : aEnv} {c : Nat} {ah : aHp} {st : List Value} {Q : Option Value → aHp → Prop} {a0 a1 : Option Value} {x : Int32} : WP E c 261 51 [a0, a1] (.int x :: st) ah Q = WP E c 261 52 [a0, a1] (.long x.toInt64 :: st) ah Q := wp_s i261_51 rfl rfl rfl rfl
theorem i261_52 : insAt 261 52 = some (.lreturn, 53) := by decide +kernel
theorem r261_52 {E : aEnv} {c : Nat} {ah : aHp} {Q : Option Value → aHp → Prop} {a0 a1 : Option Value} {x : Int64} : WP E c 261 52 [a0, a1] ([.long x]) ah Q = Q (some (.long x)) ah := wp_rt i261_52 rfl
theorem e262 {E : aEnv} {c : Nat} {ah ahF : aHp} {r : Option Value} {p0 : Nat} {p1 : Int64} (h : WP E c 262 0 [some (.ref p0), some (.long p1), none, none, none, none, none, none, none, none] [] ah (fun r1 x1 => r1 = r ∧ x1 = ahF)) : EV E c 262 [.ref p0, .long p1] ah r ahF := EV.of (by rw [mr262.2.1]; exact h)
theorem i262_0 : insAt 262 0 = some (.lload 1, 1) := by decide +kernel
theorem r262_0 {E : aEnv} {c : Nat} {ah : aHp} {st : List Value} {Q : Option Value → aHp → Prop} {a0 a2 a3 a4 a5 a6 a7 a8 a9 : Option Value} {x : Int64} : WP E c 262 0 [a0, some (.long x), a2, a3, a4, a5, a6, a7, a8, a9] (st) ah Q = WP E c 262 1 [a0, some (.long x), a2, a3, a4, a5, a6, a7, a8, a9] (.long x :: st) ah Q := wp_s i262_0 rfl rfl rfl rfl
theorem i262_1 : insAt 262 1 = some (.lstore 3, 2) := by decide +kernel
theorem r262_1 {E : aEnv} {c : Nat} {ah : aHp} {st : List Value} {Q : Option Value → aHp → Prop} {a0 a1 a2 a3 a4 a5 a6 a7 a8 a9 : Option Value} {x : Int64} : WP E c 262 1 [a0, a1, a2, a3, a4, a5, a6, a7, a8, a9] (.long x :: st) ah Q = WP E c 262 2 [a0, a1, kil a2, some (.long x), none, a5, a6, a7, a8, a9] (st) ah Q := wp_s i262_1 rfl rfl rfl rfl
theorem i262_2 : insAt 262 2 = some (.iconst 0, 3) := by decide +kernel
theorem r262_2 {E : aEnv} {c : Nat} {ah : aHp} {st : List Value} {Q : Option Value → aHp → Prop} {a0 a1 a2 a3 a4 a5 a6 a7 a8 a9 : Option Value} : WP E c 262 2 [a0, a1, a2, a3, a4, a5, a6, a7, a8, a9] (st) ah Q = WP E c 262 3 [a0, a1, a2, a3, a4, a5, a6, a7, a8, a9] (.int (0) :: st) ah Q := wp_s i262_2 rfl rfl rfl rfl
theorem i262_3 : insAt 262 3 = some (.istore 5, 5) := by decide +kernel
theorem r262_3 {E : aEnv} {c : Nat} {ah : aHp} {st : List Value} {Q : Option Value → aHp → Prop} {a0 a1 a2 a3 a4 a5 a6 a7 a8 a9 : Option Value} {x : Int32} : WP E c 262 3 [a0, a1, a2, a3, a4, a5, a6, a7, a8, a9] (.int x :: st) ah Q = WP E c 262 5 [a0, a1, a2, a3, kil a4, some (.int x), a6, a7, a8, a9] (st) ah Q := wp_s i262_3 rfl rfl rfl rfl
theorem i262_5 : insAt 262 5 = some (.iload 5, 7) := by decide +kernel
theorem r262_5 {E : aEnv} {c : Nat} {ah : aHp} {st : List Value} {Q : Option Value → aHp → Prop} {a0 a1 a2 a3 a4 a6 a7 a8 a9 : Option Value} {x : Int32} : WP E c 262 5 [a0, a1, a2, a3, a4, some (.int x), a6, a7, a8, a9] (st) ah Q = WP E c 262 7 [a0, a1, a2, a3, a4, some (.int x), a6, a7, a8, a9] (.int x :: st) ah Q := wp_s i262_5 rfl rfl rfl rfl
theorem i262_7 : insAt 262 7 = some (.iconst 14, 9) := by decide +kernel
theorem r262_7 {E : aEnv} {c : Nat} {ah : aHp} {st : List Value} {Q : Option Value → aHp → Prop} {a0 a1 a2 a3 a4 a5 a6 a7 a8 a9 : Option Value} : WP E c 262 7 [a0, a1, a2, a3, a4, a5, a6, a7, a8, a9] (st) ah Q = WP E c 262 9 [a0, a1, a2, a3, a4, a5, a6, a7, a8, a9] (.int (14) :: st) ah Q := wp_s i262_7 rfl rfl rfl rfl
theorem i262_9 : insAt 262 9 = some (.if_icmp .ge 37, 12) := by decide +kernel
theorem r262_9 {E : aEnv} {c : Nat} {ah : aHp} {st : List Value} {Q : Option Value → aHp → Prop} {a0 a1 a2 a3 a4 a5 a6 a7 a8 a9 : Option Value} {x y : Int32} : WP E c 262 9 [a0, a1, a2, a3, a4, a5, a6, a7, a8, a9] (.int y :: .int x :: st) ah Q = if y ≤ x then WP E c 262 37 [a0, a1, a2, a3, a4, a5, a6, a7, a8, a9] st ah Q else WP E c 262 12 [a0, a1, a2, a3, a4, a5, a6, a7, a8, a9] st ah Q := wp_j i262_9 rfl rfl rfl rfl
theorem i262_12 : insAt 262 12 = some (.aload 0, 13) := by decide +kernel
theorem r262_12 {E : aEnv} {c : Nat} {ah : aHp} {st : List Value} {Q : Option Value → aHp → Prop} {a1 a2 a3 a4 a5 a6 a7 a8 a9 : Option Value} {x : Nat} : WP E c 262 12 [some (.ref x), a1, a2, a3, a4, a5, a6, a7, a8, a9] (st) ah Q = WP E c 262 13 [some (.ref x), a1, a2, a3, a4, a5, a6, a7, a8, a9] (.ref x :: st) ah Q := wp_s i262_12 rfl rfl rfl rfl
theorem i262_13 : insAt 262 13 = some (.getfield 11692, 16) := by decide +kernel
theorem r262_13 {E : aEnv} {c : Nat} {ah : aHp} {st : List Value} {Q : Option Value → aHp → Prop} {a0 a1 a2 a3 a4 a5 a6 a7 a8 a9 : Option Value} {a : Nat} : WP E c 262 13 [a0, a1, a2, a3, a4, a5, a6, a7, a8, a9] (.ref a :: st) ah Q = WPo (oGF (hg E ah a) 11 69) (fun v => WP E c 262 16 [a0, a1, a2, a3, a4, a5, a6, a7, a8, a9] (v :: st) ah Q) := wp_getf i262_13
theorem i262_16 : insAt 262 16 = some (.iload 5, 18) := by decide +kernel
theorem r262_16 {E : aEnv} {c : Nat} {ah : aHp} {st : List Value} {Q : Option Value → aHp → Prop} {a0 a1 a2 a3 a4 a6 a7 a8 a9 : Option Value} {x : Int32} : WP E c 262 16 [a0, a1, a2, a3, a4, some (.int x), a6, a7, a8, a9] (st) ah Q = WP E c 262 18 [a0, a1, a2, a3, a4, some (.int x), a6, a7, a8, a9] (.int x :: st) ah Q := wp_s i262_16 rfl rfl rfl rfl
theorem i262_18 : insAt 262 18 = some (.lload 3, 19) := by decide +kernel
theorem r262_18 {E : aEnv} {c : Nat} {ah : aHp} {st : List Value} {Q : Option Value → aHp → Prop} {a0 a1 a2 a4 a5 a6 a7 a8 a9 : Option Value} {x : Int64} : WP E c 262 18 [a0, a1, a2, some (.long x), a4, a5, a6, a7, a8, a9] (st) ah Q = WP E c 262 19 [a0, a1, a2, some (.long x), a4, a5, a6, a7, a8, a9] (.long x :: st) ah Q := wp_s i262_18 rfl rfl rfl rfl
theorem i262_19 : insAt 262 19 = some (.jsr_w 10, 22) := by decide +kernel
theorem r262_19 {E : aEnv} {c : Nat} {ah : aHp} {st : List Value} {Q : Option Value → aHp → Prop} {a0 a1 a2 a3 a4 a5 a6 a7 a8 a9 : Option Value} : WP E c 262 19 [a0, a1, a2, a3, a4, a5, a6, a7, a8, a9] (st) ah Q = WP E c 262 22 [a0, a1, a2, a3, a4, a5, a6, a7, a8, a9] (.long (10) :: st) ah Q := wp_s i262_19 rfl rfl rfl rfl
theorem i262_22 : insAt 262 22 = some (.lrem, 23) := by decide +kernel
theorem r262_22 {E : aEnv} {c : Nat} {ah : aHp} {st : List Value} {Q : Option Value → aHp → Prop} {a0 a1 a2 a3 a4 a5 a6 a7 a8 a9 : Option Value} {x y : Int64} (hy : ¬ y = 0) : WP E c 262 22 [a0, a1, a2, a3, a4, a5, a6, a7, a8, a9] (.long y :: .long x :: st) ah Q = WP E c 262 23 [a0, a1, a2, a3, a4, a5, a6, a7, a8, a9] (.long (x - x / y * y) :: st) ah Q := wp_st (z := (23, [a0, a1, a2, a3, a4, a5, a6, a7, a8, a9], .long (x - x / y * y) :: st, ah)) i262_22 rfl rfl rfl (by simp [st1, skA, tD, hy])
theorem i262_23 : insAt 262 23 = some (.l2i, 24) := by decide +kernel
theorem r262_23 {E : aEnv} {c : Nat} {ah : aHp} {st : List Value} {Q : Option Value → aHp → Prop} {a0 a1 a2 a3 a4 a5 a6 a7 a8 a9 : Option Value} {x : Int64} : WP E c 262 23 [a0, a1, a2, a3, a4, a5, a6, a7, a8, a9] (.long x :: st) ah Q = WP E c 262 24 [a0, a1, a2, a3, a4, a5, a6, a7, a8, a9] (.int x.toInt32 :: st) ah Q := wp_s i262_23 rfl rfl rfl rfl
theorem i262_24 : insAt 262 24 = some (.iastore, 25) := by decide +kernel
theorem r262_24 {E : aEnv} {c : Nat} {ah : aHp} {st : List Value} {Q : Option Value → aHp → Prop} {a0 a1 a2 a3 a4 a5 a6 a7 a8 a9 : Option Value} {x : Int32} {i : Int32} {a : Nat} : WP E c 262 24 [a0, a1, a2, a3, a4, a5, a6, a7, a8, a9] (.int x :: .int i :: .ref a :: st) ah Q = WPo (pI E ah (.int x :: .int i :: .ref a :: st)) (fun q9 => WP E c 262 25 [a0, a1, a2, a3, a4, a5, a6, a7, a8, a9] q9.1 q9.2 Q) := wp_hw i262_24 rfl rfl rfl rfl rfl rfl rfl rfl
theorem i262_25 : insAt 262 25 = some (.lload 3, 26) := by decide +kernel
theorem r262_25 {E : aEnv} {c : Nat} {ah : aHp} {st : List Value} {Q : Option Value → aHp → Prop} {a0 a1 a2 a4 a5 a6 a7 a8 a9 : Option Value} {x : Int64} : WP E c 262 25 [a0, a1, a2, some (.long x), a4, a5, a6, a7, a8, a9] (st) ah Q = WP E c 262 26 [a0, a1, a2, some (.long x), a4, a5, a6, a7, a8, a9] (.long x :: st) ah Q := wp_s i262_25 rfl rfl rfl rfl
theorem i262_26 : insAt 262 26 = some (.jsr_w 10, 29) := by decide +kernel
theorem r262_26 {E : aEnv} {c : Nat} {ah : aHp} {st : List Value} {Q : Option Value → aHp → Prop} {a0 a1 a2 a3 a4 a5 a6 a7 a8 a9 : Option Value} : WP E c 262 26 [a0, a1, a2, a3, a4, a5, a6, a7, a8, a9] (st) ah Q = WP E c 262 29 [a0, a1, a2, a3, a4, a5, a6, a7, a8, a9] (.long (10) :: st) ah Q := wp_s i262_26 rfl rfl rfl rfl
theorem i262_29 : insAt 262 29 = some (.ldiv, 30) := by decide +kernel
theorem r262_29 {E : aEnv} {c : Nat} {ah : aHp} {st : List Value} {Q : Option Value → aHp → Prop} {a0 a1 a2 a3 a4 a5 a6 a7 a8 a9 : Option Value} {x y : Int64} (hy : ¬ y = 0) : WP E c 262 29 [a0, a1, a2, a3, a4, a5, a6, a7, a8, a9] (.long y :: .long x :: st) ah Q = WP E c 262 30 [a0, a1, a2, a3, a4, a5, a6, a7, a8, a9] (.long (x / y) :: st) ah Q := wp_st (z := (30, [a0, a1, a2, a3, a4, a5, a6, a7, a8, a9], .long (x / y) :: st, ah)) i262_29 rfl rfl rfl (by simp [st1, skA, tD, hy])
theorem i262_30 : insAt 262 30 = some (.lstore 3, 31) := by decide +kernel
theorem r262_30 {E : aEnv} {c : Nat} {ah : aHp} {st : List Value} {Q : Option Value → aHp → Prop} {a0 a1 a2 a3 a4 a5 a6 a7 a8 a9 : Option Value} {x : Int64} : WP E c 262 30 [a0, a1, a2, a3, a4, a5, a6, a7, a8, a9] (.long x :: st) ah Q = WP E c 262 31 [a0, a1, kil a2, some (.long x), none, a5, a6, a7, a8, a9] (st) ah Q := wp_s i262_30 rfl rfl rfl rfl
theorem i262_31 : insAt 262 31 = some (.iinc 5 1, 34) := by decide +kernel
theorem r262_31 {E : aEnv} {c : Nat} {ah : aHp} {st : List Value} {Q : Option Value → aHp → Prop} {a0 a1 a2 a3 a4 a6 a7 a8 a9 : Option Value} {x : Int32} : WP E c 262 31 [a0, a1, a2, a3, a4, some (.int x), a6, a7, a8, a9] (st) ah Q = WP E c 262 34 [a0, a1, a2, a3, kil a4, some (.int (x + 1)), a6, a7, a8, a9] (st) ah Q := wp_s i262_31 rfl rfl rfl rfl
theorem i262_34 : insAt 262 34 = some (.goto 5, 37) := by decide +kernel
theorem r262_34 {E : aEnv} {c : Nat} {ah : aHp} {st : List Value} {Q : Option Value → aHp → Prop} {a0 a1 a2 a3 a4 a5 a6 a7 a8 a9 : Option Value} : WP E c 262 34 [a0, a1, a2, a3, a4, a5, a6, a7, a8, a9] (st) ah Q = WP E c 262 5 [a0, a1, a2, a3, a4, a5, a6, a7, a8, a9] st ah Q := wp_s i262_34 rfl rfl rfl rfl
theorem i262_37 : insAt 262 37 = some (.aload 0, 38) := by decide +kernel
theorem r262_37 {E : aEnv} {c : Nat} {ah : aHp} {st : List Value} {Q : Option Value → aHp → Prop} {a1 a2 a3 a4 a5 a6 a7 a8 a9 : Option Value} {x : Nat} : WP E c 262 37 [some (.ref x), a1, a2, a3, a4, a5, a6, a7, a8, a9] (st) ah Q = WP E c 262 38 [some (.ref x), a1, a2, a3, a4, a5, a6, a7, a8, a9] (.ref x :: st) ah Q := wp_s i262_37 rfl rfl rfl rfl
theorem i262_38 : insAt 262 38 = some (.getfield 11672, 41) := by decide +kernel
theorem r262_38 {E : aEnv} {c : Nat} {ah : aHp} {st : List Value} {Q : Option Value → aHp → Prop} {a0 a1 a2 a3 a4 a5 a6 a7 a8 a9 : Option Value} {a : Nat} : WP E c 262 38 [a0, a1, a2, a3, a4, a5, a6, a7, a8, a9] (.ref a :: st) ah Q = WPo (oGF (hg E ah a) 11 67) (fun v => WP E c 262 41 [a0, a1, a2, a3, a4, a5, a6, a7, a8, a9] (v :: st) ah Q) := wp_getf i262_38
theorem i262_41 : insAt 262 41 = some (.iconst 26, 43) := by decide +kernel
theorem r262_41 {E : aEnv} {c : Nat} {ah : aHp} {st : List Value} {Q : Option Value → aHp → Prop} {a0 a1 a2 a3 a4 a5 a6 a7 a8 a9 : Option Value} : WP E c 262 41 [a0, a1, a2, a3, a4, a5, a6, a7, a8, a9] (st) ah Q = WP E c 262 43 [a0, a1, a2, a3, a4, a5, a6, a7, a8, a9] (.int (26) :: st) ah Q := wp_s i262_41 rfl rfl rfl rfl
theorem i262_43 : insAt 262 43 = some (.iconst 0, 44) := by decide +kernel
theorem r262_43 {E : aEnv} {c : Nat} {ah : aHp} {st : List Value} {Q : Option Value → aHp → Prop} {a0 a1 a2 a3 a4 a5 a6 a7 a8 a9 : Option Value} : WP E c 262 43 [a0, a1, a2, a3, a4, a5, a6, a7, a8, a9] (st) ah Q = WP E c 262 44 [a0, a1, a2, a3, a4, a5, a6, a7, a8, a9] (.int (0) :: st) ah Q := wp_s i262_43 rfl rfl rfl rfl
theorem i262_44 : insAt 262 44 = some (.iastore, 45) := by decide +kernel
theorem r262_44 {E : aEnv} {c : Nat} {ah : aHp} {st : List Value} {Q : Option Value → aHp → Prop} {a0 a1 a2 a3 a4 a5 a6 a7 a8 a9 : Option Value} {x : Int32} {i : Int32} {a : Nat} : WP E c 262 44 [a0, a1, a2, a3, a4, a5, a6, a7, a8, a9] (.int x :: .int i :: .ref a :: st) ah Q = WPo (pI E ah (.int x :: .int i :: .ref a :: st)) (fun q9 => WP E c 262 45 [a0, a1, a2, a3, a4, a5, a6, a7, a8, a9] q9.1 q9.2 Q) := wp_hw i262_44 rfl rfl rfl rfl rfl rfl rfl rfl
theorem i262_45 : insAt 262 45 = some (.aload 0, 46) := by decide +kernel
theorem r262_45 {E : aEnv} {c : Nat} {ah : aHp} {st : List Value} {Q : Option Value → aHp → Prop} {a1 a2 a3 a4 a5 a6 a7 a8 a9 : Option Value} {x : Nat} : WP E c 262 45 [some (.ref x), a1, a2, a3, a4, a5, a6, a7, a8, a9] (st) ah Q = WP E c 262 46 [some (.ref x), a1, a2, a3, a4, a5, a6, a7, a8, a9] (.ref x :: st) ah Q := wp_s i262_45 rfl rfl rfl rfl
theorem i262_46 : insAt 262 46 = some (.getfield 11672, 49) := by decide +kernel
theorem r262_46 {E : aEnv} {c : Nat} {ah : aHp} {st : List Value} {Q : Option Value → aHp → Prop} {a0 a1 a2 a3 a4 a5 a6 a7 a8 a9 : Option Value} {a : Nat} : WP E c 262 46 [a0, a1, a2, a3, a4, a5, a6, a7, a8, a9] (.ref a :: st) ah Q = WPo (oGF (hg E ah a) 11 67) (fun v => WP E c 262 49 [a0, a1, a2, a3, a4, a5, a6, a7, a8, a9] (v :: st) ah Q) := wp_getf i262_46
theorem i262_49 : insAt 262 49 = some (.iconst 27, 51) := by decide +kernel
theorem r262_49 {E : aEnv} {c : Nat} {ah : aHp} {st : List Value} {Q : Option Value → aHp → Prop} {a0 a1 a2 a3 a4 a5 a6 a7 a8 a9 : Option Value} : WP E c 262 49 [a0, a1, a2, a3, a4, a5, a6, a7, a8, a9] (st) ah Q = WP E c 262 51 [a0, a1, a2, a3, a4, a5, a6, a7, a8, a9] (.int (27) :: st) ah Q := wp_s i262_49 rfl rfl rfl rfl
theorem i262_51 : insAt 262 51 = some (.iconst 1000, 54) := by decide +kernel
theorem r262_51 {E : aEnv} {c : Nat} {ah : aHp} {st : List Value} {Q : Option Value → aHp → Prop} {a0 a1 a2 a3 a4 a5 a6 a7 a8 a9 : Option Value} : WP E c 262 51 [a0, a1, a2, a3, a4, a5, a6, a7, a8, a9] (st) ah Q = WP E c 262 54 [a0, a1, a2, a3, a4, a5, a6, a7, a8, a9] (.int (1000) :: st) ah Q := wp_s i262_51 rfl rfl rfl rfl
theorem i262_54 : insAt 262 54 = some (.iastore, 55) := by decide +kernel
theorem r262_54 {E : aEnv} {c : Nat} {ah : aHp} {st : List Value} {Q : Option Value → aHp → Prop} {a0 a1 a2 a3 a4 a5 a6 a7 a8 a9 : Option Value} {x : Int32} {i : Int32} {a : Nat} : WP E c 262 54 [a0, a1, a2, a3, a4, a5, a6, a7, a8, a9] (.int x :: .int i :: .ref a :: st) ah Q = WPo (pI E ah (.int x :: .int i :: .ref a :: st)) (fun q9 => WP E c 262 55 [a0, a1, a2, a3, a4, a5, a6, a7, a8, a9] q9.1 q9.2 Q) := wp_hw i262_54 rfl rfl rfl rfl rfl rfl rfl rfl
theorem i262_55 : insAt 262 55 = some (.iconst 12, 57) := by decide +kernel
theorem r262_55 {E : aEnv} {c : Nat} {ah : aHp} {st : List Value} {Q : Option Value → aHp → Prop} {a0 a1 a2 a3 a4 a5 a6 a7 a8 a9 : Option Value} : WP E c 262 55 [a0, a1, a2, a3, a4, a5, a6, a7, a8, a9] (st) ah Q = WP E c 262 57 [a0, a1, a2, a3, a4, a5, a6, a7, a8, a9] (.int (12) :: st) ah Q := wp_s i262_55 rfl rfl rfl rfl
theorem i262_57 : insAt 262 57 = some (.istore 5, 59) := by decide +kernel
theorem r262_57 {E : aEnv} {c : Nat} {ah : aHp} {st : List Value} {Q : Option Value → aHp → Prop} {a0 a1 a2 a3 a4 a5 a6 a7 a8 a9 : Option Value} {x : Int32} : WP E c 262 57 [a0, a1, a2, a3, a4, a5, a6, a7, a8, a9] (.int x :: st) ah Q = WP E c 262 59 [a0, a1, a2, a3, kil a4, some (.int x), a6, a7, a8, a9] (st) ah Q := wp_s i262_57 rfl rfl rfl rfl
theorem i262_59 : insAt 262 59 = some (.iload 5, 61) := by decide +kernel
theorem r262_59 {E : aEnv} {c : Nat} {ah : aHp} {st : List Value} {Q : Option Value → aHp → Prop} {a0 a1 a2 a3 a4 a6 a7 a8 a9 : Option Value} {x : Int32} : WP E c 262 59 [a0, a1, a2, a3, a4, some (.int x), a6, a7, a8, a9] (st) ah Q = WP E c 262 61 [a0, a1, a2, a3, a4, some (.int x), a6, a7, a8, a9] (.int x :: st) ah Q := wp_s i262_59 rfl rfl rfl rfl
theorem i262_61 : insAt 262 61 = some (.ifCond .lt 176, 64) := by decide +kernel
theorem r262_61 {E : aEnv} {c : Nat} {ah : aHp} {st : List Value} {Q : Option Value → aHp → Prop} {a0 a1 a2 a3 a4 a5 a6 a7 a8 a9 : Option Value} {x : Int32} : WP E c 262 61 [a0, a1, a2, a3, a4, a5, a6, a7, a8, a9] (.int x :: st) ah Q = if x < 0 then WP E c 262 176 [a0, a1, a2, a3, a4, a5, a6, a7, a8, a9] st ah Q else WP E c 262 64 [a0, a1, a2, a3, a4, a5, a6, a7, a8, a9] st ah Q := wp_j i262_61 rfl rfl rfl rfl
theorem i262_64 : insAt 262 64 = some (.iconst 0, 65) := by decide +kernel
theorem r262_64 {E : aEnv} {c : Nat} {ah : aHp} {st : List Value} {Q : Option Value → aHp → Prop} {a0 a1 a2 a3 a4 a5 a6 a7 a8 a9 : Option Value} : WP E c 262 64 [a0, a1, a2, a3, a4, a5, a6, a7, a8, a9] (st) ah Q = WP E c 262 65 [a0, a1, a2, a3, a4, a5, a6, a7, a8, a9] (.int (0) :: st) ah Q := wp_s i262_64 rfl rfl rfl rfl
theorem i262_65 : insAt 262 65 = some (.istore 6, 67) := by decide +kernel
theorem r262_65 {E : aEnv} {c : Nat} {ah : aHp} {st : List Value} {Q : Option Value → aHp → Prop} {a0 a1 a2 a3 a4 a5 a6 a7 a8 a9 : Option Value} {x : Int32} : WP E c 262 65 [a0, a1, a2, a3, a4, a5, a6, a7, a8, a9] (.int x :: st) ah Q = WP E c 262 67 [a0, a1, a2, a3, a4, kil a5, some (.int x), a7, a8, a9] (st) ah Q := wp_s i262_65 rfl rfl rfl rfl
theorem i262_67 : insAt 262 67 = some (.iload 6, 69) := by decide +kernel
theorem r262_67 {E : aEnv} {c : Nat} {ah : aHp} {st : List Value} {Q : Option Value → aHp → Prop} {a0 a1 a2 a3 a4 a5 a7 a8 a9 : Option Value} {x : Int32} : WP E c 262 67 [a0, a1, a2, a3, a4, a5, some (.int x), a7, a8, a9] (st) ah Q = WP E c 262 69 [a0, a1, a2, a3, a4, a5, some (.int x), a7, a8, a9] (.int x :: st) ah Q := wp_s i262_67 rfl rfl rfl rfl
theorem i262_69 : insAt 262 69 = some (.iconst 2, 70) := by decide +kernel
theorem r262_69 {E : aEnv} {c : Nat} {ah : aHp} {st : List Value} {Q : Option Value → aHp → Prop} {a0 a1 a2 a3 a4 a5 a6 a7 a8 a9 : Option Value} : WP E c 262 69 [a0, a1, a2, a3, a4, a5, a6, a7, a8, a9] (st) ah Q = WP E c 262 70 [a0, a1, a2, a3, a4, a5, a6, a7, a8, a9] (.int (2) :: st) ah Q := wp_s i262_69 rfl rfl rfl rfl
theorem i262_70 : insAt 262 70 = some (.if_icmp .ge 170, 73) := by decide +kernel
theorem r262_70 {E : aEnv} {c : Nat} {ah : aHp} {st : List Value} {Q : Option Value → aHp → Prop} {a0 a1 a2 a3 a4 a5 a6 a7 a8 a9 : Option Value} {x y : Int32} : WP E c 262 70 [a0, a1, a2, a3, a4, a5, a6, a7, a8, a9] (.int y :: .int x :: st) ah Q = if y ≤ x then WP E c 262 170 [a0, a1, a2, a3, a4, a5, a6, a7, a8, a9] st ah Q else WP E c 262 73 [a0, a1, a2, a3, a4, a5, a6, a7, a8, a9] st ah Q := wp_j i262_70 rfl rfl rfl rfl
theorem i262_73 : insAt 262 73 = some (.aload 0, 74) := by decide +kernel
theorem r262_73 {E : aEnv} {c : Nat} {ah : aHp} {st : List Value} {Q : Option Value → aHp → Prop} {a1 a2 a3 a4 a5 a6 a7 a8 a9 : Option Value} {x : Nat} : WP E c 262 73 [some (.ref x), a1, a2, a3, a4, a5, a6, a7, a8, a9] (st) ah Q = WP E c 262 74 [some (.ref x), a1, a2, a3, a4, a5, a6, a7, a8, a9] (.ref x :: st) ah Q := wp_s i262_73 rfl rfl rfl rfl
theorem i262_74 : insAt 262 74 = some (.getfield 11692, 77) := by decide +kernel
theorem r262_74 {E : aEnv} {c : Nat} {ah : aHp} {st : List Value} {Q : Option Value → aHp → Prop} {a0 a1 a2 a3 a4 a5 a6 a7 a8 a9 : Option Value} {a : Nat} : WP E c 262 74 [a0, a1, a2, a3, a4, a5, a6, a7, a8, a9] (.ref a :: st) ah Q = WPo (oGF (hg E ah a) 11 69) (fun v => WP E c 262 77 [a0, a1, a2, a3, a4, a5, a6, a7, a8, a9] (v :: st) ah Q) := wp_getf i262_74
theorem i262_77 : insAt 262 77 = some (.iload 5, 79) := by decide +kernel
theorem r262_77 {E : aEnv} {c : Nat} {ah : aHp} {st : List Value} {Q : Option Value → aHp → Prop} {a0 a1 a2 a3 a4 a6 a7 a8 a9 : Option Value} {x : Int32} : WP E c 262 77 [a0, a1, a2, a3, a4, some (.int x), a6, a7, a8, a9] (st) ah Q = WP E c 262 79 [a0, a1, a2, a3, a4, some (.int x), a6, a7, a8, a9] (.int x :: st) ah Q := wp_s i262_77 rfl rfl rfl rfl
theorem i262_79 : insAt 262 79 = some (.iaload, 80) := by decide +kernel
theorem r262_79 {E : aEnv} {c : Nat} {ah : aHp} {st : List Value} {Q : Option Value → aHp → Prop} {a0 a1 a2 a3 a4 a5 a6 a7 a8 a9 : Option Value} {i : Int32} {a : Nat} : WP E c 262 79 [a0, a1, a2, a3, a4, a5, a6, a7, a8, a9] (.int i :: .ref a :: st) ah Q = WPo (gI E ah (.int i :: .ref a :: st)) (fun s9 => WP E c 262 80 [a0, a1, a2, a3, a4, a5, a6, a7, a8, a9] s9 ah Q) := wp_hr i262_79 rfl rfl rfl rfl rfl rfl rfl rfl
theorem i262_80 : insAt 262 80 = some (.iload 6, 82) := by decide +kernel
theorem r262_80 {E : aEnv} {c : Nat} {ah : aHp} {st : List Value} {Q : Option Value → aHp → Prop} {a0 a1 a2 a3 a4 a5 a7 a8 a9 : Option Value} {x : Int32} : WP E c 262 80 [a0, a1, a2, a3, a4, a5, some (.int x), a7, a8, a9] (st) ah Q = WP E c 262 82 [a0, a1, a2, a3, a4, a5, some (.int x), a7, a8, a9] (.int x :: st) ah Q := wp_s i262_80 rfl rfl rfl rfl
theorem i262_82 : insAt 262 82 = some (.iadd, 83) := by decide +kernel
theorem r262_82 {E : aEnv} {c : Nat} {ah : aHp} {st : List Value} {Q : Option Value → aHp → Prop} {a0 a1 a2 a3 a4 a5 a6 a7 a8 a9 : Option Value} {x y : Int32} : WP E c 262 82 [a0, a1, a2, a3, a4, a5, a6, a7, a8, a9] (.int y :: .int x :: st) ah Q = WP E c 262 83 [a0, a1, a2, a3, a4, a5, a6, a7, a8, a9] (.int (x + y) :: st) ah Q := wp_s i262_82 rfl rfl rfl rfl
theorem i262_83 : insAt 262 83 = some (.istore 7, 85) := by decide +kernel
theorem r262_83 {E : aEnv} {c : Nat} {ah : aHp} {st : List Value} {Q : Option Value → aHp → Prop} {a0 a1 a2 a3 a4 a5 a6 a7 a8 a9 : Option Value} {x : Int32} : WP E c 262 83 [a0, a1, a2, a3, a4, a5, a6, a7, a8, a9] (.int x :: st) ah Q = WP E c 262 85 [a0, a1, a2, a3, a4, a5, kil a6, some (.int x), a8, a9] (st) ah Q := wp_s i262_83 rfl rfl rfl rfl
theorem i262_85 : insAt 262 85 = some (.iload 7, 87) := by decide +kernel
theorem r262_85 {E : aEnv} {c : Nat} {ah : aHp} {st : List Value} {Q : Option Value → aHp → Prop} {a0 a1 a2 a3 a4 a5 a6 a8 a9 : Option Value} {x : Int32} : WP E c 262 85 [a0, a1, a2, a3, a4, a5, a6, some (.int x), a8, a9] (st) ah Q = WP E c 262 87 [a0, a1, a2, a3, a4, a5, a6, some (.int x), a8, a9] (.int x :: st) ah Q := wp_s i262_85 rfl rfl rfl rfl
theorem i262_87 : insAt 262 87 = some (.iconst 9, 89) := by decide +kernel
theorem r262_87 {E : aEnv} {c : Nat} {ah : aHp} {st : List Value} {Q : Option Value → aHp → Prop} {a0 a1 a2 a3 a4 a5 a6 a7 a8 a9 : Option Value} : WP E c 262 87 [a0, a1, a2, a3, a4, a5, a6, a7, a8, a9] (st) ah Q = WP E c 262 89 [a0, a1, a2, a3, a4, a5, a6, a7, a8, a9] (.int (9) :: st) ah Q := wp_s i262_87 rfl rfl rfl rfl
theorem i262_89 : insAt 262 89 = some (.if_icmp .gt 109, 92) := by decide +kernel
theorem r262_89 {E : aEnv} {c : Nat} {ah : aHp} {st : List Value} {Q : Option Value → aHp → Prop} {a0 a1 a2 a3 a4 a5 a6 a7 a8 a9 : Option Value} {x y : Int32} : WP E c 262 89 [a0, a1, a2, a3, a4, a5, a6, a7, a8, a9] (.int y :: .int x :: st) ah Q = if y < x then WP E c 262 109 [a0, a1, a2, a3, a4, a5, a6, a7, a8, a9] st ah Q else WP E c 262 92 [a0, a1, a2, a3, a4, a5, a6, a7, a8, a9] st ah Q := wp_j i262_89 rfl rfl rfl rfl
theorem i262_92 : insAt 262 92 = some (.iload 7, 94) := by decide +kernel
theorem r262_92 {E : aEnv} {c : Nat} {ah : aHp} {st : List Value} {Q : Option Value → aHp → Prop} {a0 a1 a2 a3 a4 a5 a6 a8 a9 : Option Value} {x : Int32} : WP E c 262 92 [a0, a1, a2, a3, a4, a5, a6, some (.int x), a8, a9] (st) ah Q = WP E c 262 94 [a0, a1, a2, a3, a4, a5, a6, some (.int x), a8, a9] (.int x :: st) ah Q := wp_s i262_92 rfl rfl rfl rfl
theorem i262_94 : insAt 262 94 = some (.aload 0, 95) := by decide +kernel
theorem r262_94 {E : aEnv} {c : Nat} {ah : aHp} {st : List Value} {Q : Option Value → aHp → Prop} {a1 a2 a3 a4 a5 a6 a7 a8 a9 : Option Value} {x : Nat} : WP E c 262 94 [some (.ref x), a1, a2, a3, a4, a5, a6, a7, a8, a9] (st) ah Q = WP E c 262 95 [some (.ref x), a1, a2, a3, a4, a5, a6, a7, a8, a9] (.ref x :: st) ah Q := wp_s i262_94 rfl rfl rfl rfl
theorem i262_95 : insAt 262 95 = some (.getfield 11672, 98) := by decide +kernel
theorem r262_95 {E : aEnv} {c : Nat} {ah : aHp} {st : List Value} {Q : Option Value → aHp → Prop} {a0 a1 a2 a3 a4 a5 a6 a7 a8 a9 : Option Value} {a : Nat} : WP E c 262 95 [a0, a1, a2, a3, a4, a5, a6, a7, a8, a9] (.ref a :: st) ah Q = WPo (oGF (hg E ah a) 11 67) (fun v => WP E c 262 98 [a0, a1, a2, a3, a4, a5, a6, a7, a8, a9] (v :: st) ah Q) := wp_getf i262_95
theorem i262_98 : insAt 262 98 = some (.iconst 2, 99) := by decide +kernel
theorem r262_98 {E : aEnv} {c : Nat} {ah : aHp} {st : List Value} {Q : Option Value → aHp → Prop} {a0 a1 a2 a3 a4 a5 a6 a7 a8 a9 : Option Value} : WP E c 262 98 [a0, a1, a2, a3, a4, a5, a6, a7, a8, a9] (st) ah Q = WP E c 262 99 [a0, a1, a2, a3, a4, a5, a6, a7, a8, a9] (.int (2) :: st) ah Q := wp_s i262_98 rfl rfl rfl rfl
theorem i262_99 : insAt 262 99 = some (.iload 5, 101) := by decide +kernel
theorem r262_99 {E : aEnv} {c : Nat} {ah : aHp} {st : List Value} {Q : Option Value → aHp → Prop} {a0 a1 a2 a3 a4 a6 a7 a8 a9 : Option Value} {x : Int32} : WP E c 262 99 [a0, a1, a2, a3, a4, some (.int x), a6, a7, a8, a9] (st) ah Q = WP E c 262 101 [a0, a1, a2, a3, a4, some (.int x), a6, a7, a8, a9] (.int x :: st) ah Q := wp_s i262_99 rfl rfl rfl rfl
theorem i262_101 : insAt 262 101 = some (.imul, 102) := by decide +kernel
theorem r262_101 {E : aEnv} {c : Nat} {ah : aHp} {st : List Value} {Q : Option Value → aHp → Prop} {a0 a1 a2 a3 a4 a5 a6 a7 a8 a9 : Option Value} {x y : Int32} : WP E c 262 101 [a0, a1, a2, a3, a4, a5, a6, a7, a8, a9] (.int y :: .int x :: st) ah Q = WP E c 262 102 [a0, a1, a2, a3, a4, a5, a6, a7, a8, a9] (.int (x * y) :: st) ah Q := wp_s i262_101 rfl rfl rfl rfl
theorem i262_102 : insAt 262 102 = some (.iconst 2, 103) := by decide +kernel
theorem r262_102 {E : aEnv} {c : Nat} {ah : aHp} {st : List Value} {Q : Option Value → aHp → Prop} {a0 a1 a2 a3 a4 a5 a6 a7 a8 a9 : Option Value} : WP E c 262 102 [a0, a1, a2, a3, a4, a5, a6, a7, a8, a9] (st) ah Q = WP E c 262 103 [a0, a1, a2, a3, a4, a5, a6, a7, a8, a9] (.int (2) :: st) ah Q := wp_s i262_102 rfl rfl rfl rfl
theorem i262_103 : insAt 262 103 = some (.iadd, 104) := by decide +kernel
theorem r262_103 {E : aEnv} {c : Nat} {ah : aHp} {st : List Value} {Q : Option Value → aHp → Prop} {a0 a1 a2 a3 a4 a5 a6 a7 a8 a9 : Option Value} {x y : Int32} : WP E c 262 103 [a0, a1, a2, a3, a4, a5, a6, a7, a8, a9] (.int y :: .int x :: st) ah Q = WP E c 262 104 [a0, a1, a2, a3, a4, a5, a6, a7, a8, a9] (.int (x + y) :: st) ah Q := wp_s i262_103 rfl rfl rfl rfl
theorem i262_104 : insAt 262 104 = some (.iaload, 105) := by decide +kernel
theorem r262_104 {E : aEnv} {c : Nat} {ah : aHp} {st : List Value} {Q : Option Value → aHp → Prop} {a0 a1 a2 a3 a4 a5 a6 a7 a8 a9 : Option Value} {i : Int32} {a : Nat} : WP E c 262 104 [a0, a1, a2, a3, a4, a5, a6, a7, a8, a9] (.int i :: .ref a :: st) ah Q = WPo (gI E ah (.int i :: .ref a :: st)) (fun s9 => WP E c 262 105 [a0, a1, a2, a3, a4, a5, a6, a7, a8, a9] s9 ah Q) := wp_hr i262_104 rfl rfl rfl rfl rfl rfl rfl rfl
theorem i262_105 : insAt 262 105 = some (.iadd, 106) := by decide +kernel
theorem r262_105 {E : aEnv} {c : Nat} {ah : aHp} {st : List Value} {Q : Option Value → aHp → Prop} {a0 a1 a2 a3 a4 a5 a6 a7 a8 a9 : Option Value} {x y : Int32} : WP E c 262 105 [a0, a1, a2, a3, a4, a5, a6, a7, a8, a9] (.int y :: .int x :: st) ah Q = WP E c 262 106 [a0, a1, a2, a3, a4, a5, a6, a7, a8, a9] (.int (x + y) :: st) ah Q := wp_s i262_105 rfl rfl rfl rfl
theorem i262_106 : insAt 262 106 = some (.goto 112, 109) := by decide +kernel
theorem r262_106 {E : aEnv} {c : Nat} {ah : aHp} {st : List Value} {Q : Option Value → aHp → Prop} {a0 a1 a2 a3 a4 a5 a6 a7 a8 a9 : Option Value} : WP E c 262 106 [a0, a1, a2, a3, a4, a5, a6, a7, a8, a9] (st) ah Q = WP E c 262 112 [a0, a1, a2, a3, a4, a5, a6, a7, a8, a9] st ah Q := wp_s i262_106 rfl rfl rfl rfl
theorem i262_109 : insAt 262 109 = some (.iconst 1000, 112) := by decide +kernel
theorem r262_109 {E : aEnv} {c : Nat} {ah : aHp} {st : List Value} {Q : Option Value → aHp → Prop} {a0 a1 a2 a3 a4 a5 a6 a7 a8 a9 : Option Value} : WP E c 262 109 [a0, a1, a2, a3, a4, a5, a6, a7, a8, a9] (st) ah Q = WP E c 262 112 [a0, a1, a2, a3, a4, a5, a6, a7, a8, a9] (.int (1000) :: st) ah Q := wp_s i262_109 rfl rfl rfl rfl
theorem i262_112 : insAt 262 112 = some (.istore 8, 114) := by decide +kernel
theorem r262_112 {E : aEnv} {c : Nat} {ah : aHp} {st : List Value} {Q : Option Value → aHp → Prop} {a0 a1 a2 a3 a4 a5 a6 a7 a8 a9 : Option Value} {x : Int32} : WP E c 262 112 [a0, a1, a2, a3, a4, a5, a6, a7, a8, a9] (.int x :: st) ah Q = WP E c 262 114 [a0, a1, a2, a3, a4, a5, a6, kil a7, some (.int x), a9] (st) ah Q := wp_s i262_112 rfl rfl rfl rfl
theorem i262_114 : insAt 262 114 = some (.iload 7, 116) := by decide +kernel
theorem r262_114 {E : aEnv} {c : Nat} {ah : aHp} {st : List Value} {Q : Option Value → aHp → Prop} {a0 a1 a2 a3 a4 a5 a6 a8 a9 : Option Value} {x : Int32} : WP E c 262 114 [a0, a1, a2, a3, a4, a5, a6, some (.int x), a8, a9] (st) ah Q = WP E c 262 116 [a0, a1, a2, a3, a4, a5, a6, some (.int x), a8, a9] (.int x :: st) ah Q := wp_s i262_114 rfl rfl rfl rfl
theorem i262_116 : insAt 262 116 = some (.iconst 1, 117) := by decide +kernel
theorem r262_116 {E : aEnv} {c : Nat} {ah : aHp} {st : List Value} {Q : Option Value → aHp → Prop} {a0 a1 a2 a3 a4 a5 a6 a7 a8 a9 : Option Value} : WP E c 262 116 [a0, a1, a2, a3, a4, a5, a6, a7, a8, a9] (st) ah Q = WP E c 262 117 [a0, a1, a2, a3, a4, a5, a6, a7, a8, a9] (.int (1) :: st) ah Q := wp_s i262_116 rfl rfl rfl rfl
theorem i262_117 : insAt 262 117 = some (.if_icmp .lt 140, 120) := by decide +kernel
theorem r262_117 {E : aEnv} {c : Nat} {ah : aHp} {st : List Value} {Q : Option Value → aHp → Prop} {a0 a1 a2 a3 a4 a5 a6 a7 a8 a9 : Option Value} {x y : Int32} : WP E c 262 117 [a0, a1, a2, a3, a4, a5, a6, a7, a8, a9] (.int y :: .int x :: st) ah Q = if x < y then WP E c 262 140 [a0, a1, a2, a3, a4, a5, a6, a7, a8, a9] st ah Q else WP E c 262 120 [a0, a1, a2, a3, a4, a5, a6, a7, a8, a9] st ah Q := wp_j i262_117 rfl rfl rfl rfl
theorem i262_120 : insAt 262 120 = some (.iconst 10, 122) := by decide +kernel
theorem r262_120 {E : aEnv} {c : Nat} {ah : aHp} {st : List Value} {Q : Option Value → aHp → Prop} {a0 a1 a2 a3 a4 a5 a6 a7 a8 a9 : Option Value} : WP E c 262 120 [a0, a1, a2, a3, a4, a5, a6, a7, a8, a9] (st) ah Q = WP E c 262 122 [a0, a1, a2, a3, a4, a5, a6, a7, a8, a9] (.int (10) :: st) ah Q := wp_s i262_120 rfl rfl rfl rfl
theorem i262_122 : insAt 262 122 = some (.iload 7, 124) := by decide +kernel
theorem r262_122 {E : aEnv} {c : Nat} {ah : aHp} {st : List Value} {Q : Option Value → aHp → Prop} {a0 a1 a2 a3 a4 a5 a6 a8 a9 : Option Value} {x : Int32} : WP E c 262 122 [a0, a1, a2, a3, a4, a5, a6, some (.int x), a8, a9] (st) ah Q = WP E c 262 124 [a0, a1, a2, a3, a4, a5, a6, some (.int x), a8, a9] (.int x :: st) ah Q := wp_s i262_122 rfl rfl rfl rfl
theorem i262_124 : insAt 262 124 = some (.isub, 125) := by decide +kernel
theorem r262_124 {E : aEnv} {c : Nat} {ah : aHp} {st : List Value} {Q : Option Value → aHp → Prop} {a0 a1 a2 a3 a4 a5 a6 a7 a8 a9 : Option Value} {x y : Int32} : WP E c 262 124 [a0, a1, a2, a3, a4, a5, a6, a7, a8, a9] (.int y :: .int x :: st) ah Q = WP E c 262 125 [a0, a1, a2, a3, a4, a5, a6, a7, a8, a9] (.int (x - y) :: st) ah Q := wp_s i262_124 rfl rfl rfl rfl
theorem i262_125 : insAt 262 125 = some (.aload 0, 126) := by decide +kernel
theorem r262_125 {E : aEnv} {c : Nat} {ah : aHp} {st : List Value} {Q : Option Value → aHp → Prop} {a1 a2 a3 a4 a5 a6 a7 a8 a9 : Option Value} {x : Nat} : WP E c 262 125 [some (.ref x), a1, a2, a3, a4, a5, a6, a7, a8, a9] (st) ah Q = WP E c 262 126 [some (.ref x), a1, a2, a3, a4, a5, a6, a7, a8, a9] (.ref x :: st) ah Q := wp_s i262_125 rfl rfl rfl rfl
theorem i262_126 : insAt 262 126 = some (.getfield 11672, 129) := by decide +kernel
theorem r262_126 {E : aEnv} {c : Nat} {ah : aHp} {st : List Value} {Q : Option Value → aHp → Prop} {a0 a1 a2 a3 a4 a5 a6 a7 a8 a9 : Option Value} {a : Nat} : WP E c 262 126 [a0, a1, a2, a3, a4, a5, a6, a7, a8, a9] (.ref a :: st) ah Q = WPo (oGF (hg E ah a) 11 67) (fun v => WP E c 262 129 [a0, a1, a2, a3, a4, a5, a6, a7, a8, a9] (v :: st) ah Q) := wp_getf i262_126
theorem i262_129 : insAt 262 129 = some (.iconst 2, 130) := by decide +kernel
theorem r262_129 {E : aEnv} {c : Nat} {ah : aHp} {st : List Value} {Q : Option Value → aHp → Prop} {a0 a1 a2 a3 a4 a5 a6 a7 a8 a9 : Option Value} : WP E c 262 129 [a0, a1, a2, a3, a4, a5, a6, a7, a8, a9] (st) ah Q = WP E c 262 130 [a0, a1, a2, a3, a4, a5, a6, a7, a8, a9] (.int (2) :: st) ah Q := wp_s i262_129 rfl rfl rfl rfl
theorem i262_130 : insAt 262 130 = some (.iload 5, 132) := by decide +kernel
theorem r262_130 {E : aEnv} {c : Nat} {ah : aHp} {st : List Value} {Q : Option Value → aHp → Prop} {a0 a1 a2 a3 a4 a6 a7 a8 a9 : Option Value} {x : Int32} : WP E c 262 130 [a0, a1, a2, a3, a4, some (.int x), a6, a7, a8, a9] (st) ah Q = WP E c 262 132 [a0, a1, a2, a3, a4, some (.int x), a6, a7, a8, a9] (.int x :: st) ah Q := wp_s i262_130 rfl rfl rfl rfl
theorem i262_132 : insAt 262 132 = some (.imul, 133) := by decide +kernel
theorem r262_132 {E : aEnv} {c : Nat} {ah : aHp} {st : List Value} {Q : Option Value → aHp → Prop} {a0 a1 a2 a3 a4 a5 a6 a7 a8 a9 : Option Value} {x y : Int32} : WP E c 262 132 [a0, a1, a2, a3, a4, a5, a6, a7, a8, a9] (.int y :: .int x :: st) ah Q = WP E c 262 133 [a0, a1, a2, a3, a4, a5, a6, a7, a8, a9] (.int (x * y) :: st) ah Q := wp_s i262_132 rfl rfl rfl rfl
theorem i262_133 : insAt 262 133 = some (.iconst 3, 134) := by decide +kernel
theorem r262_133 {E : aEnv} {c : Nat} {ah : aHp} {st : List Value} {Q : Option Value → aHp → Prop} {a0 a1 a2 a3 a4 a5 a6 a7 a8 a9 : Option Value} : WP E c 262 133 [a0, a1, a2, a3, a4, a5, a6, a7, a8, a9] (st) ah Q = WP E c 262 134 [a0, a1, a2, a3, a4, a5, a6, a7, a8, a9] (.int (3) :: st) ah Q := wp_s i262_133 rfl rfl rfl rfl
theorem i262_134 : insAt 262 134 = some (.iadd, 135) := by decide +kernel
theorem r262_134 {E : aEnv} {c : Nat} {ah : aHp} {st : List Value} {Q : Option Value → aHp → Prop} {a0 a1 a2 a3 a4 a5 a6 a7 a8 a9 : Option Value} {x y : Int32} : WP E c 262 134 [a0, a1, a2, a3, a4, a5, a6, a7, a8, a9] (.int y :: .int x :: st) ah Q = WP E c 262 135 [a0, a1, a2, a3, a4, a5, a6, a7, a8, a9] (.int (x + y) :: st) ah Q := wp_s i262_134 rfl rfl rfl rfl
theorem i262_135 : insAt 262 135 = some (.iaload, 136) := by decide +kernel
theorem r262_135 {E : aEnv} {c : Nat} {ah : aHp} {st : List Value} {Q : Option Value → aHp → Prop} {a0 a1 a2 a3 a4 a5 a6 a7 a8 a9 : Option Value} {i : Int32} {a : Nat} : WP E c 262 135 [a0, a1, a2, a3, a4, a5, a6, a7, a8, a9] (.int i :: .ref a :: st) ah Q = WPo (gI E ah (.int i :: .ref a :: st)) (fun s9 => WP E c 262 136 [a0, a1, a2, a3, a4, a5, a6, a7, a8, a9] s9 ah Q) := wp_hr i262_135 rfl rfl rfl rfl rfl rfl rfl rfl
theorem i262_136 : insAt 262 136 = some (.iadd, 137) := by decide +kernel
theorem r262_136 {E : aEnv} {c : Nat} {ah : aHp} {st : List Value} {Q : Option Value → aHp → Prop} {a0 a1 a2 a3 a4 a5 a6 a7 a8 a9 : Option Value} {x y : Int32} : WP E c 262 136 [a0, a1, a2, a3, a4, a5, a6, a7, a8, a9] (.int y :: .int x :: st) ah Q = WP E c 262 137 [a0, a1, a2, a3, a4, a5, a6, a7, a8, a9] (.int (x + y) :: st) ah Q := wp_s i262_136 rfl rfl rfl rfl
theorem i262_137 : insAt 262 137 = some (.goto 143, 140) := by decide +kernel
theorem r262_137 {E : aEnv} {c : Nat} {ah : aHp} {st : List Value} {Q : Option Value → aHp → Prop} {a0 a1 a2 a3 a4 a5 a6 a7 a8 a9 : Option Value} : WP E c 262 137 [a0, a1, a2, a3, a4, a5, a6, a7, a8, a9] (st) ah Q = WP E c 262 143 [a0, a1, a2, a3, a4, a5, a6, a7, a8, a9] st ah Q := wp_s i262_137 rfl rfl rfl rfl
theorem i262_140 : insAt 262 140 = some (.iconst 1000, 143) := by decide +kernel
theorem r262_140 {E : aEnv} {c : Nat} {ah : aHp} {st : List Value} {Q : Option Value → aHp → Prop} {a0 a1 a2 a3 a4 a5 a6 a7 a8 a9 : Option Value} : WP E c 262 140 [a0, a1, a2, a3, a4, a5, a6, a7, a8, a9] (st) ah Q = WP E c 262 143 [a0, a1, a2, a3, a4, a5, a6, a7, a8, a9] (.int (1000) :: st) ah Q := wp_s i262_140 rfl rfl rfl rfl
theorem i262_143 : insAt 262 143 = some (.istore 9, 145) := by decide +kernel
theorem r262_143 {E : aEnv} {c : Nat} {ah : aHp} {st : List Value} {Q : Option Value → aHp → Prop} {a0 a1 a2 a3 a4 a5 a6 a7 a8 a9 : Option Value} {x : Int32} : WP E c 262 143 [a0, a1, a2, a3, a4, a5, a6, a7, a8, a9] (.int x :: st) ah Q = WP E c 262 145 [a0, a1, a2, a3, a4, a5, a6, a7, kil a8, some (.int x)] (st) ah Q := wp_s i262_143 rfl rfl rfl rfl
theorem i262_145 : insAt 262 145 = some (.aload 0, 146) := by decide +kernel
theorem r262_145 {E : aEnv} {c : Nat} {ah : aHp} {st : List Value} {Q : Option Value → aHp → Prop} {a1 a2 a3 a4 a5 a6 a7 a8 a9 : Option Value} {x : Nat} : WP E c 262 145 [some (.ref x), a1, a2, a3, a4, a5, a6, a7, a8, a9] (st) ah Q = WP E c 262 146 [some (.ref x), a1, a2, a3, a4, a5, a6, a7, a8, a9] (.ref x :: st) ah Q := wp_s i262_145 rfl rfl rfl rfl
theorem i262_146 : insAt 262 146 = some (.getfield 11672, 149) := by decide +kernel
theorem r262_146 {E : aEnv} {c : Nat} {ah : aHp} {st : List Value} {Q : Option Value → aHp → Prop} {a0 a1 a2 a3 a4 a5 a6 a7 a8 a9 : Option Value} {a : Nat} : WP E c 262 146 [a0, a1, a2, a3, a4, a5, a6, a7, a8, a9] (.ref a :: st) ah Q = WPo (oGF (hg E ah a) 11 67) (fun v => WP E c 262 149 [a0, a1, a2, a3, a4, a5, a6, a7, a8, a9] (v :: st) ah Q) := wp_getf i262_146
theorem i262_149 : insAt 262 149 = some (.iconst 2, 150) := by decide +kernel
theorem r262_149 {E : aEnv} {c : Nat} {ah : aHp} {st : List Value} {Q : Option Value → aHp → Prop} {a0 a1 a2 a3 a4 a5 a6 a7 a8 a9 : Option Value} : WP E c 262 149 [a0, a1, a2, a3, a4, a5, a6, a7, a8, a9] (st) ah Q = WP E c 262 150 [a0, a1, a2, a3, a4, a5, a6, a7, a8, a9] (.int (2) :: st) ah Q := wp_s i262_149 rfl rfl rfl rfl
theorem i262_150 : insAt 262 150 = some (.iload 5, 152) := by decide +kernel
theorem r262_150 {E : aEnv} {c : Nat} {ah : aHp} {st : List Value} {Q : Option Value → aHp → Prop} {a0 a1 a2 a3 a4 a6 a7 a8 a9 : Option Value} {x : Int32} : WP E c 262 150 [a0, a1, a2, a3, a4, some (.int x), a6, a7, a8, a9] (st) ah Q = WP E c 262 152 [a0, a1, a2, a3, a4, some (.int x), a6, a7, a8, a9] (.int x :: st) ah Q := wp_s i262_150 rfl rfl rfl rfl
theorem i262_152 : insAt 262 152 = some (.imul, 153) := by decide +kernel
theorem r262_152 {E : aEnv} {c : Nat} {ah : aHp} {st : List Value} {Q : Option Value → aHp → Prop} {a0 a1 a2 a3 a4 a5 a6 a7 a8 a9 : Option Value} {x y : Int32} : WP E c 262 152 [a0, a1, a2, a3, a4, a5, a6, a7, a8, a9] (.int y :: .int x :: st) ah Q = WP E c 262 153 [a0, a1, a2, a3, a4, a5, a6, a7, a8, a9] (.int (x * y) :: st) ah Q := wp_s i262_152 rfl rfl rfl rfl
theorem i262_153 : insAt 262 153 = some (.iload 6, 155) := by decide +kernel
theorem r262_153 {E : aEnv} {c : Nat} {ah : aHp} {st : List Value} {Q : Option Value → aHp → Prop} {a0 a1 a2 a3 a4 a5 a7 a8 a9 : Option Value} {x : Int32} : WP E c 262 153 [a0, a1, a2, a3, a4, a5, some (.int x), a7, a8, a9] (st) ah Q = WP E c 262 155 [a0, a1, a2, a3, a4, a5, some (.int x), a7, a8, a9] (.int x :: st) ah Q := wp_s i262_153 rfl rfl rfl rfl
theorem i262_155 : insAt 262 155 = some (.iadd, 156) := by decide +kernel
theorem r262_155 {E : aEnv} {c : Nat} {ah : aHp} {st : List Value} {Q : Option Value → aHp → Prop} {a0 a1 a2 a3 a4 a5 a6 a7 a8 a9 : Option Value} {x y : Int32} : WP E c 262 155 [a0, a1, a2, a3, a4, a5, a6, a7, a8, a9] (.int y :: .int x :: st) ah Q = WP E c 262 156 [a0, a1, a2, a3, a4, a5, a6, a7, a8, a9] (.int (x + y) :: st) ah Q := wp_s i262_155 rfl rfl rfl rfl
theorem i262_156 : insAt 262 156 = some (.iload 8, 158) := by decide +kernel
theorem r262_156 {E : aEnv} {c : Nat} {ah : aHp} {st : List Value} {Q : Option Value → aHp → Prop} {a0 a1 a2 a3 a4 a5 a6 a7 a9 : Option Value} {x : Int32} : WP E c 262 156 [a0, a1, a2, a3, a4, a5, a6, a7, some (.int x), a9] (st) ah Q = WP E c 262 158 [a0, a1, a2, a3, a4, a5, a6, a7, some (.int x), a9] (.int x :: st) ah Q := wp_s i262_156 rfl rfl rfl rfl
theorem i262_158 : insAt 262 158 = some (.iload 9, 160) := by decide +kernel
theorem r262_158 {E : aEnv} {c : Nat} {ah : aHp} {st : List Value} {Q : Option Value → aHp → Prop} {a0 a1 a2 a3 a4 a5 a6 a7 a8 : Option Value} {x : Int32} : WP E c 262 158 [a0, a1, a2, a3, a4, a5, a6, a7, a8, some (.int x)] (st) ah Q = WP E c 262 160 [a0, a1, a2, a3, a4, a5, a6, a7, a8, some (.int x)] (.int x :: st) ah Q := wp_s i262_158 rfl rfl rfl rfl
theorem i262_160 : insAt 262 160 = some (.invokestatic 294, 163) := by decide +kernel
theorem r262_160 {E : aEnv} {c : Nat} {ah ah1 : aHp} {r : Option Value} {st : List Value} {Q : Option Value → aHp → Prop} {a0 a1 a2 a3 a4 a5 a6 a7 a8 a9 : Option Value} {p0 : Int32} {p1 : Int32} (h : EV E c 294 [.int p0, .int p1] ah r ah1) (h3 : wds st ≤ 8) : WP E (c + 1) 262 160 [a0, a1, a2, a3, a4, a5, a6, a7, a8, a9] (.int p1 :: .int p0 :: st) ah Q = WP E (c + 1) 262 163 [a0, a1, a2, a3, a4, a5, a6, a7, a8, a9] (r.toList ++ st) ah1 Q := wp_call (As := [.int p0, .int p1]) i262_160 (fun _ => rfl) rfl mr294.1 rfl h3 (by rw [mr294.2.1]; exact Nat.le_of_ble_eq_true rfl) h
theorem i262_163 : insAt 262 163 = some (.iastore, 164) := by decide +kernel
theorem r262_163 {E : aEnv} {c : Nat} {ah : aHp} {st : List Value} {Q : Option Value → aHp → Prop} {a0 a1 a2 a3 a4 a5 a6 a7 a8 a9 : Option Value} {x : Int32} {i : Int32} {a : Nat} : WP E c 262 163 [a0, a1, a2, a3, a4, a5, a6, a7, a8, a9] (.int x :: .int i :: .ref a :: st) ah Q = WPo (pI E ah (.int x :: .int i :: .ref a :: st)) (fun q9 => WP E c 262 164 [a0, a1, a2, a3, a4, a5, a6, a7, a8, a9] q9.1 q9.2 Q) := wp_hw i262_163 rfl rfl rfl rfl rfl rfl rfl rfl
theorem i262_164 : insAt 262 164 = some (.iinc 6 1, 167) := by decide +kernel
theorem r262_164 {E : aEnv} {c : Nat} {ah : aHp} {st : List Value} {Q : Option Value → aHp → Prop} {a0 a1 a2 a3 a4 a5 a7 a8 a9 : Option Value} {x : Int32} : WP E c 262 164 [a0, a1, a2, a3, a4, a5, some (.int x), a7, a8, a9] (st) ah Q = WP E c 262 167 [a0, a1, a2, a3, a4, kil a5, some (.int (x + 1)), a7, a8, a9] (st) ah Q := wp_s i262_164 rfl rfl rfl rfl
theorem i262_167 : insAt 262 167 = some (.goto 67, 170) := by decide +kernel
theorem r262_167 {E : aEnv} {c : Nat} {ah : aHp} {st : List Value} {Q : Option Value → aHp → Prop} {a0 a1 a2 a3 a4 a5 a6 a7 a8 a9 : Option Value} : WP E c 262 167 [a0, a1, a2, a3, a4, a5, a6, a7, a8, a9] (st) ah Q = WP E c 262 67 [a0, a1, a2, a3, a4, a5, a6, a7, a8, a9] st ah Q := wp_s i262_167 rfl rfl rfl rfl
theorem i262_170 : insAt 262 170 = some (.iinc 5 (-1), 173) := by decide +kernel
theorem r262_170 {E : aEnv} {c : Nat} {ah : aHp} {st : List Value} {Q : Option Value → aHp → Prop} {a0 a1 a2 a3 a4 a6 a7 a8 a9 : Option Value} {x : Int32} : WP E c 262 170 [a0, a1, a2, a3, a4, some (.int x), a6, a7, a8, a9] (st) ah Q = WP E c 262 173 [a0, a1, a2, a3, kil a4, some (.int (x + (-1))), a6, a7, a8, a9] (st) ah Q := wp_s i262_170 rfl rfl rfl rfl
theorem i262_173 : insAt 262 173 = some (.goto 59, 176) := by decide +kernel
theorem r262_173 {E : aEnv} {c : Nat} {ah : aHp} {st : List Value} {Q : Option Value → aHp → Prop} {a0 a1 a2 a3 a4 a5 a6 a7 a8 a9 : Option Value} : WP E c 262 173 [a0, a1, a2, a3, a4, a5, a6, a7, a8, a9] (st) ah Q = WP E c 262 59 [a0, a1, a2, a3, a4, a5, a6, a7, a8, a9] st ah Q := wp_s i262_173 rfl rfl rfl rfl
theorem i262_176 : insAt 262 176 = some (.iconst 0, 177) := by decide +kernel
theorem r262_176 {E : aEnv} {c : Nat} {ah : aHp} {st : List Value} {Q : Option Value → aHp → Prop} {a0 a1 a2 a3 a4 a5 a6 a7 a8 a9 : Option Value} : WP E c 262 176 [a0, a1, a2, a3, a4, a5, a6, a7, a8, a9] (st) ah Q = WP E c 262 177 [a0, a1, a2, a3, a4, a5, a6, a7, a8, a9] (.int (0) :: st) ah Q := wp_s i262_176 rfl rfl rfl rfl
theorem i262_177 : insAt 262 177 = some (.istore 5, 179) := by decide +kernel
theorem r262_177 {E : aEnv} {c : Nat} {ah : aHp} {st : List Value} {Q : Option Value → aHp → Prop} {a0 a1 a2 a3 a4 a5 a6 a7 a8 a9 : Option Value} {x : Int32} : WP E c 262 177 [a0, a1, a2, a3, a4, a5, a6, a7, a8, a9] (.int x :: st) ah Q = WP E c 262 179 [a0, a1, a2, a3, kil a4, some (.int x), a6, a7, a8, a9] (st) ah Q := wp_s i262_177 rfl rfl rfl rfl
theorem i262_179 : insAt 262 179 = some (.iconst 0, 180) := by decide +kernel
theorem r262_179 {E : aEnv} {c : Nat} {ah : aHp} {st : List Value} {Q : Option Value → aHp → Prop} {a0 a1 a2 a3 a4 a5 a6 a7 a8 a9 : Option Value} : WP E c 262 179 [a0, a1, a2, a3, a4, a5, a6, a7, a8, a9] (st) ah Q = WP E c 262 180 [a0, a1, a2, a3, a4, a5, a6, a7, a8, a9] (.int (0) :: st) ah Q := wp_s i262_179 rfl rfl rfl rfl
theorem i262_180 : insAt 262 180 = some (.istore 6, 182) := by decide +kernel
theorem r262_180 {E : aEnv} {c : Nat} {ah : aHp} {st : List Value} {Q : Option Value → aHp → Prop} {a0 a1 a2 a3 a4 a5 a6 a7 a8 a9 : Option Value} {x : Int32} : WP E c 262 180 [a0, a1, a2, a3, a4, a5, a6, a7, a8, a9] (.int x :: st) ah Q = WP E c 262 182 [a0, a1, a2, a3, a4, kil a5, some (.int x), a7, a8, a9] (st) ah Q := wp_s i262_180 rfl rfl rfl rfl
theorem i262_182 : insAt 262 182 = some (.iload 6, 184) := by decide +kernel
theorem r262_182 {E : aEnv} {c : Nat} {ah : aHp} {st : List Value} {Q : Option Value → aHp → Prop} {a0 a1 a2 a3 a4 a5 a7 a8 a9 : Option Value} {x : Int32} : WP E c 262 182 [a0, a1, a2, a3, a4, a5, some (.int x), a7, a8, a9] (st) ah Q = WP E c 262 184 [a0, a1, a2, a3, a4, a5, some (.int x), a7, a8, a9] (.int x :: st) ah Q := wp_s i262_182 rfl rfl rfl rfl
theorem i262_184 : insAt 262 184 = some (.iconst 13, 186) := by decide +kernel
theorem r262_184 {E : aEnv} {c : Nat} {ah : aHp} {st : List Value} {Q : Option Value → aHp → Prop} {a0 a1 a2 a3 a4 a5 a6 a7 a8 a9 : Option Value} : WP E c 262 184 [a0, a1, a2, a3, a4, a5, a6, a7, a8, a9] (st) ah Q = WP E c 262 186 [a0, a1, a2, a3, a4, a5, a6, a7, a8, a9] (.int (13) :: st) ah Q := wp_s i262_184 rfl rfl rfl rfl
theorem i262_186 : insAt 262 186 = some (.if_icmp .ge 284, 189) := by decide +kernel
theorem r262_186 {E : aEnv} {c : Nat} {ah : aHp} {st : List Value} {Q : Option Value → aHp → Prop} {a0 a1 a2 a3 a4 a5 a6 a7 a8 a9 : Option Value} {x y : Int32} : WP E c 262 186 [a0, a1, a2, a3, a4, a5, a6, a7, a8, a9] (.int y :: .int x :: st) ah Q = if y ≤ x then WP E c 262 284 [a0, a1, a2, a3, a4, a5, a6, a7, a8, a9] st ah Q else WP E c 262 189 [a0, a1, a2, a3, a4, a5, a6, a7, a8, a9] st ah Q := wp_j i262_186 rfl rfl rfl rfl
theorem i262_189 : insAt 262 189 = some (.aload 0, 190) := by decide +kernel
theorem r262_189 {E : aEnv} {c : Nat} {ah : aHp} {st : List Value} {Q : Option Value → aHp → Prop} {a1 a2 a3 a4 a5 a6 a7 a8 a9 : Option Value} {x : Nat} : WP E c 262 189 [some (.ref x), a1, a2, a3, a4, a5, a6, a7, a8, a9] (st) ah Q = WP E c 262 190 [some (.ref x), a1, a2, a3, a4, a5, a6, a7, a8, a9] (.ref x :: st) ah Q := wp_s i262_189 rfl rfl rfl rfl
theorem i262_190 : insAt 262 190 = some (.getfield 11692, 193) := by decide +kernel
theorem r262_190 {E : aEnv} {c : Nat} {ah : aHp} {st : List Value} {Q : Option Value → aHp → Prop} {a0 a1 a2 a3 a4 a5 a6 a7 a8 a9 : Option Value} {a : Nat} : WP E c 262 190 [a0, a1, a2, a3, a4, a5, a6, a7, a8, a9] (.ref a :: st) ah Q = WPo (oGF (hg E ah a) 11 69) (fun v => WP E c 262 193 [a0, a1, a2, a3, a4, a5, a6, a7, a8, a9] (v :: st) ah Q) := wp_getf i262_190
theorem i262_193 : insAt 262 193 = some (.iload 6, 195) := by decide +kernel
theorem r262_193 {E : aEnv} {c : Nat} {ah : aHp} {st : List Value} {Q : Option Value → aHp → Prop} {a0 a1 a2 a3 a4 a5 a7 a8 a9 : Option Value} {x : Int32} : WP E c 262 193 [a0, a1, a2, a3, a4, a5, some (.int x), a7, a8, a9] (st) ah Q = WP E c 262 195 [a0, a1, a2, a3, a4, a5, some (.int x), a7, a8, a9] (.int x :: st) ah Q := wp_s i262_193 rfl rfl rfl rfl
theorem i262_195 : insAt 262 195 = some (.iaload, 196) := by decide +kernel
theorem r262_195 {E : aEnv} {c : Nat} {ah : aHp} {st : List Value} {Q : Option Value → aHp → Prop} {a0 a1 a2 a3 a4 a5 a6 a7 a8 a9 : Option Value} {i : Int32} {a : Nat} : WP E c 262 195 [a0, a1, a2, a3, a4, a5, a6, a7, a8, a9] (.int i :: .ref a :: st) ah Q = WPo (gI E ah (.int i :: .ref a :: st)) (fun s9 => WP E c 262 196 [a0, a1, a2, a3, a4, a5, a6, a7, a8, a9] s9 ah Q) := wp_hr i262_195 rfl rfl rfl rfl rfl rfl rfl rfl
theorem i262_196 : insAt 262 196 = some (.iload 5, 198) := by decide +kernel
theorem r262_196 {E : aEnv} {c : Nat} {ah : aHp} {st : List Value} {Q : Option Value → aHp → Prop} {a0 a1 a2 a3 a4 a6 a7 a8 a9 : Option Value} {x : Int32} : WP E c 262 196 [a0, a1, a2, a3, a4, some (.int x), a6, a7, a8, a9] (st) ah Q = WP E c 262 198 [a0, a1, a2, a3, a4, some (.int x), a6, a7, a8, a9] (.int x :: st) ah Q := wp_s i262_196 rfl rfl rfl rfl
theorem i262_198 : insAt 262 198 = some (.iadd, 199) := by decide +kernel
theorem r262_198 {E : aEnv} {c : Nat} {ah : aHp} {st : List Value} {Q : Option Value → aHp → Prop} {a0 a1 a2 a3 a4 a5 a6 a7 a8 a9 : Option Value} {x y : Int32} : WP E c 262 198 [a0, a1, a2, a3, a4, a5, a6, a7, a8, a9] (.int y :: .int x :: st) ah Q = WP E c 262 199 [a0, a1, a2, a3, a4, a5, a6, a7, a8, a9] (.int (x + y) :: st) ah Q := wp_s i262_198 rfl rfl rfl rfl
theorem i262_199 : insAt 262 199 = some (.istore 7, 201) := by decide +kernel
theorem r262_199 {E : aEnv} {c : Nat} {ah : aHp} {st : List Value} {Q : Option Value → aHp → Prop} {a0 a1 a2 a3 a4 a5 a6 a7 a8 a9 : Option Value} {x : Int32} : WP E c 262 199 [a0, a1, a2, a3, a4, a5, a6, a7, a8, a9] (.int x :: st) ah Q = WP E c 262 201 [a0, a1, a2, a3, a4, a5, kil a6, some (.int x), a8, a9] (st) ah Q := wp_s i262_199 rfl rfl rfl rfl
theorem i262_201 : insAt 262 201 = some (.iload 7, 203) := by decide +kernel
theorem r262_201 {E : aEnv} {c : Nat} {ah : aHp} {st : List Value} {Q : Option Value → aHp → Prop} {a0 a1 a2 a3 a4 a5 a6 a8 a9 : Option Value} {x : Int32} : WP E c 262 201 [a0, a1, a2, a3, a4, a5, a6, some (.int x), a8, a9] (st) ah Q = WP E c 262 203 [a0, a1, a2, a3, a4, a5, a6, some (.int x), a8, a9] (.int x :: st) ah Q := wp_s i262_201 rfl rfl rfl rfl
theorem i262_203 : insAt 262 203 = some (.iconst 9, 205) := by decide +kernel
theorem r262_203 {E : aEnv} {c : Nat} {ah : aHp} {st : List Value} {Q : Option Value → aHp → Prop} {a0 a1 a2 a3 a4 a5 a6 a7 a8 a9 : Option Value} : WP E c 262 203 [a0, a1, a2, a3, a4, a5, a6, a7, a8, a9] (st) ah Q = WP E c 262 205 [a0, a1, a2, a3, a4, a5, a6, a7, a8, a9] (.int (9) :: st) ah Q := wp_s i262_203 rfl rfl rfl rfl
theorem i262_205 : insAt 262 205 = some (.if_icmp .gt 241, 208) := by decide +kernel
theorem r262_205 {E : aEnv} {c : Nat} {ah : aHp} {st : List Value} {Q : Option Value → aHp → Prop} {a0 a1 a2 a3 a4 a5 a6 a7 a8 a9 : Option Value} {x y : Int32} : WP E c 262 205 [a0, a1, a2, a3, a4, a5, a6, a7, a8, a9] (.int y :: .int x :: st) ah Q = if y < x then WP E c 262 241 [a0, a1, a2, a3, a4, a5, a6, a7, a8, a9] st ah Q else WP E c 262 208 [a0, a1, a2, a3, a4, a5, a6, a7, a8, a9] st ah Q := wp_j i262_205 rfl rfl rfl rfl
theorem i262_208 : insAt 262 208 = some (.iload 7, 210) := by decide +kernel
theorem r262_208 {E : aEnv} {c : Nat} {ah : aHp} {st : List Value} {Q : Option Value → aHp → Prop} {a0 a1 a2 a3 a4 a5 a6 a8 a9 : Option Value} {x : Int32} : WP E c 262 208 [a0, a1, a2, a3, a4, a5, a6, some (.int x), a8, a9] (st) ah Q = WP E c 262 210 [a0, a1, a2, a3, a4, a5, a6, some (.int x), a8, a9] (.int x :: st) ah Q := wp_s i262_208 rfl rfl rfl rfl
theorem i262_210 : insAt 262 210 = some (.aload 0, 211) := by decide +kernel
theorem r262_210 {E : aEnv} {c : Nat} {ah : aHp} {st : List Value} {Q : Option Value → aHp → Prop} {a1 a2 a3 a4 a5 a6 a7 a8 a9 : Option Value} {x : Nat} : WP E c 262 210 [some (.ref x), a1, a2, a3, a4, a5, a6, a7, a8, a9] (st) ah Q = WP E c 262 211 [some (.ref x), a1, a2, a3, a4, a5, a6, a7, a8, a9] (.ref x :: st) ah Q := wp_s i262_210 rfl rfl rfl rfl
theorem i262_211 : insAt 262 211 = some (.getfield 11672, 214) := by decide +kernel
theorem r262_211 {E : aEnv} {c : Nat} {ah : aHp} {st : List Value} {Q : Option Value → aHp → Prop} {a0 a1 a2 a3 a4 a5 a6 a7 a8 a9 : Option Value} {a : Nat} : WP E c 262 211 [a0, a1, a2, a3, a4, a5, a6, a7, a8, a9] (.ref a :: st) ah Q = WPo (oGF (hg E ah a) 11 67) (fun v => WP E c 262 214 [a0, a1, a2, a3, a4, a5, a6, a7, a8, a9] (v :: st) ah Q) := wp_getf i262_211
theorem i262_214 : insAt 262 214 = some (.iconst 2, 215) := by decide +kernel
theorem r262_214 {E : aEnv} {c : Nat} {ah : aHp} {st : List Value} {Q : Option Value → aHp → Prop} {a0 a1 a2 a3 a4 a5 a6 a7 a8 a9 : Option Value} : WP E c 262 214 [a0, a1, a2, a3, a4, a5, a6, a7, a8, a9] (st) ah Q = WP E c 262 215 [a0, a1, a2, a3, a4, a5, a6, a7, a8, a9] (.int (2) :: st) ah Q := wp_s i262_214 rfl rfl rfl rfl
theorem i262_215 : insAt 262 215 = some (.iload 6, 217) := by decide +kernel
theorem r262_215 {E : aEnv} {c : Nat} {ah : aHp} {st : List Value} {Q : Option Value → aHp → Prop} {a0 a1 a2 a3 a4 a5 a7 a8 a9 : Option Value} {x : Int32} : WP E c 262 215 [a0, a1, a2, a3, a4, a5, some (.int x), a7, a8, a9] (st) ah Q = WP E c 262 217 [a0, a1, a2, a3, a4, a5, some (.int x), a7, a8, a9] (.int x :: st) ah Q := wp_s i262_215 rfl rfl rfl rfl
theorem i262_217 : insAt 262 217 = some (.imul, 218) := by decide +kernel
theorem r262_217 {E : aEnv} {c : Nat} {ah : aHp} {st : List Value} {Q : Option Value → aHp → Prop} {a0 a1 a2 a3 a4 a5 a6 a7 a8 a9 : Option Value} {x y : Int32} : WP E c 262 217 [a0, a1, a2, a3, a4, a5, a6, a7, a8, a9] (.int y :: .int x :: st) ah Q = WP E c 262 218 [a0, a1, a2, a3, a4, a5, a6, a7, a8, a9] (.int (x * y) :: st) ah Q := wp_s i262_217 rfl rfl rfl rfl
theorem i262_218 : insAt 262 218 = some (.iconst 2, 219) := by decide +kernel
theorem r262_218 {E : aEnv} {c : Nat} {ah : aHp} {st : List Value} {Q : Option Value → aHp → Prop} {a0 a1 a2 a3 a4 a5 a6 a7 a8 a9 : Option Value} : WP E c 262 218 [a0, a1, a2, a3, a4, a5, a6, a7, a8, a9] (st) ah Q = WP E c 262 219 [a0, a1, a2, a3, a4, a5, a6, a7, a8, a9] (.int (2) :: st) ah Q := wp_s i262_218 rfl rfl rfl rfl
theorem i262_219 : insAt 262 219 = some (.iadd, 220) := by decide +kernel
theorem r262_219 {E : aEnv} {c : Nat} {ah : aHp} {st : List Value} {Q : Option Value → aHp → Prop} {a0 a1 a2 a3 a4 a5 a6 a7 a8 a9 : Option Value} {x y : Int32} : WP E c 262 219 [a0, a1, a2, a3, a4, a5, a6, a7, a8, a9] (.int y :: .int x :: st) ah Q = WP E c 262 220 [a0, a1, a2, a3, a4, a5, a6, a7, a8, a9] (.int (x + y) :: st) ah Q := wp_s i262_219 rfl rfl rfl rfl
theorem i262_220 : insAt 262 220 = some (.iaload, 221) := by decide +kernel
theorem r262_220 {E : aEnv} {c : Nat} {ah : aHp} {st : List Value} {Q : Option Value → aHp → Prop} {a0 a1 a2 a3 a4 a5 a6 a7 a8 a9 : Option Value} {i : Int32} {a : Nat} : WP E c 262 220 [a0, a1, a2, a3, a4, a5, a6, a7, a8, a9] (.int i :: .ref a :: st) ah Q = WPo (gI E ah (.int i :: .ref a :: st)) (fun s9 => WP E c 262 221 [a0, a1, a2, a3, a4, a5, a6, a7, a8, a9] s9 ah Q) := wp_hr i262_220 rfl rfl rfl rfl rfl rfl rfl rfl
theorem i262_221 : insAt 262 221 = some (.iadd, 222) := by decide +kernel
theorem r262_221 {E : aEnv} {c : Nat} {ah : aHp} {st : List Value} {Q : Option Value → aHp → Prop} {a0 a1 a2 a3 a4 a5 a6 a7 a8 a9 : Option Value} {x y : Int32} : WP E c 262 221 [a0, a1, a2, a3, a4, a5, a6, a7, a8, a9] (.int y :: .int x :: st) ah Q = WP E c 262 222 [a0, a1, a2, a3, a4, a5, a6, a7, a8, a9] (.int (x + y) :: st) ah Q := wp_s i262_221 rfl rfl rfl rfl
theorem i262_222 : insAt 262 222 = some (.aload 0, 223) := by decide +kernel
theorem r262_222 {E : aEnv} {c : Nat} {ah : aHp} {st : List Value} {Q : Option Value → aHp → Prop} {a1 a2 a3 a4 a5 a6 a7 a8 a9 : Option Value} {x : Nat} : WP E c 262 222 [some (.ref x), a1, a2, a3, a4, a5, a6, a7, a8, a9] (st) ah Q = WP E c 262 223 [some (.ref x), a1, a2, a3, a4, a5, a6, a7, a8, a9] (.ref x :: st) ah Q := wp_s i262_222 rfl rfl rfl rfl
theorem i262_223 : insAt 262 223 = some (.getfield 11672, 226) := by decide +kernel
theorem r262_223 {E : aEnv} {c : Nat} {ah : aHp} {st : List Value} {Q : Option Value → aHp → Prop} {a0 a1 a2 a3 a4 a5 a6 a7 a8 a9 : Option Value} {a : Nat} : WP E c 262 223 [a0, a1, a2, a3, a4, a5, a6, a7, a8, a9] (.ref a :: st) ah Q = WPo (oGF (hg E ah a) 11 67) (fun v => WP E c 262 226 [a0, a1, a2, a3, a4, a5, a6, a7, a8, a9] (v :: st) ah Q) := wp_getf i262_223
theorem i262_226 : insAt 262 226 = some (.iconst 2, 227) := by decide +kernel
theorem r262_226 {E : aEnv} {c : Nat} {ah : aHp} {st : List Value} {Q : Option Value → aHp → Prop} {a0 a1 a2 a3 a4 a5 a6 a7 a8 a9 : Option Value} : WP E c 262 226 [a0, a1, a2, a3, a4, a5, a6, a7, a8, a9] (st) ah Q = WP E c 262 227 [a0, a1, a2, a3, a4, a5, a6, a7, a8, a9] (.int (2) :: st) ah Q := wp_s i262_226 rfl rfl rfl rfl
theorem i262_227 : insAt 262 227 = some (.iload 6, 229) := by decide +kernel
theorem r262_227 {E : aEnv} {c : Nat} {ah : aHp} {st : List Value} {Q : Option Value → aHp → Prop} {a0 a1 a2 a3 a4 a5 a7 a8 a9 : Option Value} {x : Int32} : WP E c 262 227 [a0, a1, a2, a3, a4, a5, some (.int x), a7, a8, a9] (st) ah Q = WP E c 262 229 [a0, a1, a2, a3, a4, a5, some (.int x), a7, a8, a9] (.int x :: st) ah Q := wp_s i262_227 rfl rfl rfl rfl
theorem i262_229 : insAt 262 229 = some (.imul, 230) := by decide +kernel
theorem r262_229 {E : aEnv} {c : Nat} {ah : aHp} {st : List Value} {Q : Option Value → aHp → Prop} {a0 a1 a2 a3 a4 a5 a6 a7 a8 a9 : Option Value} {x y : Int32} : WP E c 262 229 [a0, a1, a2, a3, a4, a5, a6, a7, a8, a9] (.int y :: .int x :: st) ah Q = WP E c 262 230 [a0, a1, a2, a3, a4, a5, a6, a7, a8, a9] (.int (x * y) :: st) ah Q := wp_s i262_229 rfl rfl rfl rfl
theorem i262_230 : insAt 262 230 = some (.iload 5, 232) := by decide +kernel
theorem r262_230 {E : aEnv} {c : Nat} {ah : aHp} {st : List Value} {Q : Option Value → aHp → Prop} {a0 a1 a2 a3 a4 a6 a7 a8 a9 : Option Value} {x : Int32} : WP E c 262 230 [a0, a1, a2, a3, a4, some (.int x), a6, a7, a8, a9] (st) ah Q = WP E c 262 232 [a0, a1, a2, a3, a4, some (.int x), a6, a7, a8, a9] (.int x :: st) ah Q := wp_s i262_230 rfl rfl rfl rfl
theorem i262_232 : insAt 262 232 = some (.iadd, 233) := by decide +kernel
theorem r262_232 {E : aEnv} {c : Nat} {ah : aHp} {st : List Value} {Q : Option Value → aHp → Prop} {a0 a1 a2 a3 a4 a5 a6 a7 a8 a9 : Option Value} {x y : Int32} : WP E c 262 232 [a0, a1, a2, a3, a4, a5, a6, a7, a8, a9] (.int y :: .int x :: st) ah Q = WP E c 262 233 [a0, a1, a2, a3, a4, a5, a6, a7, a8, a9] (.int (x + y) :: st) ah Q := wp_s i262_232 rfl rfl rfl rfl
theorem i262_233 : insAt 262 233 = some (.iaload, 234) := by decide +kernel
theorem r262_233 {E : aEnv} {c : Nat} {ah : aHp} {st : List Value} {Q : Option Value → aHp → Prop} {a0 a1 a2 a3 a4 a5 a6 a7 a8 a9 : Option Value} {i : Int32} {a : Nat} : WP E c 262 233 [a0, a1, a2, a3, a4, a5, a6, a7, a8, a9] (.int i :: .ref a :: st) ah Q = WPo (gI E ah (.int i :: .ref a :: st)) (fun s9 => WP E c 262 234 [a0, a1, a2, a3, a4, a5, a6, a7, a8, a9] s9 ah Q) := wp_hr i262_233 rfl rfl rfl rfl rfl rfl rfl rfl
theorem i262_234 : insAt 262 234 = some (.if_icmp .ne 241, 237) := by decide +kernel
theorem r262_234 {E : aEnv} {c : Nat} {ah : aHp} {st : List Value} {Q : Option Value → aHp → Prop} {a0 a1 a2 a3 a4 a5 a6 a7 a8 a9 : Option Value} {x y : Int32} : WP E c 262 234 [a0, a1, a2, a3, a4, a5, a6, a7, a8, a9] (.int y :: .int x :: st) ah Q = if ¬ x = y then WP E c 262 241 [a0, a1, a2, a3, a4, a5, a6, a7, a8, a9] st ah Q else WP E c 262 237 [a0, a1, a2, a3, a4, a5, a6, a7, a8, a9] st ah Q := wp_j i262_234 rfl rfl rfl rfl
theorem i262_237 : insAt 262 237 = some (.iconst 1, 238) := by decide +kernel
theorem r262_237 {E : aEnv} {c : Nat} {ah : aHp} {st : List Value} {Q : Option Value → aHp → Prop} {a0 a1 a2 a3 a4 a5 a6 a7 a8 a9 : Option Value} : WP E c 262 237 [a0, a1, a2, a3, a4, a5, a6, a7, a8, a9] (st) ah Q = WP E c 262 238 [a0, a1, a2, a3, a4, a5, a6, a7, a8, a9] (.int (1) :: st) ah Q := wp_s i262_237 rfl rfl rfl rfl
theorem i262_238 : insAt 262 238 = some (.goto 242, 241) := by decide +kernel
theorem r262_238 {E : aEnv} {c : Nat} {ah : aHp} {st : List Value} {Q : Option Value → aHp → Prop} {a0 a1 a2 a3 a4 a5 a6 a7 a8 a9 : Option Value} : WP E c 262 238 [a0, a1, a2, a3, a4, a5, a6, a7, a8, a9] (st) ah Q = WP E c 262 242 [a0, a1, a2, a3, a4, a5, a6, a7, a8, a9] st ah Q := wp_s i262_238 rfl rfl rfl rfl
theorem i262_241 : insAt 262 241 = some (.iconst 0, 242) := by decide +kernel
theorem r262_241 {E : aEnv} {c : Nat} {ah : aHp} {st : List Value} {Q : Option Value → aHp → Prop} {a0 a1 a2 a3 a4 a5 a6 a7 a8 a9 : Option Value} : WP E c 262 241 [a0, a1, a2, a3, a4, a5, a6, a7, a8, a9] (st) ah Q = WP E c 262 242 [a0, a1, a2, a3, a4, a5, a6, a7, a8, a9] (.int (0) :: st) ah Q := wp_s i262_241 rfl rfl rfl rfl
theorem i262_242 : insAt 262 242 = some (.istore 8, 244) := by decide +kernel
theorem r262_242 {E : aEnv} {c : Nat} {ah : aHp} {st : List Value} {Q : Option Value → aHp → Prop} {a0 a1 a2 a3 a4 a5 a6 a7 a8 a9 : Option Value} {x : Int32} : WP E c 262 242 [a0, a1, a2, a3, a4, a5, a6, a7, a8, a9] (.int x :: st) ah Q = WP E c 262 244 [a0, a1, a2, a3, a4, a5, a6, kil a7, some (.int x), a9] (st) ah Q := wp_s i262_242 rfl rfl rfl rfl
theorem i262_244 : insAt 262 244 = some (.aload 0, 245) := by decide +kernel
theorem r262_244 {E : aEnv} {c : Nat} {ah : aHp} {st : List Value} {Q : Option Value → aHp → Prop} {a1 a2 a3 a4 a5 a6 a7 a8 a9 : Option Value} {x : Nat} : WP E c 262 244 [some (.ref x), a1, a2, a3, a4, a5, a6, a7, a8, a9] (st) ah Q = WP E c 262 245 [some (.ref x), a1, a2, a3, a4, a5, a6, a7, a8, a9] (.ref x :: st) ah Q := wp_s i262_244 rfl rfl rfl rfl
theorem i262_245 : insAt 262 245 = some (.getfield 11682, 248) := by decide +kernel
theorem r262_245 {E : aEnv} {c : Nat} {ah : aHp} {st : List Value} {Q : Option Value → aHp → Prop} {a0 a1 a2 a3 a4 a5 a6 a7 a8 a9 : Option Value} {a : Nat} : WP E c 262 245 [a0, a1, a2, a3, a4, a5, a6, a7, a8, a9] (.ref a :: st) ah Q = WPo (oGF (hg E ah a) 11 68) (fun v => WP E c 262 248 [a0, a1, a2, a3, a4, a5, a6, a7, a8, a9] (v :: st) ah Q) := wp_getf i262_245
theorem i262_248 : insAt 262 248 = some (.iload 6, 250) := by decide +kernel
theorem r262_248 {E : aEnv} {c : Nat} {ah : aHp} {st : List Value} {Q : Option Value → aHp → Prop} {a0 a1 a2 a3 a4 a5 a7 a8 a9 : Option Value} {x : Int32} : WP E c 262 248 [a0, a1, a2, a3, a4, a5, some (.int x), a7, a8, a9] (st) ah Q = WP E c 262 250 [a0, a1, a2, a3, a4, a5, some (.int x), a7, a8, a9] (.int x :: st) ah Q := wp_s i262_248 rfl rfl rfl rfl
theorem i262_250 : insAt 262 250 = some (.iload 8, 252) := by decide +kernel
theorem r262_250 {E : aEnv} {c : Nat} {ah : aHp} {st : List Value} {Q : Option Value → aHp → Prop} {a0 a1 a2 a3 a4 a5 a6 a7 a9 : Option Value} {x : Int32} : WP E c 262 250 [a0, a1, a2, a3, a4, a5, a6, a7, some (.int x), a9] (st) ah Q = WP E c 262 252 [a0, a1, a2, a3, a4, a5, a6, a7, some (.int x), a9] (.int x :: st) ah Q := wp_s i262_250 rfl rfl rfl rfl
theorem i262_252 : insAt 262 252 = some (.ifCond .eq 260, 255) := by decide +kernel
theorem r262_252 {E : aEnv} {c : Nat} {ah : aHp} {st : List Value} {Q : Option Value → aHp → Prop} {a0 a1 a2 a3 a4 a5 a6 a7 a8 a9 : Option Value} {x : Int32} : WP E c 262 252 [a0, a1, a2, a3, a4, a5, a6, a7, a8, a9] (.int x :: st) ah Q = if x = 0 then WP E c 262 260 [a0, a1, a2, a3, a4, a5, a6, a7, a8, a9] st ah Q else WP E c 262 255 [a0, a1, a2, a3, a4, a5, a6, a7, a8, a9] st ah Q := wp_j i262_252 rfl rfl rfl rfl
theorem i262_255 : insAt 262 255 = some (.iload 7, 257) := by decide +kernel
theorem r262_255 {E : aEnv} {c : Nat} {ah : aHp} {st : List Value} {Q : Option Value → aHp → Prop} {a0 a1 a2 a3 a4 a5 a6 a8 a9 : Option Value} {x : Int32} : WP E c 262 255 [a0, a1, a2, a3, a4, a5, a6, some (.int x), a8, a9] (st) ah Q = WP E c 262 257 [a0, a1, a2, a3, a4, a5, a6, some (.int x), a8, a9] (.int x :: st) ah Q := wp_s i262_255 rfl rfl rfl rfl
theorem i262_257 : insAt 262 257 = some (.goto 265, 260) := by decide +kernel
theorem r262_257 {E : aEnv} {c : Nat} {ah : aHp} {st : List Value} {Q : Option Value → aHp → Prop} {a0 a1 a2 a3 a4 a5 a6 a7 a8 a9 : Option Value} : WP E c 262 257 [a0, a1, a2, a3, a4, a5, a6, a7, a8, a9] (st) ah Q = WP E c 262 265 [a0, a1, a2, a3, a4, a5, a6, a7, a8, a9] st ah Q := wp_s i262_257 rfl rfl rfl rfl
theorem i262_260 : insAt 262 260 = some (.iload 7, 262) := by decide +kernel
theorem r262_260 {E : aEnv} {c : Nat} {ah : aHp} {st : List Value} {Q : Option Value → aHp → Prop} {a0 a1 a2 a3 a4 a5 a6 a8 a9 : Option Value} {x : Int32} : WP E c 262 260 [a0, a1, a2, a3, a4, a5, a6, some (.int x), a8, a9] (st) ah Q = WP E c 262 262 [a0, a1, a2, a3, a4, a5, a6, some (.int x), a8, a9] (.int x :: st) ah Q := wp_s i262_260 rfl rfl rfl rfl
theorem i262_262 : insAt 262 262 = some (.iconst 10, 264) := by decide +kernel
theorem r262_262 {E : aEnv} {c : Nat} {ah : aHp} {st : List Value} {Q : Option Value → aHp → Prop} {a0 a1 a2 a3 a4 a5 a6 a7 a8 a9 : Option Value} : WP E c 262 262 [a0, a1, a2, a3, a4, a5, a6, a7, a8, a9] (st) ah Q = WP E c 262 264 [a0, a1, a2, a3, a4, a5, a6, a7, a8, a9] (.int (10) :: st) ah Q := wp_s i262_262 rfl rfl rfl rfl
theorem i262_264 : insAt 262 264 = some (.isub, 265) := by decide +kernel
theorem r262_264 {E : aEnv} {c : Nat} {ah : aHp} {st : List Value} {Q : Option Value → aHp → Prop} {a0 a1 a2 a3 a4 a5 a6 a7 a8 a9 : Option Value} {x y : Int32} : WP E c 262 264 [a0, a1, a2, a3, a4, a5, a6, a7, a8, a9] (.int y :: .int x :: st) ah Q = WP E c 262 265 [a0, a1, a2, a3, a4, a5, a6, a7, a8, a9] (.int (x - y) :: st) ah Q := wp_s i262_264 rfl rfl rfl rfl
theorem i262_265 : insAt 262 265 = some (.iastore, 266) := by decide +kernel
theorem r262_265 {E : aEnv} {c : Nat} {ah : aHp} {st : List Value} {Q : Option Value → aHp → Prop} {a0 a1 a2 a3 a4 a5 a6 a7 a8 a9 : Option Value} {x : Int32} {i : Int32} {a : Nat} : WP E c 262 265 [a0, a1, a2, a3, a4, a5, a6, a7, a8, a9] (.int x :: .int i :: .ref a :: st) ah Q = WPo (pI E ah (.int x :: .int i :: .ref a :: st)) (fun q9 => WP E c 262 266 [a0, a1, a2, a3, a4, a5, a6, a7, a8, a9] q9.1 q9.2 Q) := wp_hw i262_265 rfl rfl rfl rfl rfl rfl rfl rfl
theorem i262_266 : insAt 262 266 = some (.iload 8, 268) := by decide +kernel
theorem r262_266 {E : aEnv} {c : Nat} {ah : aHp} {st : List Value} {Q : Option Value → aHp → Prop} {a0 a1 a2 a3 a4 a5 a6 a7 a9 : Option Value} {x : Int32} : WP E c 262 266 [a0, a1, a2, a3, a4, a5, a6, a7, some (.int x), a9] (st) ah Q = WP E c 262 268 [a0, a1, a2, a3, a4, a5, a6, a7, some (.int x), a9] (.int x :: st) ah Q := wp_s i262_266 rfl rfl rfl rfl
theorem i262_268 : insAt 262 268 = some (.ifCond .eq 275, 271) := by decide +kernel
theorem r262_268 {E : aEnv} {c : Nat} {ah : aHp} {st : List Value} {Q : Option Value → aHp → Prop} {a0 a1 a2 a3 a4 a5 a6 a7 a8 a9 : Option Value} {x : Int32} : WP E c 262 268 [a0, a1, a2, a3, a4, a5, a6, a7, a8, a9] (.int x :: st) ah Q = if x = 0 then WP E c 262 275 [a0, a1, a2, a3, a4, a5, a6, a7, a8, a9] st ah Q else WP E c 262 271 [a0, a1, a2, a3, a4, a5, a6, a7, a8, a9] st ah Q := wp_j i262_268 rfl rfl rfl rfl
theorem i262_271 : insAt 262 271 = some (.iconst 0, 272) := by decide +kernel
theorem r262_271 {E : aEnv} {c : Nat} {ah : aHp} {st : List Value} {Q : Option Value → aHp → Prop} {a0 a1 a2 a3 a4 a5 a6 a7 a8 a9 : Option Value} : WP E c 262 271 [a0, a1, a2, a3, a4, a5, a6, a7, a8, a9] (st) ah Q = WP E c 262 272 [a0, a1, a2, a3, a4, a5, a6, a7, a8, a9] (.int (0) :: st) ah Q := wp_s i262_271 rfl rfl rfl rfl
theorem i262_272 : insAt 262 272 = some (.goto 276, 275) := by decide +kernel
theorem r262_272 {E : aEnv} {c : Nat} {ah : aHp} {st : List Value} {Q : Option Value → aHp → Prop} {a0 a1 a2 a3 a4 a5 a6 a7 a8 a9 : Option Value} : WP E c 262 272 [a0, a1, a2, a3, a4, a5, a6, a7, a8, a9] (st) ah Q = WP E c 262 276 [a0, a1, a2, a3, a4, a5, a6, a7, a8, a9] st ah Q := wp_s i262_272 rfl rfl rfl rfl
theorem i262_275 : insAt 262 275 = some (.iconst 1, 276) := by decide +kernel
theorem r262_275 {E : aEnv} {c : Nat} {ah : aHp} {st : List Value} {Q : Option Value → aHp → Prop} {a0 a1 a2 a3 a4 a5 a6 a7 a8 a9 : Option Value} : WP E c 262 275 [a0, a1, a2, a3, a4, a5, a6, a7, a8, a9] (st) ah Q = WP E c 262 276 [a0, a1, a2, a3, a4, a5, a6, a7, a8, a9] (.int (1) :: st) ah Q := wp_s i262_275 rfl rfl rfl rfl
theorem i262_276 : insAt 262 276 = some (.istore 5, 278) := by decide +kernel
theorem r262_276 {E : aEnv} {c : Nat} {ah : aHp} {st : List Value} {Q : Option Value → aHp → Prop} {a0 a1 a2 a3 a4 a5 a6 a7 a8 a9 : Option Value} {x : Int32} : WP E c 262 276 [a0, a1, a2, a3, a4, a5, a6, a7, a8, a9] (.int x :: st) ah Q = WP E c 262 278 [a0, a1, a2, a3, kil a4, some (.int x), a6, a7, a8, a9] (st) ah Q := wp_s i262_276 rfl rfl rfl rfl
theorem i262_278 : insAt 262 278 = some (.iinc 6 1, 281) := by decide +kernel
theorem r262_278 {E : aEnv} {c : Nat} {ah : aHp} {st : List Value} {Q : Option Value → aHp → Prop} {a0 a1 a2 a3 a4 a5 a7 a8 a9 : Option Value} {x : Int32} : WP E c 262 278 [a0, a1, a2, a3, a4, a5, some (.int x), a7, a8, a9] (st) ah Q = WP E c 262 281 [a0, a1, a2, a3, a4, kil a5, some (.int (x + 1)), a7, a8, a9] (st) ah Q := wp_s i262_278 rfl rfl rfl rfl
theorem i262_281 : insAt 262 281 = some (.goto 182, 284) := by decide +kernel
theorem r262_281 {E : aEnv} {c : Nat} {ah : aHp} {st : List Value} {Q : Option Value → aHp → Prop} {a0 a1 a2 a3 a4 a5 a6 a7 a8 a9 : Option Value} : WP E c 262 281 [a0, a1, a2, a3, a4, a5, a6, a7, a8, a9] (st) ah Q = WP E c 262 182 [a0, a1, a2, a3, a4, a5, a6, a7, a8, a9] st ah Q := wp_s i262_281 rfl rfl rfl rfl
theorem i262_284 : insAt 262 284 = some (.aload 0, 285) := by decide +kernel
theorem r262_284 {E : aEnv} {c : Nat} {ah : aHp} {st : List Value} {Q : Option Value → aHp → Prop} {a1 a2 a3 a4 a5 a6 a7 a8 a9 : Option Value} {x : Nat} : WP E c 262 284 [some (.ref x), a1, a2, a3, a4, a5, a6, a7, a8, a9] (st) ah Q = WP E c 262 285 [some (.ref x), a1, a2, a3, a4, a5, a6, a7, a8, a9] (.ref x :: st) ah Q := wp_s i262_284 rfl rfl rfl rfl
theorem i262_285 : insAt 262 285 = some (.getfield 11672, 288) := by decide +kernel
theorem r262_285 {E : aEnv} {c : Nat} {ah : aHp} {st : List Value} {Q : Option Value → aHp → Prop} {a0 a1 a2 a3 a4 a5 a6 a7 a8 a9 : Option Value} {a : Nat} : WP E c 262 285 [a0, a1, a2, a3, a4, a5, a6, a7, a8, a9] (.ref a :: st) ah Q = WPo (oGF (hg E ah a) 11 67) (fun v => WP E c 262 288 [a0, a1, a2, a3, a4, a5, a6, a7, a8, a9] (v :: st) ah Q) := wp_getf i262_285
theorem i262_288 : insAt 262 288 = some (.iconst 0, 289) := by decide +kernel
theorem r262_288 {E : aEnv} {c : Nat} {ah : aHp} {st : List Value} {Q : Option Value → aHp → Prop} {a0 a1 a2 a3 a4 a5 a6 a7 a8 a9 : Option Value} : WP E c 262 288 [a0, a1, a2, a3, a4, a5, a6, a7, a8, a9] (st) ah Q = WP E c 262 289 [a0, a1, a2, a3, a4, a5, a6, a7, a8, a9] (.int (0) :: st) ah Q := wp_s i262_288 rfl rfl rfl rfl
theorem i262_289 : insAt 262 289 = some (.iaload, 290) := by decide +kernel
theorem r262_289 {E : aEnv} {c : Nat} {ah : aHp} {st : List Value} {Q : Option Value → aHp → Prop} {a0 a1 a2 a3 a4 a5 a6 a7 a8 a9 : Option Value} {i : Int32} {a : Nat} : WP E c 262 289 [a0, a1, a2, a3, a4, a5, a6, a7, a8, a9] (.int i :: .ref a :: st) ah Q = WPo (gI E ah (.int i :: .ref a :: st)) (fun s9 => WP E c 262 290 [a0, a1, a2, a3, a4, a5, a6, a7, a8, a9] s9 ah Q) := wp_hr i262_289 rfl rfl rfl rfl rfl rfl rfl rfl
theorem i262_290 : insAt 262 290 = some (.ireturn, 291) := by decide +kernel
theorem r262_290 {E : aEnv} {c : Nat} {ah : aHp} {Q : Option Value → aHp → Prop} {a0 a1 a2 a3 a4 a5 a6 a7 a8 a9 : Option Value} {x : Int32} : WP E c 262 290 [a0, a1, a2, a3, a4, a5, a6, a7, a8, a9] ([.int x]) ah Q = Q (some (.int x)) ah := wp_rt i262_290 rfl
