/-! ANY STEP -/
section STEPX
variable {E : aEnv} {G : aG} {c k : Nat} {p : Program} {l : Launch} {e : Env} {R : Room} {s : State} {m : MethodId} {args : Array Value} {below : List Frame} {meth : Method} {cd : Code} {Q : State → Prop}
variable {pc : Nat} {ls : aLs} {st : List Value} {ah : aHp} {z : Nat × aLs × List Value × aHp}
theorem stp {I : Instr} {npc : Nat} (C : Cx E G c k p R s m args meth cd) (hn : s.heap.size ≤ E.1 + ah.length) (hR : RM E R s z.2.2.2) (hi : insAt k pc = some (I, npc)) (h : st1 E I npc ls st ah = some z) (kk : KK E G k p l e R s m args below meth cd Q z) : KK E G k p l e R s m args below meth cd Q (pc, ls, st, ah) := by
  unfold insAt at hi
  split at hi
  · next raw n hd =>
    split at hi
    · next hl =>
      obtain ⟨I', hr, he⟩ := Option.map_eq_some_iff.mp hi
      cases he
      unfold rsv at hr
      split at hr
      · cases hr
        obtain rfl : n = 1 := by simpa [lnI] using hl
        exact w_iload_n C hd h kk
      · cases hr
        obtain rfl : n = 1 := by simpa [lnI] using hl
        exact w_lload_n C hd h kk
      · cases hr
        obtain rfl : n = 1 := by simpa [lnI] using hl
        exact w_aload_n C hd h kk
      · cases hr
        obtain rfl : n = 1 := by simpa [lnI] using hl
        exact w_istore_n C hd h kk
      · cases hr
        obtain rfl : n = 1 := by simpa [lnI] using hl
        exact w_lstore_n C hd h kk
      · cases hr
        obtain rfl : n = 1 := by simpa [lnI] using hl
        exact w_astore_n C hd h kk
      · cases hr
        obtain rfl : n = 2 := by simpa [lnI] using hl
        exact w_iload C hd h kk
      · cases hr
        obtain rfl : n = 2 := by simpa [lnI] using hl
        exact w_lload C hd h kk
      · cases hr
        obtain rfl : n = 2 := by simpa [lnI] using hl
        exact w_aload C hd h kk
      · cases hr
        obtain rfl : n = 2 := by simpa [lnI] using hl
        exact w_istore C hd h kk
      · cases hr
        obtain rfl : n = 2 := by simpa [lnI] using hl
        exact w_lstore C hd h kk
      · cases hr
        obtain rfl : n = 2 := by simpa [lnI] using hl
        exact w_astore C hd h kk
      · cases hr
        obtain rfl : n = 3 := by simpa [lnI] using hl
        exact w_iinc C hd h kk
      · cases hr
        obtain rfl : n = 1 := by simpa [lnI] using hl
        exact w_iconst C hd h kk
      · cases hr
        obtain rfl : n = 2 := by simpa [lnI] using hl
        exact w_bipush C hd h kk
      · cases hr
        obtain rfl : n = 3 := by simpa [lnI] using hl
        exact w_sipush C hd h kk
      · cases hr
        obtain rfl : n = 1 := by simpa [lnI] using hl
        exact w_lconst C hd h kk
      · obtain ⟨v, hv, he⟩ := Option.map_eq_some_iff.mp hr
        cases he
        obtain rfl : n = 3 := by simpa [lnI] using hl
        exact w_ldc2 hv C hd h kk
      · obtain rfl : n = 2 := by simpa [lnI] using hl
        split at hr
        · next v hv =>
          cases hr
          exact w_ldci hv C hd h kk
        · split at hr
          · next j hj =>
            cases hr
            exact w_ldcs hj C hd h kk
          · cases hr
      · obtain ⟨t, ht, he⟩ := Option.map_eq_some_iff.mp hr
        cases he
        obtain rfl : n = 3 := by simpa [lnI] using hl
        exact w_goto ht C hd h kk
      · next cnd o =>
        obtain ⟨t, ht, he⟩ := Option.map_eq_some_iff.mp hr
        cases he
        obtain rfl : n = 3 := by simpa [lnI] using hl
        cases cnd
        · exact w_if_eq ht C hd h kk
        · exact w_if_ne ht C hd h kk
        · exact w_if_lt ht C hd h kk
        · exact w_if_ge ht C hd h kk
        · exact w_if_gt ht C hd h kk
        · exact w_if_le ht C hd h kk
      · next cnd o =>
        obtain ⟨t, ht, he⟩ := Option.map_eq_some_iff.mp hr
        cases he
        obtain rfl : n = 3 := by simpa [lnI] using hl
        cases cnd
        · exact w_icmp_eq ht C hd h kk
        · exact w_icmp_ne ht C hd h kk
        · exact w_icmp_lt ht C hd h kk
        · exact w_icmp_ge ht C hd h kk
        · exact w_icmp_gt ht C hd h kk
        · exact w_icmp_le ht C hd h kk
      · obtain ⟨t, ht, he⟩ := Option.map_eq_some_iff.mp hr
        cases he
        obtain rfl : n = 3 := by simpa [lnI] using hl
        exact w_ifnull ht C hd h kk
      · obtain ⟨t, ht, he⟩ := Option.map_eq_some_iff.mp hr
        cases he
        obtain rfl : n = 3 := by simpa [lnI] using hl
        exact w_ifnonnull ht C hd h kk
      · split at hr
        · next hz =>
          cases hr
          exact w_table hz.1 hz.2 C hd h kk
        · cases hr
      · obtain ⟨q, hq, he⟩ := Option.map_eq_some_iff.mp hr
        cases he
        obtain rfl : n = 3 := by simpa [lnI] using hl
        exact w_getfield hq C hd h kk
      · obtain rfl : n = 3 := by simpa [lnI] using hl
        split at hr
        · next q hq =>
          split at hr
          · next hf =>
            cases hr
            exact w_putfield hq hf C hd h kk
          · cases hr
        · cases hr
      · obtain ⟨q, hq, he⟩ := Option.map_eq_some_iff.mp hr
        cases he
        obtain rfl : n = 3 := by simpa [lnI] using hl
        exact w_getstatic hq C hd h kk
      · obtain ⟨q, hq, he⟩ := Option.map_eq_some_iff.mp hr
        cases he
        obtain rfl : n = 3 := by simpa [lnI] using hl
        exact w_new hq C hn hR hd h kk
      · obtain rfl : n = 3 := by simpa [lnI] using hl
        split at hr
        · next hq =>
          cases hr
          exact w_anewarray (Or.inl ⟨hq, rfl⟩) C hn hR hd h kk
        · next hq =>
          cases hr
          exact w_anewarray (Or.inr ⟨hq, rfl⟩) C hn hR hd h kk
        · cases hr
      · split at hr
        · next hq =>
          cases hr
          obtain rfl : n = 4 := by simpa [lnI] using hl
          exact w_multi hq C hn hR hd h kk
        · cases hr
      · split at hr
        · cases hr; exact (by have h0 : (none : Option (Nat × aLs × List Value × aHp)) = some z := h; cases h0)
        · cases hr
        · split at hr
          · split at hr
            · cases hr; exact (by have h0 : (none : Option (Nat × aLs × List Value × aHp)) = some z := h; cases h0)
            · cases hr
          · cases hr
      · split at hr
        · cases hr; exact (by have h0 : (none : Option (Nat × aLs × List Value × aHp)) = some z := h; cases h0)
        · cases hr; exact (by have h0 : (none : Option (Nat × aLs × List Value × aHp)) = some z := h; cases h0)
        · cases hr
        · split at hr
          · split at hr
            · cases hr; exact (by have h0 : (none : Option (Nat × aLs × List Value × aHp)) = some z := h; cases h0)
            · cases hr
          · cases hr
      · split at hr
        · cases hr; exact (by have h0 : (none : Option (Nat × aLs × List Value × aHp)) = some z := h; cases h0)
        · cases hr
        · split at hr
          · split at hr
            · cases hr; exact (by have h0 : (none : Option (Nat × aLs × List Value × aHp)) = some z := h; cases h0)
            · cases hr
          · cases hr
      · split at hr
        · cases hr; exact (by have h0 : (none : Option (Nat × aLs × List Value × aHp)) = some z := h; cases h0)
        · split at hr
          · cases hr; exact (by have h0 : (none : Option (Nat × aLs × List Value × aHp)) = some z := h; cases h0)
          · cases hr
      · split at hr
        · cases hr; exact (by have h0 : (none : Option (Nat × aLs × List Value × aHp)) = some z := h; cases h0)
        · cases hr
      · split at hr
        · cases hr; exact (by have h0 : (none : Option (Nat × aLs × List Value × aHp)) = some z := h; cases h0)
        · cases hr; exact (by have h0 : (none : Option (Nat × aLs × List Value × aHp)) = some z := h; cases h0)
        · cases hr
      · split at hr
        · cases hr; exact (by have h0 : (none : Option (Nat × aLs × List Value × aHp)) = some z := h; cases h0)
        · cases hr
      · cases hr
        obtain rfl : n = 2 := by simpa [lnI] using hl
        exact w_newarray C hn hR hd h kk
      · cases hr
        obtain rfl : n = 1 := by simpa [lnI] using hl
        exact w_null C hd h kk
      · cases hr
        obtain rfl : n = 1 := by simpa [lnI] using hl
        exact w_iadd C hd h kk
      · cases hr
        obtain rfl : n = 1 := by simpa [lnI] using hl
        exact w_isub C hd h kk
      · cases hr
        obtain rfl : n = 1 := by simpa [lnI] using hl
        exact w_imul C hd h kk
      · cases hr
        obtain rfl : n = 1 := by simpa [lnI] using hl
        exact w_iand C hd h kk
      · cases hr
        obtain rfl : n = 1 := by simpa [lnI] using hl
        exact w_ior C hd h kk
      · cases hr
        obtain rfl : n = 1 := by simpa [lnI] using hl
        exact w_idiv C hd h kk
      · cases hr
        obtain rfl : n = 1 := by simpa [lnI] using hl
        exact w_irem C hd h kk
      · cases hr
        obtain rfl : n = 1 := by simpa [lnI] using hl
        exact w_ineg C hd h kk
      · cases hr
        obtain rfl : n = 1 := by simpa [lnI] using hl
        exact w_ishl C hd h kk
      · cases hr
        obtain rfl : n = 1 := by simpa [lnI] using hl
        exact w_ishr C hd h kk
      · cases hr
        obtain rfl : n = 1 := by simpa [lnI] using hl
        exact w_i2b C hd h kk
      · cases hr
        obtain rfl : n = 1 := by simpa [lnI] using hl
        exact w_i2s C hd h kk
      · cases hr
        obtain rfl : n = 1 := by simpa [lnI] using hl
        exact w_i2l C hd h kk
      · cases hr
        obtain rfl : n = 1 := by simpa [lnI] using hl
        exact w_l2i C hd h kk
      · cases hr
        obtain rfl : n = 1 := by simpa [lnI] using hl
        exact w_ladd C hd h kk
      · cases hr
        obtain rfl : n = 1 := by simpa [lnI] using hl
        exact w_lsub C hd h kk
      · cases hr
        obtain rfl : n = 1 := by simpa [lnI] using hl
        exact w_lmul C hd h kk
      · cases hr
        obtain rfl : n = 1 := by simpa [lnI] using hl
        exact w_land C hd h kk
      · cases hr
        obtain rfl : n = 1 := by simpa [lnI] using hl
        exact w_lor C hd h kk
      · cases hr
        obtain rfl : n = 1 := by simpa [lnI] using hl
        exact w_lxor C hd h kk
      · cases hr
        obtain rfl : n = 1 := by simpa [lnI] using hl
        exact w_ldiv C hd h kk
      · cases hr
        obtain rfl : n = 1 := by simpa [lnI] using hl
        exact w_lrem C hd h kk
      · cases hr
        obtain rfl : n = 1 := by simpa [lnI] using hl
        exact w_lneg C hd h kk
      · cases hr
        obtain rfl : n = 1 := by simpa [lnI] using hl
        exact w_lshl C hd h kk
      · cases hr
        obtain rfl : n = 1 := by simpa [lnI] using hl
        exact w_lcmp C hd h kk
      · cases hr
        obtain rfl : n = 1 := by simpa [lnI] using hl
        exact w_dup C hd h kk
      · cases hr
        obtain rfl : n = 1 := by simpa [lnI] using hl
        exact w_dup2 C hd h kk
      · cases hr
        obtain rfl : n = 1 := by simpa [lnI] using hl
        exact w_pop C hd h kk
      · cases hr
        obtain rfl : n = 1 := by simpa [lnI] using hl
        exact w_iaload C hd h kk
      · cases hr
        obtain rfl : n = 1 := by simpa [lnI] using hl
        exact w_laload C hd h kk
      · cases hr
        obtain rfl : n = 1 := by simpa [lnI] using hl
        exact w_baload C hd h kk
      · cases hr
        obtain rfl : n = 1 := by simpa [lnI] using hl
        exact w_aaload C hd h kk
      · cases hr
        obtain rfl : n = 1 := by simpa [lnI] using hl
        exact w_iastore C hd h kk
      · cases hr
        obtain rfl : n = 1 := by simpa [lnI] using hl
        exact w_lastore C hd h kk
      · cases hr
        obtain rfl : n = 1 := by simpa [lnI] using hl
        exact w_bastore C hd h kk
      · cases hr
        obtain rfl : n = 1 := by simpa [lnI] using hl
        exact w_aastore C hd h kk
      · cases hr
        obtain rfl : n = 1 := by simpa [lnI] using hl
        exact w_alen C hd h kk
      · cases hr
    · cases hi
  · cases hi
end STEPX
