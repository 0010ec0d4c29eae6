section
variable {p : Program} {l : Launch} {e : Env} {s : State} {m : MethodId} {args : Array Value} {below : List Frame} {meth : Method} {c : Code} {D : va_G} {ac : Nat → ClassId} {z : Nat} {aK aV : Nat → Nat} {K : Nat}

theorem c_X2_add {K : Nat}  (hK : 0 ≤ K) {σ : Mem} {σf : Mem} {v1 : Int32} (h : f_X2_add σ v1 = some σf) : MC l D (Ec ac z) inC z ac (z, aK, aV) (Ac z) yX2_add cX2_add 2 none K [.ref (z + 9), .int v1] σ none σf := by
  refine MC.of (fun q hq => by have := hq.1; show z ≤ q; omega) (plainFor_of_name (by decide)) (Nat.le_of_ble_eq_true rfl) ?_
  intro p e s m below meth c args C hW ls hl
  replace hl : lv_has ls 2 [(0, .ref (z + 9)), (1, .int v1)] := hl
  have hS : va_S (Ac z) s.heap s.heap [] := va_S.rf
  have hx := C.1.1
  have hb := C.1.2.1
  unfold f_X2_add at h
  refine lv_aload_n (pc := 0) hx hb dX2_add_0 rfl (lv_at hl 0 rfl) ?_
  refine gf_X2_1 (pc := 1) C hW kdc_9 fl_X2_27 dX2_add_1 ?_
  refine lv_if_lt (pc := 4) (tgt := 39) hx hb dX2_add_4 (by decide) (fun hc0 => ?_) (fun hc0 => ?_)
  · replace h := o_pos hc0 h
    exact g_vret (pc := 39) C hW hS dX2_add_39 rfl (Option.some.inj h).symm
  · replace h := o_neg hc0 h
    refine lv_aload_n (pc := 7) hx hb dX2_add_7 rfl (lv_at hl 0 rfl) ?_
    refine gf_X2_1 (pc := 8) C hW kdc_9 fl_X2_27 dX2_add_8 ?_
    refine lv_aload_n (pc := 11) hx hb dX2_add_11 rfl (lv_at hl 0 rfl) ?_
    refine gf_X2_0 (pc := 12) C hW kdc_9 fl_X2_9 dX2_add_12 ?_
    refine ia_len (pc := 15) (v := 160) C hW kdc_10 (by rw [alc_10]; decide) dX2_add_15 ?_
    refine lv_icmp_ge (pc := 16) (tgt := 39) hx hb dX2_add_16 (by decide) (fun hc1 => ?_) (fun hc1 => ?_)
    · replace h := o_pos hc1 h
      exact g_vret (pc := 39) C hW hS dX2_add_39 rfl (Option.some.inj h).symm
    · replace h := o_neg hc1 h
      refine lv_aload_n (pc := 19) hx hb dX2_add_19 rfl (lv_at hl 0 rfl) ?_
      refine gf_X2_0 (pc := 20) C hW kdc_9 fl_X2_9 dX2_add_20 ?_
      refine lv_aload_n (pc := 23) hx hb dX2_add_23 rfl (lv_at hl 0 rfl) ?_
      refine gf_X2_1 (pc := 24) C hW kdc_9 fl_X2_27 dX2_add_24 ?_
      refine lv_iload_n (pc := 27) hx hb dX2_add_27 rfl (lv_at hl 1 rfl) ?_
      obtain ⟨hc2, h⟩ := o_chk h
      refine ia_st (pc := 28) C hW hS kdc_10 alc_10 rfl (inb_in hc2) dX2_add_28 (fun H locs hW hS => ?_)
      refine lv_aload_n (pc := 29) hx hb dX2_add_29 rfl (lv_at hl 0 rfl) ?_
      refine lv_dup (pc := 30) hx hb dX2_add_30 rfl ?_
      refine gf_X2_1 (pc := 31) C hW kdc_9 fl_X2_27 dX2_add_31 ?_
      refine lv_iconst (pc := 34) (v := 1) hx hb dX2_add_34 (by decide) ?_
      refine lv_iadd (pc := 35) hx hb dX2_add_35 ?_
      refine pf_X2_1 (pc := 36) C hW hS kdc_9 fl_X2_27 dX2_add_36 (fun H locs hW hS => ?_)
      obtain ⟨σ4, hσ4, h⟩ := o_d h
      replace hW : WC D ac z σ4 H := by rw [← hσ4]; exact hW
      exact g_vret (pc := 39) C hW hS dX2_add_39 rfl (Option.some.inj h).symm

theorem c_X2_byteAt {K : Nat}  (hK : 0 ≤ K) {σ : Mem} {v1 : Int32} {r : Int32} (h : f_X2_byteAt σ v1 = some r) : MC l D (Ec ac z) inC z ac (z, aK, aV) (Ac z) yX2_byteAt cX2_byteAt 2 (some .int) K [.ref (z + 9), .int v1] σ (some (.int r)) σ := by
  refine MC.of (fun q hq => by have := hq.1; show z ≤ q; omega) (plainFor_of_name (by decide)) (Nat.le_of_ble_eq_true rfl) ?_
  intro p e s m below meth c args C hW ls hl
  replace hl : lv_has ls 2 [(0, .ref (z + 9)), (1, .int v1)] := hl
  have hS : va_S (Ac z) s.heap s.heap [] := va_S.rf
  have hx := C.1.1
  have hb := C.1.2.1
  unfold f_X2_byteAt at h
  refine lv_iload_n (pc := 0) hx hb dX2_byteAt_0 rfl (lv_at hl 1 rfl) ?_
  refine lv_if_lt (pc := 1) (tgt := 30) hx hb dX2_byteAt_1 (by decide) (fun hc0 => ?_) (fun hc0 => ?_)
  · replace h := o_pos hc0 h
    refine lv_iconst (pc := 30) (v := -1) hx hb dX2_byteAt_30 (by decide) ?_
    exact g_ret (pc := 31) C hW hS rfl dX2_byteAt_31 (congrArg (fun q => some (Value.int q)) (Option.some.inj h).symm) rfl
  · replace h := o_neg hc0 h
    refine lv_iload_n (pc := 4) hx hb dX2_byteAt_4 rfl (lv_at hl 1 rfl) ?_
    refine lv_aload_n (pc := 5) hx hb dX2_byteAt_5 rfl (lv_at hl 0 rfl) ?_
    refine gf_X2_1 (pc := 6) C hW kdc_9 fl_X2_27 dX2_byteAt_6 ?_
    refine lv_icmp_ge (pc := 9) (tgt := 30) hx hb dX2_byteAt_9 (by decide) (fun hc1 => ?_) (fun hc1 => ?_)
    · replace h := o_pos hc1 h
      refine lv_iconst (pc := 30) (v := -1) hx hb dX2_byteAt_30 (by decide) ?_
      exact g_ret (pc := 31) C hW hS rfl dX2_byteAt_31 (congrArg (fun q => some (Value.int q)) (Option.some.inj h).symm) rfl
    · replace h := o_neg hc1 h
      refine lv_iload_n (pc := 12) hx hb dX2_byteAt_12 rfl (lv_at hl 1 rfl) ?_
      refine lv_aload_n (pc := 13) hx hb dX2_byteAt_13 rfl (lv_at hl 0 rfl) ?_
      refine gf_X2_0 (pc := 14) C hW kdc_9 fl_X2_9 dX2_byteAt_14 ?_
      refine ia_len (pc := 17) (v := 160) C hW kdc_10 (by rw [alc_10]; decide) dX2_byteAt_17 ?_
      refine lv_icmp_ge (pc := 18) (tgt := 30) hx hb dX2_byteAt_18 (by decide) (fun hc2 => ?_) (fun hc2 => ?_)
      · replace h := o_pos hc2 h
        refine lv_iconst (pc := 30) (v := -1) hx hb dX2_byteAt_30 (by decide) ?_
        exact g_ret (pc := 31) C hW hS rfl dX2_byteAt_31 (congrArg (fun q => some (Value.int q)) (Option.some.inj h).symm) rfl
      · replace h := o_neg hc2 h
        refine lv_aload_n (pc := 21) hx hb dX2_byteAt_21 rfl (lv_at hl 0 rfl) ?_
        refine gf_X2_0 (pc := 22) C hW kdc_9 fl_X2_9 dX2_byteAt_22 ?_
        refine lv_iload_n (pc := 25) hx hb dX2_byteAt_25 rfl (lv_at hl 1 rfl) ?_
        obtain ⟨hc3, h⟩ := o_chk h
        refine ia_ld (pc := 26) C hW kdc_10 alc_10 rfl (inb_in hc3) dX2_byteAt_26 ?_
        refine lv_goto (pc := 27) (tgt := 31) hx hb dX2_byteAt_27 (by decide) ?_
        exact g_ret (pc := 31) C hW hS rfl dX2_byteAt_31 (congrArg (fun q => some (Value.int q)) (Option.some.inj h).symm) rfl

theorem c_X2_isLetter {K : Nat}  (hK : 0 ≤ K) {σ : Mem} {v0 : Int32} {r : Int32} (h : f_X2_isLetter v0 = r) : MC l D (Ec ac z) inC z ac (z, aK, aV) (Ac z) yX2_isLetter cX2_isLetter 1 (some .boolean) K [.int v0] σ (some (.int r)) σ := by
  refine MC.of (fun q hq => by have := hq.1; show z ≤ q; omega) (plainFor_of_name (by decide)) (Nat.le_of_ble_eq_true rfl) ?_
  intro p e s m below meth c args C hW ls hl
  replace hl : lv_has ls 1 [(0, .int v0)] := hl
  have hS : va_S (Ac z) s.heap s.heap [] := va_S.rf
  have hx := C.1.1
  have hb := C.1.2.1
  unfold f_X2_isLetter at h
  refine lv_iload_n (pc := 0) hx hb dX2_isLetter_0 rfl (lv_at hl 0 rfl) ?_
  refine lv_bipush (pc := 1) (v := 97) hx hb dX2_isLetter_1 (by decide) ?_
  refine lv_icmp_lt (pc := 3) (tgt := 16) hx hb dX2_isLetter_3 (by decide) (fun hc0 => ?_) (fun hc0 => ?_)
  · replace h := o_pos hc0 h
    refine lv_iconst (pc := 16) (v := 0) hx hb dX2_isLetter_16 (by decide) ?_
    exact g_ret (pc := 17) C hW hS rfl dX2_isLetter_17 (congrArg (fun q => some (Value.int q)) h.symm) rfl
  · replace h := o_neg hc0 h
    refine lv_iload_n (pc := 6) hx hb dX2_isLetter_6 rfl (lv_at hl 0 rfl) ?_
    refine lv_bipush (pc := 7) (v := 122) hx hb dX2_isLetter_7 (by decide) ?_
    refine lv_icmp_gt (pc := 9) (tgt := 16) hx hb dX2_isLetter_9 (by decide) (fun hc1 => ?_) (fun hc1 => ?_)
    · replace h := o_pos hc1 h
      refine lv_iconst (pc := 16) (v := 0) hx hb dX2_isLetter_16 (by decide) ?_
      exact g_ret (pc := 17) C hW hS rfl dX2_isLetter_17 (congrArg (fun q => some (Value.int q)) h.symm) rfl
    · replace h := o_neg hc1 h
      refine lv_iconst (pc := 12) (v := 1) hx hb dX2_isLetter_12 (by decide) ?_
      refine lv_goto (pc := 13) (tgt := 17) hx hb dX2_isLetter_13 (by decide) ?_
      exact g_ret (pc := 17) C hW hS rfl dX2_isLetter_17 (congrArg (fun q => some (Value.int q)) h.symm) rfl

theorem w_X2_endOfWord_b4 (C : CX cX2_endOfWord 4 RX2 (some .int) D ac p m c s args meth (z, aK, aV) (Ac z)) (hK : 1 ≤ K) {r : Int32}   (σ : Mem)  : ∀ (n : Nat) (v2 : Int32) (v3 : Int32) {H : Heap} {locs : List Loc} {ls : Array Slot} (hW : WC D ac z σ H) (hS : va_S (Ac z) s.heap H locs) (hl : lv_has ls 4 [(0, .ref (z + 9)), (2, .int v2), (3, .int v3)]) (h : f_X2_endOfWord_b4 σ n v2 v3 = some r), W p l e (rma K 0 0) s m args below meth c H locs 0 0 (MQ below (QV D (Ec ac z) inC z (some (.int r)) σ (Ac z)) args s 0 0 (Ac z)) (F0 m 4 ls []) := by
  have hx := C.1.1
  have hb := C.1.2.1
  intro n
  induction n with
  | zero =>
    intro v2 v3 H locs ls  hW hS hl h
    cases h
  | succ n ih =>
    intro v2 v3 H locs ls  hW hS hl h
    rw [f_X2_endOfWord_b4.eq_2] at h
    refine lv_iload_n (pc := 4) hx hb dX2_endOfWord_4 rfl (lv_at hl 2 rfl) ?_
    refine lv_sipush (pc := 5) (v := 160) hx hb dX2_endOfWord_5 (by decide) ?_
    refine lv_icmp_ge (pc := 8) (tgt := 31) hx hb dX2_endOfWord_8 (by decide) (fun hc0 => ?_) (fun hc0 => ?_)
    · replace h := o_pos hc0 h
      refine lv_iload_n (pc := 31) hx hb dX2_endOfWord_31 rfl (lv_at hl 1 rfl) ?_
      exact g_ret (pc := 32) C hW hS rfl dX2_endOfWord_32 (congrArg (fun q => some (Value.int q)) (Option.some.inj h).symm) rfl
    · replace h := o_neg hc0 h
      refine lv_aload_n (pc := 11) hx hb dX2_endOfWord_11 rfl (lv_at hl 0 rfl) ?_
      refine lv_iload_n (pc := 12) hx hb dX2_endOfWord_12 rfl (lv_at hl 1 rfl) ?_
      obtain ⟨r3, hc1, h⟩ := o_b h
      refine g_virt (pc := 13) (st2 := [.int r3]) (rest := []) C hW hS (c_X2_byteAt (K := K - 1) (by omega) hc1) mw_X2_57 (kin_5 kdc_9) (Ek_5 kdc_9) rfl (hRoom (by omega) (by decide)) rfl rfl rfl (Nat.le_of_ble_eq_true rfl) hl.1 dX2_endOfWord_13 (fun H locs hW hS => ?_)
      refine g_stat (pc := 16) (st2 := [.int (f_X2_isLetter r3)]) (rest := []) C hW hS (c_X2_isLetter (K := K - 1) (by omega) rfl) mw_X2_61 (hRoom (by omega) (by decide)) rfl rfl rfl (Nat.le_of_ble_eq_true rfl) hl.1 dX2_endOfWord_16 (fun H locs hW hS => ?_)
      refine lv_if_eq (pc := 19) (tgt := 31) hx hb dX2_endOfWord_19 (by decide) (fun hc3 => ?_) (fun hc3 => ?_)
      · replace h := o_pos hc3 h
        refine lv_iload_n (pc := 31) hx hb dX2_endOfWord_31 rfl (lv_at hl 1 rfl) ?_
        exact g_ret (pc := 32) C hW hS rfl dX2_endOfWord_32 (congrArg (fun q => some (Value.int q)) (Option.some.inj h).symm) rfl
      · replace h := o_neg hc3 h
        refine lv_iinc (pc := 22) (v := (v2 + 1)) (lv' := [(2, .int (v2 + 1)), (0, .ref (z + 9)), (3, .int v3)]) hx hb dX2_endOfWord_22 hl (k := 1) rfl rfl (by decide) rfl (fun ls hl => ?_)
        refine lv_iinc (pc := 25) (v := (v3 + 1)) (lv' := [(3, .int (v3 + 1)), (2, .int (v2 + 1)), (0, .ref (z + 9))]) hx hb dX2_endOfWord_25 hl (k := 2) rfl rfl (by decide) rfl (fun ls hl => ?_)
        refine lv_goto (pc := 28) (tgt := 4) hx hb dX2_endOfWord_28 (by decide) ?_
        exact ih (v2 + 1) (v3 + 1) hW hS (lv_sub hl [2, 1, 0] rfl) h

theorem c_X2_endOfWord {K : Nat}  (hK : 1 ≤ K) {σ : Mem} {v1 : Int32} {r : Int32} (h : f_X2_endOfWord σ v1 = some r) : MC l D (Ec ac z) inC z ac (z, aK, aV) (Ac z) yX2_endOfWord cX2_endOfWord 4 (some .int) K [.ref (z + 9), .int v1] σ (some (.int r)) σ := by
  refine MC.of (fun q hq => by have := hq.1; show z ≤ q; omega) (plainFor_of_name (by decide)) (Nat.le_of_ble_eq_true rfl) ?_
  intro p e s m below meth c args C hW ls hl
  replace hl : lv_has ls 4 [(0, .ref (z + 9)), (1, .int v1)] := hl
  have hS : va_S (Ac z) s.heap s.heap [] := va_S.rf
  have hx := C.1.1
  have hb := C.1.2.1
  unfold f_X2_endOfWord at h
  refine lv_iload_n (pc := 0) hx hb dX2_endOfWord_0 rfl (lv_at hl 1 rfl) ?_
  refine lv_istore_n (pc := 1) (lv' := [(2, .int v1), (0, .ref (z + 9)), (1, .int v1)]) hx hb dX2_endOfWord_1 rfl hl (by decide) rfl (fun ls hl => ?_)
  refine lv_iconst (pc := 2) (v := 0) hx hb dX2_endOfWord_2 (by decide) ?_
  refine lv_istore_n (pc := 3) (lv' := [(3, .int (0 : Int32)), (2, .int v1), (0, .ref (z + 9)), (1, .int v1)]) hx hb dX2_endOfWord_3 rfl hl (by decide) rfl (fun ls hl => ?_)
  exact w_X2_endOfWord_b4 C hK σ FU v1 (0 : Int32) hW hS (lv_sub hl [2, 1, 0] rfl) h

theorem c_X2_addToken {K : Nat}  (hK : 0 ≤ K) {σ : Mem} {σf : Mem} {v1 : Int32} {v2 : Int32} (h : f_X2_addToken σ v1 v2 = some σf) : MC l D (Ec ac z) inC z ac (z, aK, aV) (Ac z) yX2_addToken cX2_addToken 3 none K [.ref (z + 9), .int v1, .int v2] σ none σf := by
  refine MC.of (fun q hq => by have := hq.1; show z ≤ q; omega) (plainFor_of_name (by decide)) (Nat.le_of_ble_eq_true rfl) ?_
  intro p e s m below meth c args C hW ls hl
  replace hl : lv_has ls 3 [(0, .ref (z + 9)), (1, .int v1), (2, .int v2)] := hl
  have hS : va_S (Ac z) s.heap s.heap [] := va_S.rf
  have hx := C.1.1
  have hb := C.1.2.1
  unfold f_X2_addToken at h
  refine lv_aload_n (pc := 0) hx hb dX2_addToken_0 rfl (lv_at hl 0 rfl) ?_
  refine gf_X2_4 (pc := 1) C hW kdc_9 fl_X2_54 dX2_addToken_1 ?_
  refine lv_if_lt (pc := 4) (tgt := 61) hx hb dX2_addToken_4 (by decide) (fun hc0 => ?_) (fun hc0 => ?_)
  · replace h := o_pos hc0 h
    exact g_vret (pc := 61) C hW hS dX2_addToken_61 rfl (Option.some.inj h).symm
  · replace h := o_neg hc0 h
    refine lv_aload_n (pc := 7) hx hb dX2_addToken_7 rfl (lv_at hl 0 rfl) ?_
    refine gf_X2_4 (pc := 8) C hW kdc_9 fl_X2_54 dX2_addToken_8 ?_
    refine lv_aload_n (pc := 11) hx hb dX2_addToken_11 rfl (lv_at hl 0 rfl) ?_
    refine gf_X2_2 (pc := 12) C hW kdc_9 fl_X2_15 dX2_addToken_12 ?_
    refine ia_len (pc := 15) (v := 161) C hW kdc_11 (by rw [alc_11]; decide) dX2_addToken_15 ?_
    refine lv_icmp_ge (pc := 16) (tgt := 61) hx hb dX2_addToken_16 (by decide) (fun hc1 => ?_) (fun hc1 => ?_)
    · replace h := o_pos hc1 h
      exact g_vret (pc := 61) C hW hS dX2_addToken_61 rfl (Option.some.inj h).symm
    · replace h := o_neg hc1 h
      refine lv_aload_n (pc := 19) hx hb dX2_addToken_19 rfl (lv_at hl 0 rfl) ?_
      refine gf_X2_4 (pc := 20) C hW kdc_9 fl_X2_54 dX2_addToken_20 ?_
      refine lv_aload_n (pc := 23) hx hb dX2_addToken_23 rfl (lv_at hl 0 rfl) ?_
      refine gf_X2_3 (pc := 24) C hW kdc_9 fl_X2_18 dX2_addToken_24 ?_
      refine ia_len (pc := 27) (v := 161) C hW kdc_12 (by rw [alc_12]; decide) dX2_addToken_27 ?_
      refine lv_icmp_ge (pc := 28) (tgt := 61) hx hb dX2_addToken_28 (by decide) (fun hc2 => ?_) (fun hc2 => ?_)
      · replace h := o_pos hc2 h
        exact g_vret (pc := 61) C hW hS dX2_addToken_61 rfl (Option.some.inj h).symm
      · replace h := o_neg hc2 h
        refine lv_aload_n (pc := 31) hx hb dX2_addToken_31 rfl (lv_at hl 0 rfl) ?_
        refine gf_X2_2 (pc := 32) C hW kdc_9 fl_X2_15 dX2_addToken_32 ?_
        refine lv_aload_n (pc := 35) hx hb dX2_addToken_35 rfl (lv_at hl 0 rfl) ?_
        refine gf_X2_4 (pc := 36) C hW kdc_9 fl_X2_54 dX2_addToken_36 ?_
        refine lv_iload_n (pc := 39) hx hb dX2_addToken_39 rfl (lv_at hl 1 rfl) ?_
        obtain ⟨hc3, h⟩ := o_chk h
        refine ia_st (pc := 40) C hW hS kdc_11 alc_11 rfl (inb_in hc3) dX2_addToken_40 (fun H locs hW hS => ?_)
        refine lv_aload_n (pc := 41) hx hb dX2_addToken_41 rfl (lv_at hl 0 rfl) ?_
        refine gf_X2_3 (pc := 42) C hW kdc_9 fl_X2_18 dX2_addToken_42 ?_
        refine lv_aload_n (pc := 45) hx hb dX2_addToken_45 rfl (lv_at hl 0 rfl) ?_
        refine gf_X2_4 (pc := 46) C hW kdc_9 fl_X2_54 dX2_addToken_46 ?_
        refine lv_iload_n (pc := 49) hx hb dX2_addToken_49 rfl (lv_at hl 2 rfl) ?_
        obtain ⟨hc4, h⟩ := o_chk h
        refine ia_st (pc := 50) C hW hS kdc_12 alc_12 rfl (inb_in hc4) dX2_addToken_50 (fun H locs hW hS => ?_)
        obtain ⟨σ6, hσ6, h⟩ := o_d h
        replace hW : WC D ac z σ6 H := by rw [← hσ6]; exact hW
        refine lv_aload_n (pc := 51) hx hb dX2_addToken_51 rfl (lv_at hl 0 rfl) ?_
        refine lv_dup (pc := 52) hx hb dX2_addToken_52 rfl ?_
        refine gf_X2_4 (pc := 53) C hW kdc_9 fl_X2_54 dX2_addToken_53 ?_
        refine lv_iconst (pc := 56) (v := 1) hx hb dX2_addToken_56 (by decide) ?_
        refine lv_iadd (pc := 57) hx hb dX2_addToken_57 ?_
        refine pf_X2_4 (pc := 58) C hW hS kdc_9 fl_X2_54 dX2_addToken_58 (fun H locs hW hS => ?_)
        exact g_vret (pc := 61) C hW hS dX2_addToken_61 rfl (Option.some.inj h).symm

theorem c_X2_isDigit {K : Nat}  (hK : 0 ≤ K) {σ : Mem} {v0 : Int32} {r : Int32} (h : f_X2_isDigit v0 = r) : MC l D (Ec ac z) inC z ac (z, aK, aV) (Ac z) yX2_isDigit cX2_isDigit 1 (some .boolean) K [.int v0] σ (some (.int r)) σ := by
  refine MC.of (fun q hq => by have := hq.1; show z ≤ q; omega) (plainFor_of_name (by decide)) (Nat.le_of_ble_eq_true rfl) ?_
  intro p e s m below meth c args C hW ls hl
  replace hl : lv_has ls 1 [(0, .int v0)] := hl
  have hS : va_S (Ac z) s.heap s.heap [] := va_S.rf
  have hx := C.1.1
  have hb := C.1.2.1
  unfold f_X2_isDigit at h
  refine lv_iload_n (pc := 0) hx hb dX2_isDigit_0 rfl (lv_at hl 0 rfl) ?_
  refine lv_bipush (pc := 1) (v := 48) hx hb dX2_isDigit_1 (by decide) ?_
  refine lv_icmp_lt (pc := 3) (tgt := 16) hx hb dX2_isDigit_3 (by decide) (fun hc0 => ?_) (fun hc0 => ?_)
  · replace h := o_pos hc0 h
    refine lv_iconst (pc := 16) (v := 0) hx hb dX2_isDigit_16 (by decide) ?_
    exact g_ret (pc := 17) C hW hS rfl dX2_isDigit_17 (congrArg (fun q => some (Value.int q)) h.symm) rfl
  · replace h := o_neg hc0 h
    refine lv_iload_n (pc := 6) hx hb dX2_isDigit_6 rfl (lv_at hl 0 rfl) ?_
    refine lv_bipush (pc := 7) (v := 57) hx hb dX2_isDigit_7 (by decide) ?_
    refine lv_icmp_gt (pc := 9) (tgt := 16) hx hb dX2_isDigit_9 (by decide) (fun hc1 => ?_) (fun hc1 => ?_)
    · replace h := o_pos hc1 h
      refine lv_iconst (pc := 16) (v := 0) hx hb dX2_isDigit_16 (by decide) ?_
      exact g_ret (pc := 17) C hW hS rfl dX2_isDigit_17 (congrArg (fun q => some (Value.int q)) h.symm) rfl
    · replace h := o_neg hc1 h
      refine lv_iconst (pc := 12) (v := 1) hx hb dX2_isDigit_12 (by decide) ?_
      refine lv_goto (pc := 13) (tgt := 17) hx hb dX2_isDigit_13 (by decide) ?_
      exact g_ret (pc := 17) C hW hS rfl dX2_isDigit_17 (congrArg (fun q => some (Value.int q)) h.symm) rfl

theorem w_X2_endOfNumber_b4 (C : CX cX2_endOfNumber 4 RX2 (some .int) D ac p m c s args meth (z, aK, aV) (Ac z)) (hK : 1 ≤ K) {r : Int32}   (σ : Mem)  : ∀ (n : Nat) (v2 : Int32) (v3 : Int32) {H : Heap} {locs : List Loc} {ls : Array Slot} (hW : WC D ac z σ H) (hS : va_S (Ac z) s.heap H locs) (hl : lv_has ls 4 [(0, .ref (z + 9)), (2, .int v2), (3, .int v3)]) (h : f_X2_endOfNumber_b4 σ n v2 v3 = some r), W p l e (rma K 0 0) s m args below meth c H locs 0 0 (MQ below (QV D (Ec ac z) inC z (some (.int r)) σ (Ac z)) args s 0 0 (Ac z)) (F0 m 4 ls []) := by
  have hx := C.1.1
  have hb := C.1.2.1
  intro n
  induction n with
  | zero =>
    intro v2 v3 H locs ls  hW hS hl h
    cases h
  | succ n ih =>
    intro v2 v3 H locs ls  hW hS hl h
    rw [f_X2_endOfNumber_b4.eq_2] at h
    refine lv_iload_n (pc := 4) hx hb dX2_endOfNumber_4 rfl (lv_at hl 2 rfl) ?_
    refine lv_sipush (pc := 5) (v := 160) hx hb dX2_endOfNumber_5 (by decide) ?_
    refine lv_icmp_ge (pc := 8) (tgt := 31) hx hb dX2_endOfNumber_8 (by decide) (fun hc0 => ?_) (fun hc0 => ?_)
    · replace h := o_pos hc0 h
      refine lv_iload_n (pc := 31) hx hb dX2_endOfNumber_31 rfl (lv_at hl 1 rfl) ?_
      exact g_ret (pc := 32) C hW hS rfl dX2_endOfNumber_32 (congrArg (fun q => some (Value.int q)) (Option.some.inj h).symm) rfl
    · replace h := o_neg hc0 h
      refine lv_aload_n (pc := 11) hx hb dX2_endOfNumber_11 rfl (lv_at hl 0 rfl) ?_
      refine lv_iload_n (pc := 12) hx hb dX2_endOfNumber_12 rfl (lv_at hl 1 rfl) ?_
      obtain ⟨r3, hc1, h⟩ := o_b h
      refine g_virt (pc := 13) (st2 := [.int r3]) (rest := []) C hW hS (c_X2_byteAt (K := K - 1) (by omega) hc1) mw_X2_57 (kin_5 kdc_9) (Ek_5 kdc_9) rfl (hRoom (by omega) (by decide)) rfl rfl rfl (Nat.le_of_ble_eq_true rfl) hl.1 dX2_endOfNumber_13 (fun H locs hW hS => ?_)
      refine g_stat (pc := 16) (st2 := [.int (f_X2_isDigit r3)]) (rest := []) C hW hS (c_X2_isDigit (K := K - 1) (by omega) rfl) mw_X2_76 (hRoom (by omega) (by decide)) rfl rfl rfl (Nat.le_of_ble_eq_true rfl) hl.1 dX2_endOfNumber_16 (fun H locs hW hS => ?_)
      refine lv_if_eq (pc := 19) (tgt := 31) hx hb dX2_endOfNumber_19 (by decide) (fun hc3 => ?_) (fun hc3 => ?_)
      · replace h := o_pos hc3 h
        refine lv_iload_n (pc := 31) hx hb dX2_endOfNumber_31 rfl (lv_at hl 1 rfl) ?_
        exact g_ret (pc := 32) C hW hS rfl dX2_endOfNumber_32 (congrArg (fun q => some (Value.int q)) (Option.some.inj h).symm) rfl
      · replace h := o_neg hc3 h
        refine lv_iinc (pc := 22) (v := (v2 + 1)) (lv' := [(2, .int (v2 + 1)), (0, .ref (z + 9)), (3, .int v3)]) hx hb dX2_endOfNumber_22 hl (k := 1) rfl rfl (by decide) rfl (fun ls hl => ?_)
        refine lv_iinc (pc := 25) (v := (v3 + 1)) (lv' := [(3, .int (v3 + 1)), (2, .int (v2 + 1)), (0, .ref (z + 9))]) hx hb dX2_endOfNumber_25 hl (k := 2) rfl rfl (by decide) rfl (fun ls hl => ?_)
        refine lv_goto (pc := 28) (tgt := 4) hx hb dX2_endOfNumber_28 (by decide) ?_
        exact ih (v2 + 1) (v3 + 1) hW hS (lv_sub hl [2, 1, 0] rfl) h

theorem c_X2_endOfNumber {K : Nat}  (hK : 1 ≤ K) {σ : Mem} {v1 : Int32} {r : Int32} (h : f_X2_endOfNumber σ v1 = some r) : MC l D (Ec ac z) inC z ac (z, aK, aV) (Ac z) yX2_endOfNumber cX2_endOfNumber 4 (some .int) K [.ref (z + 9), .int v1] σ (some (.int r)) σ := by
  refine MC.of (fun q hq => by have := hq.1; show z ≤ q; omega) (plainFor_of_name (by decide)) (Nat.le_of_ble_eq_true rfl) ?_
  intro p e s m below meth c args C hW ls hl
  replace hl : lv_has ls 4 [(0, .ref (z + 9)), (1, .int v1)] := hl
  have hS : va_S (Ac z) s.heap s.heap [] := va_S.rf
  have hx := C.1.1
  have hb := C.1.2.1
  unfold f_X2_endOfNumber at h
  refine lv_iload_n (pc := 0) hx hb dX2_endOfNumber_0 rfl (lv_at hl 1 rfl) ?_
  refine lv_istore_n (pc := 1) (lv' := [(2, .int v1), (0, .ref (z + 9)), (1, .int v1)]) hx hb dX2_endOfNumber_1 rfl hl (by decide) rfl (fun ls hl => ?_)
  refine lv_iconst (pc := 2) (v := 0) hx hb dX2_endOfNumber_2 (by decide) ?_
  refine lv_istore_n (pc := 3) (lv' := [(3, .int (0 : Int32)), (2, .int v1), (0, .ref (z + 9)), (1, .int v1)]) hx hb dX2_endOfNumber_3 rfl hl (by decide) rfl (fun ls hl => ?_)
  exact w_X2_endOfNumber_b4 C hK σ FU v1 (0 : Int32) hW hS (lv_sub hl [2, 1, 0] rfl) h

theorem w_X2_numberToken_b15 (C : CX cX2_numberToken 5 RX2 (some .int) D ac p m c s args meth (z, aK, aV) (Ac z)) (hK : 1 ≤ K) {r : Int32}   (σ : Mem) (v2 : Int32)  : ∀ (n : Nat) (v3 : Int32) (v4 : Int32) {H : Heap} {locs : List Loc} {ls : Array Slot} (hW : WC D ac z σ H) (hS : va_S (Ac z) s.heap H locs) (hl : lv_has ls 5 [(0, .ref (z + 9)), (2, .int v2), (3, .int v3), (4, .int v4)]) (h : f_X2_numberToken_b15 σ v2 n v3 v4 = some r), W p l e (rma K 0 0) s m args below meth c H locs 0 0 (MQ below (QV D (Ec ac z) inC z (some (.int r)) σ (Ac z)) args s 0 0 (Ac z)) (F0 m 15 ls []) := by
  have hx := C.1.1
  have hb := C.1.2.1
  intro n
  induction n with
  | zero =>
    intro v3 v4 H locs ls  hW hS hl h
    cases h
  | succ n ih =>
    intro v3 v4 H locs ls  hW hS hl h
    rw [f_X2_numberToken_b15.eq_2] at h
    refine lv_iload (pc := 15) hx hb dX2_numberToken_15 (lv_at hl 3 rfl) ?_
    refine lv_iload_n (pc := 17) hx hb dX2_numberToken_17 rfl (lv_at hl 1 rfl) ?_
    refine lv_icmp_ge (pc := 18) (tgt := 42) hx hb dX2_numberToken_18 (by decide) (fun hc1 => ?_) (fun hc1 => ?_)
    · replace h := o_pos hc1 h
      refine lv_iload_n (pc := 42) hx hb dX2_numberToken_42 rfl (lv_at hl 2 rfl) ?_
      exact g_ret (pc := 43) C hW hS rfl dX2_numberToken_43 (congrArg (fun q => some (Value.int q)) (Option.some.inj h).symm) rfl
    · replace h := o_neg hc1 h
      refine lv_iload_n (pc := 21) hx hb dX2_numberToken_21 rfl (lv_at hl 2 rfl) ?_
      refine lv_bipush (pc := 22) (v := 10) hx hb dX2_numberToken_22 (by decide) ?_
      refine lv_imul (pc := 24) hx hb dX2_numberToken_24 ?_
      refine lv_aload_n (pc := 25) hx hb dX2_numberToken_25 rfl (lv_at hl 0 rfl) ?_
      refine lv_iload (pc := 26) hx hb dX2_numberToken_26 (lv_at hl 3 rfl) ?_
      obtain ⟨r4, hc2, h⟩ := o_b h
      refine g_virt (pc := 28) (st2 := [.int r4, .int (v3 * (10 : Int32))]) (rest := [.int (v3 * (10 : Int32))]) C hW hS (c_X2_byteAt (K := K - 1) (by omega) hc2) mw_X2_57 (kin_5 kdc_9) (Ek_5 kdc_9) rfl (hRoom (by omega) (by decide)) rfl rfl rfl (Nat.le_of_ble_eq_true rfl) hl.1 dX2_numberToken_28 (fun H locs hW hS => ?_)
      refine lv_iadd (pc := 31) hx hb dX2_numberToken_31 ?_
      refine lv_bipush (pc := 32) (v := 48) hx hb dX2_numberToken_32 (by decide) ?_
      refine lv_isub (pc := 34) hx hb dX2_numberToken_34 ?_
      obtain ⟨x5, hxx5, h⟩ := o_d h
      refine g_top hxx5 ?_
      refine lv_istore_n (pc := 35) (lv' := [(3, .int x5), (0, .ref (z + 9)), (2, .int v2), (4, .int v4)]) hx hb dX2_numberToken_35 rfl hl (by decide) rfl (fun ls hl => ?_)
      refine lv_iinc (pc := 36) (v := (v4 + 1)) (lv' := [(4, .int (v4 + 1)), (3, .int x5), (0, .ref (z + 9)), (2, .int v2)]) hx hb dX2_numberToken_36 hl (k := 3) rfl rfl (by decide) rfl (fun ls hl => ?_)
      refine lv_goto (pc := 39) (tgt := 15) hx hb dX2_numberToken_39 (by decide) ?_
      exact ih x5 (v4 + 1) hW hS (lv_sub hl [2, 3, 1, 0] rfl) h

theorem c_X2_numberToken {K : Nat}  (hK : 1 ≤ K) {σ : Mem} {v1 : Int32} {v2 : Int32} {r : Int32} (h : f_X2_numberToken σ v1 v2 = some r) : MC l D (Ec ac z) inC z ac (z, aK, aV) (Ac z) yX2_numberToken cX2_numberToken 5 (some .int) K [.ref (z + 9), .int v1, .int v2] σ (some (.int r)) σ := by
  refine MC.of (fun q hq => by have := hq.1; show z ≤ q; omega) (plainFor_of_name (by decide)) (Nat.le_of_ble_eq_true rfl) ?_
  intro p e s m below meth c args C hW ls hl
  replace hl : lv_has ls 5 [(0, .ref (z + 9)), (1, .int v1), (2, .int v2)] := hl
  have hS : va_S (Ac z) s.heap s.heap [] := va_S.rf
  have hx := C.1.1
  have hb := C.1.2.1
  unfold f_X2_numberToken at h
  refine lv_iload_n (pc := 0) hx hb dX2_numberToken_0 rfl (lv_at hl 2 rfl) ?_
  refine lv_iload_n (pc := 1) hx hb dX2_numberToken_1 rfl (lv_at hl 1 rfl) ?_
  refine lv_isub (pc := 2) hx hb dX2_numberToken_2 ?_
  refine lv_iconst (pc := 3) (v := 4) hx hb dX2_numberToken_3 (by decide) ?_
  refine lv_icmp_le (pc := 4) (tgt := 10) hx hb dX2_numberToken_4 (by decide) (fun hc0 => ?_) (fun hc0 => ?_)
  · replace h := o_pos hc0 h
    refine lv_iconst (pc := 10) (v := 0) hx hb dX2_numberToken_10 (by decide) ?_
    refine lv_istore_n (pc := 11) (lv' := [(3, .int (0 : Int32)), (0, .ref (z + 9)), (1, .int v1), (2, .int v2)]) hx hb dX2_numberToken_11 rfl hl (by decide) rfl (fun ls hl => ?_)
    refine lv_iload_n (pc := 12) hx hb dX2_numberToken_12 rfl (lv_at hl 2 rfl) ?_
    refine lv_istore (pc := 13) (lv' := [(4, .int v1), (3, .int (0 : Int32)), (0, .ref (z + 9)), (1, .int v1), (2, .int v2)]) hx hb dX2_numberToken_13 hl (by decide) rfl (fun ls hl => ?_)
    exact w_X2_numberToken_b15 C hK σ v2 FU (0 : Int32) v1 hW hS (lv_sub hl [2, 4, 1, 0] rfl) h
  · replace h := o_neg hc0 h
    refine lv_bipush (pc := 7) (v := -40) hx hb dX2_numberToken_7 (by decide) ?_
    exact g_ret (pc := 9) C hW hS rfl dX2_numberToken_9 (congrArg (fun q => some (Value.int q)) (Option.some.inj h).symm) rfl

theorem c_X2_signToken {K : Nat}  (hK : 0 ≤ K) {σ : Mem} {v0 : Int32} {r : Int32} (h : f_X2_signToken v0 = r) : MC l D (Ec ac z) inC z ac (z, aK, aV) (Ac z) yX2_signToken cX2_signToken 1 (some .int) K [.int v0] σ (some (.int r)) σ := by
  refine MC.of (fun q hq => by have := hq.1; show z ≤ q; omega) (plainFor_of_name (by decide)) (Nat.le_of_ble_eq_true rfl) ?_
  intro p e s m below meth c args C hW ls hl
  replace hl : lv_has ls 1 [(0, .int v0)] := hl
  have hS : va_S (Ac z) s.heap s.heap [] := va_S.rf
  have hx := C.1.1
  have hb := C.1.2.1
  unfold f_X2_signToken at h
  refine lv_iload_n (pc := 0) hx hb dX2_signToken_0 rfl (lv_at hl 0 rfl) ?_
  by_cases hc0 : v0 = 40
  · replace h := o_pos hc0 h
    refine lv_tableIn (pc := 1) (off := 103) (tgt := 104) hx hb dX2_signToken_1 (by rw [hc0]; decide) (by rw [hc0]; decide) (by rw [hc0]; rfl) (by decide) ?_
    refine lv_bipush (pc := 104) (v := -30) hx hb dX2_signToken_104 (by decide) ?_
    exact g_ret (pc := 106) C hW hS rfl dX2_signToken_106 (congrArg (fun q => some (Value.int q)) h.symm) rfl
  replace h := o_neg hc0 h
  by_cases hc1 : v0 = 41
  · replace h := o_pos hc1 h
    refine lv_tableIn (pc := 1) (off := 106) (tgt := 107) hx hb dX2_signToken_1 (by rw [hc1]; decide) (by rw [hc1]; decide) (by rw [hc1]; rfl) (by decide) ?_
    refine lv_bipush (pc := 107) (v := -31) hx hb dX2_signToken_107 (by decide) ?_
    exact g_ret (pc := 109) C hW hS rfl dX2_signToken_109 (congrArg (fun q => some (Value.int q)) h.symm) rfl
  replace h := o_neg hc1 h
  by_cases hc2 : v0 = 42
  · replace h := o_pos hc2 h
    refine lv_tableIn (pc := 1) (off := 118) (tgt := 119) hx hb dX2_signToken_1 (by rw [hc2]; decide) (by rw [hc2]; decide) (by rw [hc2]; rfl) (by decide) ?_
    refine lv_bipush (pc := 119) (v := -16) hx hb dX2_signToken_119 (by decide) ?_
    exact g_ret (pc := 121) C hW hS rfl dX2_signToken_121 (congrArg (fun q => some (Value.int q)) h.symm) rfl
  replace h := o_neg hc2 h
  by_cases hc3 : v0 = 43
  · replace h := o_pos hc3 h
    refine lv_tableIn (pc := 1) (off := 112) (tgt := 113) hx hb dX2_signToken_1 (by rw [hc3]; decide) (by rw [hc3]; decide) (by rw [hc3]; rfl) (by decide) ?_
    refine lv_bipush (pc := 113) (v := -14) hx hb dX2_signToken_113 (by decide) ?_
    exact g_ret (pc := 115) C hW hS rfl dX2_signToken_115 (congrArg (fun q => some (Value.int q)) h.symm) rfl
  replace h := o_neg hc3 h
  by_cases hc4 : v0 = 45
  · replace h := o_pos hc4 h
    refine lv_tableIn (pc := 1) (off := 115) (tgt := 116) hx hb dX2_signToken_1 (by rw [hc4]; decide) (by rw [hc4]; decide) (by rw [hc4]; rfl) (by decide) ?_
    refine lv_bipush (pc := 116) (v := -15) hx hb dX2_signToken_116 (by decide) ?_
    exact g_ret (pc := 118) C hW hS rfl dX2_signToken_118 (congrArg (fun q => some (Value.int q)) h.symm) rfl
  replace h := o_neg hc4 h
  by_cases hc5 : v0 = 59
  · replace h := o_pos hc5 h
    refine lv_tableIn (pc := 1) (off := 109) (tgt := 110) hx hb dX2_signToken_1 (by rw [hc5]; decide) (by rw [hc5]; decide) (by rw [hc5]; rfl) (by decide) ?_
    refine lv_bipush (pc := 110) (v := -32) hx hb dX2_signToken_110 (by decide) ?_
    exact g_ret (pc := 112) C hW hS rfl dX2_signToken_112 (congrArg (fun q => some (Value.int q)) h.symm) rfl
  replace h := o_neg hc5 h
  by_cases hc6 : v0 = 60
  · replace h := o_pos hc6 h
    refine lv_tableIn (pc := 1) (off := 121) (tgt := 122) hx hb dX2_signToken_1 (by rw [hc6]; decide) (by rw [hc6]; decide) (by rw [hc6]; rfl) (by decide) ?_
    refine lv_bipush (pc := 122) (v := -12) hx hb dX2_signToken_122 (by decide) ?_
    exact g_ret (pc := 124) C hW hS rfl dX2_signToken_124 (congrArg (fun q => some (Value.int q)) h.symm) rfl
  replace h := o_neg hc6 h
  by_cases hc7 : v0 = 61
  · replace h := o_pos hc7 h
    refine lv_tableIn (pc := 1) (off := 124) (tgt := 125) hx hb dX2_signToken_1 (by rw [hc7]; decide) (by rw [hc7]; decide) (by rw [hc7]; rfl) (by decide) ?_
    refine lv_bipush (pc := 125) (v := -13) hx hb dX2_signToken_125 (by decide) ?_
    exact g_ret (pc := 127) C hW hS rfl dX2_signToken_127 (congrArg (fun q => some (Value.int q)) h.symm) rfl
  replace h := o_neg hc7 h
  refine g_swd (pc := 1) (tgt := 128) (lo := 40) (hi := 61) hx hb dX2_signToken_1 (by decide) ?_ ?_
  · intro h1 h2
    have hzhc0 := lv_neT (k := 40) (a := 40) hc0 (by decide)
    have hzhc1 := lv_neT (k := 41) (a := 41) hc1 (by decide)
    have hzhc2 := lv_neT (k := 42) (a := 42) hc2 (by decide)
    have hzhc3 := lv_neT (k := 43) (a := 43) hc3 (by decide)
    have hzhc4 := lv_neT (k := 45) (a := 45) hc4 (by decide)
    have hzhc5 := lv_neT (k := 59) (a := 59) hc5 (by decide)
    have hzhc6 := lv_neT (k := 60) (a := 60) hc6 (by decide)
    have hzhc7 := lv_neT (k := 61) (a := 61) hc7 (by decide)
    have h3 : (v0).toInt = 44 ∨ (v0).toInt = 46 ∨ (v0).toInt = 47 ∨ (v0).toInt = 48 ∨ (v0).toInt = 49 ∨ (v0).toInt = 50 ∨ (v0).toInt = 51 ∨ (v0).toInt = 52 ∨ (v0).toInt = 53 ∨ (v0).toInt = 54 ∨ (v0).toInt = 55 ∨ (v0).toInt = 56 ∨ (v0).toInt = 57 ∨ (v0).toInt = 58 := by omega
    rcases h3 with h3 | h3 | h3 | h3 | h3 | h3 | h3 | h3 | h3 | h3 | h3 | h3 | h3 | h3 <;> (rw [h3]; decide)
  · skip
    refine lv_bipush (pc := 128) (v := -40) hx hb dX2_signToken_128 (by decide) ?_
    exact g_ret (pc := 130) C hW hS rfl dX2_signToken_130 (congrArg (fun q => some (Value.int q)) h.symm) rfl

theorem c_X2_current {K : Nat}  (hK : 0 ≤ K) {σ : Mem} {r : Int32} (h : f_X2_current σ = some r) : MC l D (Ec ac z) inC z ac (z, aK, aV) (Ac z) yX2_current cX2_current 1 (some .int) K [.ref (z + 9)] σ (some (.int r)) σ := by
  refine MC.of (fun q hq => by have := hq.1; show z ≤ q; omega) (plainFor_of_name (by decide)) (Nat.le_of_ble_eq_true rfl) ?_
  intro p e s m below meth c args C hW ls hl
  replace hl : lv_has ls 1 [(0, .ref (z + 9))] := hl
  have hS : va_S (Ac z) s.heap s.heap [] := va_S.rf
  have hx := C.1.1
  have hb := C.1.2.1
  unfold f_X2_current at h
  refine lv_aload_n (pc := 0) hx hb dX2_current_0 rfl (lv_at hl 0 rfl) ?_
  refine gf_X2_5 (pc := 1) C hW kdc_9 fl_X2_40 dX2_current_1 ?_
  refine lv_if_lt (pc := 4) (tgt := 42) hx hb dX2_current_4 (by decide) (fun hc0 => ?_) (fun hc0 => ?_)
  · replace h := o_pos hc0 h
    refine lv_bipush (pc := 42) (v := -41) hx hb dX2_current_42 (by decide) ?_
    exact g_ret (pc := 44) C hW hS rfl dX2_current_44 (congrArg (fun q => some (Value.int q)) (Option.some.inj h).symm) rfl
  · replace h := o_neg hc0 h
    refine lv_aload_n (pc := 7) hx hb dX2_current_7 rfl (lv_at hl 0 rfl) ?_
    refine gf_X2_5 (pc := 8) C hW kdc_9 fl_X2_40 dX2_current_8 ?_
    refine lv_aload_n (pc := 11) hx hb dX2_current_11 rfl (lv_at hl 0 rfl) ?_
    refine gf_X2_4 (pc := 12) C hW kdc_9 fl_X2_54 dX2_current_12 ?_
    refine lv_icmp_ge (pc := 15) (tgt := 42) hx hb dX2_current_15 (by decide) (fun hc1 => ?_) (fun hc1 => ?_)
    · replace h := o_pos hc1 h
      refine lv_bipush (pc := 42) (v := -41) hx hb dX2_current_42 (by decide) ?_
      exact g_ret (pc := 44) C hW hS rfl dX2_current_44 (congrArg (fun q => some (Value.int q)) (Option.some.inj h).symm) rfl
    · replace h := o_neg hc1 h
      refine lv_aload_n (pc := 18) hx hb dX2_current_18 rfl (lv_at hl 0 rfl) ?_
      refine gf_X2_5 (pc := 19) C hW kdc_9 fl_X2_40 dX2_current_19 ?_
      refine lv_aload_n (pc := 22) hx hb dX2_current_22 rfl (lv_at hl 0 rfl) ?_
      refine gf_X2_2 (pc := 23) C hW kdc_9 fl_X2_15 dX2_current_23 ?_
      refine ia_len (pc := 26) (v := 161) C hW kdc_11 (by rw [alc_11]; decide) dX2_current_26 ?_
      refine lv_icmp_ge (pc := 27) (tgt := 42) hx hb dX2_current_27 (by decide) (fun hc2 => ?_) (fun hc2 => ?_)
      · replace h := o_pos hc2 h
        refine lv_bipush (pc := 42) (v := -41) hx hb dX2_current_42 (by decide) ?_
        exact g_ret (pc := 44) C hW hS rfl dX2_current_44 (congrArg (fun q => some (Value.int q)) (Option.some.inj h).symm) rfl
      · replace h := o_neg hc2 h
        refine lv_aload_n (pc := 30) hx hb dX2_current_30 rfl (lv_at hl 0 rfl) ?_
        refine gf_X2_2 (pc := 31) C hW kdc_9 fl_X2_15 dX2_current_31 ?_
        refine lv_aload_n (pc := 34) hx hb dX2_current_34 rfl (lv_at hl 0 rfl) ?_
        refine gf_X2_5 (pc := 35) C hW kdc_9 fl_X2_40 dX2_current_35 ?_
        obtain ⟨hc3, h⟩ := o_chk h
        refine ia_ld (pc := 38) C hW kdc_11 alc_11 rfl (inb_in hc3) dX2_current_38 ?_
        refine lv_goto (pc := 39) (tgt := 44) hx hb dX2_current_39 (by decide) ?_
        exact g_ret (pc := 44) C hW hS rfl dX2_current_44 (congrArg (fun q => some (Value.int q)) (Option.some.inj h).symm) rfl

theorem c_X2_skip {K : Nat}  (hK : 1 ≤ K) {σ : Mem} {σf : Mem} {v1 : Int32} {r : Int32} (h : f_X2_skip σ v1 = some (r, σf)) : MC l D (Ec ac z) inC z ac (z, aK, aV) (Ac z) yX2_skip cX2_skip 2 (some .boolean) K [.ref (z + 9), .int v1] σ (some (.int r)) σf := by
  refine MC.of (fun q hq => by have := hq.1; show z ≤ q; omega) (plainFor_of_name (by decide)) (Nat.le_of_ble_eq_true rfl) ?_
  intro p e s m below meth c args C hW ls hl
  replace hl : lv_has ls 2 [(0, .ref (z + 9)), (1, .int v1)] := hl
  have hS : va_S (Ac z) s.heap s.heap [] := va_S.rf
  have hx := C.1.1
  have hb := C.1.2.1
  unfold f_X2_skip at h
  refine lv_aload_n (pc := 0) hx hb dX2_skip_0 rfl (lv_at hl 0 rfl) ?_
  obtain ⟨r2, hc0, h⟩ := o_b h
  refine g_virt (pc := 1) (st2 := [.int r2]) (rest := []) C hW hS (c_X2_current (K := K - 1) (by omega) hc0) mw_X2_50 (kin_5 kdc_9) (Ek_5 kdc_9) rfl (hRoom (by omega) (by decide)) rfl rfl rfl (Nat.le_of_ble_eq_true rfl) hl.1 dX2_skip_1 (fun H locs hW hS => ?_)
  refine lv_iload_n (pc := 4) hx hb dX2_skip_4 rfl (lv_at hl 1 rfl) ?_
  refine lv_icmp_eq (pc := 5) (tgt := 10) hx hb dX2_skip_5 (by decide) (fun hc2 => ?_) (fun hc2 => ?_)
  · replace h := o_pos hc2 h
    refine lv_aload_n (pc := 10) hx hb dX2_skip_10 rfl (lv_at hl 0 rfl) ?_
    refine lv_dup (pc := 11) hx hb dX2_skip_11 rfl ?_
    refine gf_X2_5 (pc := 12) C hW kdc_9 fl_X2_40 dX2_skip_12 ?_
    refine lv_iconst (pc := 15) (v := 1) hx hb dX2_skip_15 (by decide) ?_
    refine lv_iadd (pc := 16) hx hb dX2_skip_16 ?_
    refine pf_X2_5 (pc := 17) C hW hS kdc_9 fl_X2_40 dX2_skip_17 (fun H locs hW hS => ?_)
    refine lv_iconst (pc := 20) (v := 1) hx hb dX2_skip_20 (by decide) ?_
    exact g_ret (pc := 21) C hW hS rfl dX2_skip_21 (congrArg (fun q => some (Value.int q)) (o_r h).1) (o_r h).2
  · replace h := o_neg hc2 h
    refine lv_iconst (pc := 8) (v := 0) hx hb dX2_skip_8 (by decide) ?_
    exact g_ret (pc := 9) C hW hS rfl dX2_skip_9 (congrArg (fun q => some (Value.int q)) (o_r h).1) (o_r h).2

theorem c_X2_emit {K : Nat}  (hK : 0 ≤ K) {σ : Mem} {σf : Mem} {v1 : Int32} (h : f_X2_emit σ v1 = some σf) : MC l D (Ec ac z) inC z ac (z, aK, aV) (Ac z) yX2_emit cX2_emit 2 none K [.ref (z + 9), .int v1] σ none σf := by
  refine MC.of (fun q hq => by have := hq.1; show z ≤ q; omega) (plainFor_of_name (by decide)) (Nat.le_of_ble_eq_true rfl) ?_
  intro p e s m below meth c args C hW ls hl
  replace hl : lv_has ls 2 [(0, .ref (z + 9)), (1, .int v1)] := hl
  have hS : va_S (Ac z) s.heap s.heap [] := va_S.rf
  have hx := C.1.1
  have hb := C.1.2.1
  unfold f_X2_emit at h
  refine lv_aload_n (pc := 0) hx hb dX2_emit_0 rfl (lv_at hl 0 rfl) ?_
  refine gf_X2_7 (pc := 1) C hW kdc_9 fl_X2_43 dX2_emit_1 ?_
  refine lv_if_lt (pc := 4) (tgt := 39) hx hb dX2_emit_4 (by decide) (fun hc0 => ?_) (fun hc0 => ?_)
  · replace h := o_pos hc0 h
    exact g_vret (pc := 39) C hW hS dX2_emit_39 rfl (Option.some.inj h).symm
  · replace h := o_neg hc0 h
    refine lv_aload_n (pc := 7) hx hb dX2_emit_7 rfl (lv_at hl 0 rfl) ?_
    refine gf_X2_7 (pc := 8) C hW kdc_9 fl_X2_43 dX2_emit_8 ?_
    refine lv_aload_n (pc := 11) hx hb dX2_emit_11 rfl (lv_at hl 0 rfl) ?_
    refine gf_X2_6 (pc := 12) C hW kdc_9 fl_X2_21 dX2_emit_12 ?_
    refine ia_len (pc := 15) (v := 160) C hW kdc_13 (by rw [alc_13]; decide) dX2_emit_15 ?_
    refine lv_icmp_ge (pc := 16) (tgt := 39) hx hb dX2_emit_16 (by decide) (fun hc1 => ?_) (fun hc1 => ?_)
    · replace h := o_pos hc1 h
      exact g_vret (pc := 39) C hW hS dX2_emit_39 rfl (Option.some.inj h).symm
    · replace h := o_neg hc1 h
      refine lv_aload_n (pc := 19) hx hb dX2_emit_19 rfl (lv_at hl 0 rfl) ?_
      refine gf_X2_6 (pc := 20) C hW kdc_9 fl_X2_21 dX2_emit_20 ?_
      refine lv_aload_n (pc := 23) hx hb dX2_emit_23 rfl (lv_at hl 0 rfl) ?_
      refine gf_X2_7 (pc := 24) C hW kdc_9 fl_X2_43 dX2_emit_24 ?_
      refine lv_iload_n (pc := 27) hx hb dX2_emit_27 rfl (lv_at hl 1 rfl) ?_
      obtain ⟨hc2, h⟩ := o_chk h
      refine ia_st (pc := 28) C hW hS kdc_13 alc_13 rfl (inb_in hc2) dX2_emit_28 (fun H locs hW hS => ?_)
      refine lv_aload_n (pc := 29) hx hb dX2_emit_29 rfl (lv_at hl 0 rfl) ?_
      refine lv_dup (pc := 30) hx hb dX2_emit_30 rfl ?_
      refine gf_X2_7 (pc := 31) C hW kdc_9 fl_X2_43 dX2_emit_31 ?_
      refine lv_iconst (pc := 34) (v := 1) hx hb dX2_emit_34 (by decide) ?_
      refine lv_iadd (pc := 35) hx hb dX2_emit_35 ?_
      refine pf_X2_7 (pc := 36) C hW hS kdc_9 fl_X2_43 dX2_emit_36 (fun H locs hW hS => ?_)
      obtain ⟨σ4, hσ4, h⟩ := o_d h
      replace hW : WC D ac z σ4 H := by rw [← hσ4]; exact hW
      exact g_vret (pc := 39) C hW hS dX2_emit_39 rfl (Option.some.inj h).symm

end
