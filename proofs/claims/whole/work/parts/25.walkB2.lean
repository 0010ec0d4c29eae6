section
variable {p : Program} {l : Launch} {e : Env} {s : State} {m : MethodId} {args : Array Value} {below : List Frame} {meth : Method} {c : Code} {D : va_G} {ac : Nat → ClassId} {z : Nat} {aK aV : Nat → Nat} {K : Nat}

theorem c_X8_net {K : Nat}  (hK : 1 ≤ K) {σ : Mem} {v1 : Int32} {r : Int32} (h : f_X8_net σ v1 = some r) : MC l D (Ec ac z) inC z ac (z, aK, aV) (Ac z) yX8_net cX8_net 2 (some .int) K [.ref (z + 0), .int v1] σ (some (.int r)) σ := by
  refine MC.of (fun q hq => by have := hq.1; show z ≤ q; omega) (plainFor_of_name (by decide)) (Nat.le_of_ble_eq_true rfl) ?_
  intro p e s m below meth c args C hW ls hl
  replace hl : lv_has ls 2 [(0, .ref (z + 0)), (1, .int v1)] := hl
  have hS : va_S (Ac z) s.heap s.heap [] := va_S.rf
  have hx := C.1.1
  have hb := C.1.2.1
  unfold f_X8_net at h
  refine lv_aload_n (pc := 0) hx hb dX8_net_0 rfl (lv_at hl 0 rfl) ?_
  refine gf_X8_2 (pc := 1) C hW kdc_0 fl_X8_28 dX8_net_1 ?_
  refine lv_iload_n (pc := 4) hx hb dX8_net_4 rfl (lv_at hl 1 rfl) ?_
  obtain ⟨r2, hc0, h⟩ := o_b h
  refine g_virt (pc := 5) (st2 := [rv z r2]) (rest := []) C hW hS (c_X6_manAt (K := K - 1) (by omega) kdc_15 hc0) mw_X8_109 (kin_6 kdc_15) (Ek_6 kdc_15) rfl (hRoom (by omega) (by decide)) rfl rfl rfl (Nat.le_of_ble_eq_true rfl) hl.1 dX8_net_5 (fun H locs hW hS => ?_)
  refine g_ifnonnull (pc := 8) (o := r2) (tgt := 15) C dX8_net_8 (by decide) (fun hn => ?_) (fun q3 hn => ?_)
  · subst hn
    replace h := o_nn h
    replace hl : lv_has ls 2 [(0, .ref (z + 0)), (1, .int v1)] := hl
    refine lv_ldcw (pc := 11) hx hb C.1.2.2.2.1 (C.1.2.2.2.2 _ cn_X8_267) dX8_net_11 ?_
    exact g_ret (pc := 14) C hW hS rfl dX8_net_14 (congrArg (fun q => some (Value.int q)) (Option.some.inj h).symm) rfl
  · subst hn
    replace h := o_ns h
    replace hl : lv_has ls 2 [(0, .ref (z + 0)), (1, .int v1)] := hl
    refine lv_aload_n (pc := 15) hx hb dX8_net_15 rfl (lv_at hl 0 rfl) ?_
    refine gf_X8_2 (pc := 16) C hW kdc_0 fl_X8_28 dX8_net_16 ?_
    refine lv_iload_n (pc := 19) hx hb dX8_net_19 rfl (lv_at hl 1 rfl) ?_
    refine lv_iconst (pc := 20) (v := 0) hx hb dX8_net_20 (by decide) ?_
    obtain ⟨r5, hc3, h⟩ := o_b h
    refine g_virt (pc := 21) (st2 := [.int r5]) (rest := []) C hW hS (c_X6_owedTo (K := K - 1) (by omega) kdc_15 hc3) mw_X8_268 (kin_6 kdc_15) (Ek_6 kdc_15) rfl (hRoom (by omega) (by decide)) rfl rfl rfl (Nat.le_of_ble_eq_true rfl) hl.1 dX8_net_21 (fun H locs hW hS => ?_)
    refine lv_aload_n (pc := 24) hx hb dX8_net_24 rfl (lv_at hl 0 rfl) ?_
    refine gf_X8_2 (pc := 25) C hW kdc_0 fl_X8_28 dX8_net_25 ?_
    refine lv_iload_n (pc := 28) hx hb dX8_net_28 rfl (lv_at hl 1 rfl) ?_
    obtain ⟨r7, hc5, h⟩ := o_b h
    refine g_virt (pc := 29) (st2 := [.int r7, .int r5]) (rest := [.int r5]) C hW hS (c_X6_owed (K := K - 1) (by omega) kdc_15 hc5) mw_X8_113 (kin_6 kdc_15) (Ek_6 kdc_15) rfl (hRoom (by omega) (by decide)) rfl rfl rfl (Nat.le_of_ble_eq_true rfl) hl.1 dX8_net_29 (fun H locs hW hS => ?_)
    refine lv_isub (pc := 32) hx hb dX8_net_32 ?_
    exact g_ret (pc := 33) C hW hS rfl dX8_net_33 (congrArg (fun q => some (Value.int q)) (Option.some.inj h).symm) rfl

theorem w_X8_falling_b46 (C : CX cX8_falling 7 RX8 (some .int) D ac p m c s args meth (z, aK, aV) (Ac z)) (hK : 3 ≤ K) {r : Int32}   (σ : Mem) (v2 : Int32) (v3 : Int32) (v4 : Int32)  {H : Heap} {locs : List Loc} {ls : Array Slot} (hW : WC D ac z σ H) (hS : va_S (Ac z) s.heap H locs) (hl : lv_has ls 7 [(2, .int v2), (3, .int v3), (4, .int v4)]) (h : f_X8_falling_b46 σ v2 v3 v4 = some r) : W p l e (rma K 0 0) s m args below meth c H locs 0 0 (MQ below (QV D (Ec ac z) inC z (some (.int r)) σ (Ac z)) args s 0 0 (Ac z)) (F0 m 46 ls []) := by
  have hx := C.1.1
  have hb := C.1.2.1
  unfold f_X8_falling_b46 at h
  refine lv_iload_n (pc := 46) hx hb dX8_falling_46 rfl (lv_at hl 0 rfl) ?_
  refine lv_if_ne (pc := 47) (tgt := 54) hx hb dX8_falling_47 (by decide) (fun hc4 => ?_) (fun hc4 => ?_)
  · replace h := o_neg hc4 h
    refine lv_iload (pc := 54) hx hb dX8_falling_54 (lv_at hl 2 rfl) ?_
    exact g_ret (pc := 56) C hW hS rfl dX8_falling_56 (congrArg (fun q => some (Value.int q)) (Option.some.inj h).symm) rfl
  · replace h := o_pos hc4 h
    refine lv_iload_n (pc := 50) hx hb dX8_falling_50 rfl (lv_at hl 1 rfl) ?_
    refine lv_goto (pc := 51) (tgt := 56) hx hb dX8_falling_51 (by decide) ?_
    exact g_ret (pc := 56) C hW hS rfl dX8_falling_56 (congrArg (fun q => some (Value.int q)) (Option.some.inj h).symm) rfl

theorem w_X8_falling_b8 (C : CX cX8_falling 7 RX8 (some .int) D ac p m c s args meth (z, aK, aV) (Ac z)) (hK : 3 ≤ K) {r : Int32}   (σ : Mem) (v2 : Int32)  : ∀ (n : Nat) (v3 : Int32) (v4 : Int32) (v5 : Int32) {H : Heap} {locs : List Loc} {ls : Array Slot} (hW : WC D ac z σ H) (hS : va_S (Ac z) s.heap H locs) (hl : lv_has ls 7 [(0, .ref (z + 0)), (2, .int v2), (3, .int v3), (4, .int v4), (5, .int v5)]) (h : f_X8_falling_b8 σ v2 n v3 v4 v5 = some r), W p l e (rma K 0 0) s m args below meth c H locs 0 0 (MQ below (QV D (Ec ac z) inC z (some (.int r)) σ (Ac z)) args s 0 0 (Ac z)) (F0 m 8 ls []) := by
  have hx := C.1.1
  have hb := C.1.2.1
  intro n
  induction n with
  | zero =>
    intro v3 v4 v5 H locs ls  hW hS hl h
    cases h
  | succ n ih =>
    intro v3 v4 v5 H locs ls  hW hS hl h
    rw [f_X8_falling_b8.eq_2] at h
    refine lv_iload (pc := 8) hx hb dX8_falling_8 (lv_at hl 4 rfl) ?_
    refine lv_bipush (pc := 10) (v := 6) hx hb dX8_falling_10 (by decide) ?_
    refine lv_icmp_ge (pc := 12) (tgt := 46) hx hb dX8_falling_12 (by decide) (fun hc0 => ?_) (fun hc0 => ?_)
    · replace h := o_pos hc0 h
      exact w_X8_falling_b46 C hK σ v2 v3 v4 hW hS (lv_sub hl [1, 2, 3] rfl) h
    · replace h := o_neg hc0 h
      refine lv_aload_n (pc := 15) hx hb dX8_falling_15 rfl (lv_at hl 0 rfl) ?_
      refine gf_X8_2 (pc := 16) C hW kdc_0 fl_X8_28 dX8_falling_16 ?_
      refine lv_iload_n (pc := 19) hx hb dX8_falling_19 rfl (lv_at hl 2 rfl) ?_
      obtain ⟨r3, hc1, h⟩ := o_b h
      refine g_virt (pc := 20) (st2 := [.int r3]) (rest := []) C hW hS (c_X6_fallenNext (K := K - 1) (by omega) kdc_15 hc1) mw_X8_279 (kin_6 kdc_15) (Ek_6 kdc_15) rfl (hRoom (by omega) (by decide)) rfl rfl rfl (Nat.le_of_ble_eq_true rfl) hl.1 dX8_falling_20 (fun H locs hW hS => ?_)
      refine lv_istore (pc := 23) (lv' := [(6, .int r3), (0, .ref (z + 0)), (2, .int v2), (3, .int v3), (4, .int v4), (5, .int v5)]) hx hb dX8_falling_23 hl (by decide) rfl (fun ls hl => ?_)
      refine lv_iload (pc := 25) hx hb dX8_falling_25 (lv_at hl 0 rfl) ?_
      refine lv_iload_n (pc := 27) hx hb dX8_falling_27 rfl (lv_at hl 3 rfl) ?_
      refine lv_icmp_ne (pc := 28) (tgt := 34) hx hb dX8_falling_28 (by decide) (fun hc3 => ?_) (fun hc3 => ?_)
      · replace h := o_neg hc3 h
        refine lv_iload (pc := 34) hx hb dX8_falling_34 (lv_at hl 0 rfl) ?_
        refine lv_istore_n (pc := 36) (lv' := [(3, .int r3), (6, .int r3), (0, .ref (z + 0)), (2, .int v2), (4, .int v4), (5, .int v5)]) hx hb dX8_falling_36 rfl hl (by decide) rfl (fun ls hl => ?_)
        refine lv_iinc (pc := 37) (v := (v4 + 1)) (lv' := [(4, .int (v4 + 1)), (3, .int r3), (6, .int r3), (0, .ref (z + 0)), (2, .int v2), (5, .int v5)]) hx hb dX8_falling_37 hl (k := 4) rfl rfl (by decide) rfl (fun ls hl => ?_)
        refine lv_iinc (pc := 40) (v := (v5 + 1)) (lv' := [(5, .int (v5 + 1)), (4, .int (v4 + 1)), (3, .int r3), (6, .int r3), (0, .ref (z + 0)), (2, .int v2)]) hx hb dX8_falling_40 hl (k := 5) rfl rfl (by decide) rfl (fun ls hl => ?_)
        refine lv_goto (pc := 43) (tgt := 8) hx hb dX8_falling_43 (by decide) ?_
        exact ih r3 (v4 + 1) (v5 + 1) hW hS (lv_sub hl [4, 5, 2, 1, 0] rfl) h
      · replace h := o_pos hc3 h
        refine lv_goto (pc := 31) (tgt := 46) hx hb dX8_falling_31 (by decide) ?_
        exact w_X8_falling_b46 C hK σ v2 v3 v4 hW hS (lv_sub hl [2, 3, 4] rfl) h

theorem c_X8_falling {K : Nat}  (hK : 3 ≤ K) {σ : Mem} {v1 : Int32} {v2 : Int32} {r : Int32} (h : f_X8_falling σ v1 v2 = some r) : MC l D (Ec ac z) inC z ac (z, aK, aV) (Ac z) yX8_falling cX8_falling 7 (some .int) K [.ref (z + 0), .int v1, .int v2] σ (some (.int r)) σ := by
  refine MC.of (fun q hq => by have := hq.1; show z ≤ q; omega) (plainFor_of_name (by decide)) (Nat.le_of_ble_eq_true rfl) ?_
  intro p e s m below meth c args C hW ls hl
  replace hl : lv_has ls 7 [(0, .ref (z + 0)), (1, .int v1), (2, .int v2)] := hl
  have hS : va_S (Ac z) s.heap s.heap [] := va_S.rf
  have hx := C.1.1
  have hb := C.1.2.1
  unfold f_X8_falling at h
  refine lv_iload_n (pc := 0) hx hb dX8_falling_0 rfl (lv_at hl 1 rfl) ?_
  refine lv_istore_n (pc := 1) (lv' := [(3, .int v1), (0, .ref (z + 0)), (1, .int v1), (2, .int v2)]) hx hb dX8_falling_1 rfl hl (by decide) rfl (fun ls hl => ?_)
  refine lv_iconst (pc := 2) (v := 0) hx hb dX8_falling_2 (by decide) ?_
  refine lv_istore (pc := 3) (lv' := [(4, .int (0 : Int32)), (3, .int v1), (0, .ref (z + 0)), (1, .int v1), (2, .int v2)]) hx hb dX8_falling_3 hl (by decide) rfl (fun ls hl => ?_)
  refine lv_iconst (pc := 5) (v := 0) hx hb dX8_falling_5 (by decide) ?_
  refine lv_istore (pc := 6) (lv' := [(5, .int (0 : Int32)), (4, .int (0 : Int32)), (3, .int v1), (0, .ref (z + 0)), (1, .int v1), (2, .int v2)]) hx hb dX8_falling_6 hl (by decide) rfl (fun ls hl => ?_)
  exact w_X8_falling_b8 C hK σ v2 FU v1 (0 : Int32) (0 : Int32) hW hS (lv_sub hl [3, 5, 2, 1, 0] rfl) h

theorem c_X8_falls {K : Nat}  (hK : 4 ≤ K) {σ : Mem} {v1 : Int32} {v2 : Int32} {r : Int32} (h : f_X8_falls σ v1 v2 = some r) : MC l D (Ec ac z) inC z ac (z, aK, aV) (Ac z) yX8_falls cX8_falls 3 (some .int) K [.ref (z + 0), .int v1, .int v2] σ (some (.int r)) σ := by
  refine MC.of (fun q hq => by have := hq.1; show z ≤ q; omega) (plainFor_of_name (by decide)) (Nat.le_of_ble_eq_true rfl) ?_
  intro p e s m below meth c args C hW ls hl
  replace hl : lv_has ls 3 [(0, .ref (z + 0)), (1, .int v1), (2, .int v2)] := hl
  have hS : va_S (Ac z) s.heap s.heap [] := va_S.rf
  have hx := C.1.1
  have hb := C.1.2.1
  unfold f_X8_falls at h
  refine lv_iload_n (pc := 0) hx hb dX8_falls_0 rfl (lv_at hl 1 rfl) ?_
  refine lv_if_lt (pc := 1) (tgt := 26) hx hb dX8_falls_1 (by decide) (fun hc0 => ?_) (fun hc0 => ?_)
  · replace h := o_pos hc0 h
    refine lv_bipush (pc := 26) (v := -2) hx hb dX8_falls_26 (by decide) ?_
    exact g_ret (pc := 28) C hW hS rfl dX8_falls_28 (congrArg (fun q => some (Value.int q)) (Option.some.inj h).symm) rfl
  · replace h := o_neg hc0 h
    refine lv_iload_n (pc := 4) hx hb dX8_falls_4 rfl (lv_at hl 1 rfl) ?_
    refine lv_iconst (pc := 5) (v := 1) hx hb dX8_falls_5 (by decide) ?_
    refine lv_aload_n (pc := 6) hx hb dX8_falls_6 rfl (lv_at hl 0 rfl) ?_
    refine gf_X8_2 (pc := 7) C hW kdc_0 fl_X8_28 dX8_falls_7 ?_
    refine gf_X6_3 (pc := 10) C hW kdc_15 fl_X8_66 dX8_falls_10 ?_
    refine lv_ishl (pc := 13) hx hb dX8_falls_13 ?_
    refine lv_icmp_ge (pc := 14) (tgt := 26) hx hb dX8_falls_14 (by decide) (fun hc1 => ?_) (fun hc1 => ?_)
    · replace h := o_pos hc1 h
      refine lv_bipush (pc := 26) (v := -2) hx hb dX8_falls_26 (by decide) ?_
      exact g_ret (pc := 28) C hW hS rfl dX8_falls_28 (congrArg (fun q => some (Value.int q)) (Option.some.inj h).symm) rfl
    · replace h := o_neg hc1 h
      refine lv_iload_n (pc := 17) hx hb dX8_falls_17 rfl (lv_at hl 2 rfl) ?_
      refine lv_if_lt (pc := 18) (tgt := 26) hx hb dX8_falls_18 (by decide) (fun hc2 => ?_) (fun hc2 => ?_)
      · replace h := o_pos hc2 h
        refine lv_bipush (pc := 26) (v := -2) hx hb dX8_falls_26 (by decide) ?_
        exact g_ret (pc := 28) C hW hS rfl dX8_falls_28 (congrArg (fun q => some (Value.int q)) (Option.some.inj h).symm) rfl
      · replace h := o_neg hc2 h
        refine lv_iload_n (pc := 21) hx hb dX8_falls_21 rfl (lv_at hl 2 rfl) ?_
        refine lv_iconst (pc := 22) (v := 1) hx hb dX8_falls_22 (by decide) ?_
        refine lv_icmp_le (pc := 23) (tgt := 29) hx hb dX8_falls_23 (by decide) (fun hc3 => ?_) (fun hc3 => ?_)
        · replace h := o_pos hc3 h
          refine lv_aload_n (pc := 29) hx hb dX8_falls_29 rfl (lv_at hl 0 rfl) ?_
          refine lv_iload_n (pc := 30) hx hb dX8_falls_30 rfl (lv_at hl 1 rfl) ?_
          refine lv_iload_n (pc := 31) hx hb dX8_falls_31 rfl (lv_at hl 2 rfl) ?_
          obtain ⟨r6, hc4, h⟩ := o_b h
          refine g_virt (pc := 32) (st2 := [.int r6]) (rest := []) C hW hS (c_X8_falling (K := K - 1) (by omega) hc4) mw_X8_271 (kin_0 kdc_0) (Ek_0 kdc_0) rfl (hRoom (by omega) (by decide)) rfl rfl rfl (Nat.le_of_ble_eq_true rfl) hl.1 dX8_falls_32 (fun H locs hW hS => ?_)
          exact g_ret (pc := 35) C hW hS rfl dX8_falls_35 (congrArg (fun q => some (Value.int q)) (Option.some.inj h).symm) rfl
        · replace h := o_neg hc3 h
          refine lv_bipush (pc := 26) (v := -2) hx hb dX8_falls_26 (by decide) ?_
          exact g_ret (pc := 28) C hW hS rfl dX8_falls_28 (congrArg (fun q => some (Value.int q)) (Option.some.inj h).symm) rfl

theorem w_X8_pillar_b57 (C : CX cX8_pillar 6 RX8 (some .int) D ac p m c s args meth (z, aK, aV) (Ac z)) (hK : 4 ≤ K) {r : Int32}   (σ : Mem) (v1 : Int32) (v2 : Int32) (v3 : Int32) (v4 : Int32) (s19 : Int32 → Int32 → Int32 → Option Int32) (hs19 : ∀ (v2 : Int32) (v3 : Int32) (v4 : Int32) {H : Heap} {locs : List Loc} {ls : Array Slot} (_ : WC D ac z σ H) (_ : va_S (Ac z) s.heap H locs) (_ : lv_has ls 6 [(0, .ref (z + 0)), (1, .int v1), (2, .int v2), (3, .int v3), (4, .int v4)]) (_ : s19 v2 v3 v4 = some r), W p l e (rma K 0 0) s m args below meth c H locs 0 0 (MQ below (QV D (Ec ac z) inC z (some (.int r)) σ (Ac z)) args s 0 0 (Ac z)) (F0 m 19 ls [])) {H : Heap} {locs : List Loc} {ls : Array Slot} (hW : WC D ac z σ H) (hS : va_S (Ac z) s.heap H locs) (hl : lv_has ls 6 [(0, .ref (z + 0)), (1, .int v1), (2, .int v2), (3, .int v3), (4, .int v4)]) (h : f_X8_pillar_b57 s19 σ v1 v2 v3 v4 = some r) : W p l e (rma K 0 0) s m args below meth c H locs 0 0 (MQ below (QV D (Ec ac z) inC z (some (.int r)) σ (Ac z)) args s 0 0 (Ac z)) (F0 m 57 ls []) := by
  have hx := C.1.1
  have hb := C.1.2.1
  unfold f_X8_pillar_b57 at h
  refine lv_iinc (pc := 57) (v := (v4 + 1)) (lv' := [(4, .int (v4 + 1)), (0, .ref (z + 0)), (1, .int v1), (2, .int v2), (3, .int v3)]) hx hb dX8_pillar_57 hl (k := 4) rfl rfl (by decide) rfl (fun ls hl => ?_)
  refine lv_goto (pc := 60) (tgt := 19) hx hb dX8_pillar_60 (by decide) ?_
  exact hs19 v2 v3 (v4 + 1) hW hS (lv_sub hl [1, 2, 3, 4, 0] rfl) h

theorem w_X8_pillar_b19 (C : CX cX8_pillar 6 RX8 (some .int) D ac p m c s args meth (z, aK, aV) (Ac z)) (hK : 4 ≤ K) {r : Int32}   (σ : Mem) (v1 : Int32)  : ∀ (n : Nat) (v2 : Int32) (v3 : Int32) (v4 : Int32) {H : Heap} {locs : List Loc} {ls : Array Slot} (hW : WC D ac z σ H) (hS : va_S (Ac z) s.heap H locs) (hl : lv_has ls 6 [(0, .ref (z + 0)), (1, .int v1), (2, .int v2), (3, .int v3), (4, .int v4)]) (h : f_X8_pillar_b19 σ v1 n v2 v3 v4 = some r), W p l e (rma K 0 0) s m args below meth c H locs 0 0 (MQ below (QV D (Ec ac z) inC z (some (.int r)) σ (Ac z)) args s 0 0 (Ac z)) (F0 m 19 ls []) := by
  have hx := C.1.1
  have hb := C.1.2.1
  intro n
  induction n with
  | zero =>
    intro v2 v3 v4 H locs ls  hW hS hl h
    cases h
  | succ n ih =>
    intro v2 v3 v4 H locs ls  hW hS hl h
    rw [f_X8_pillar_b19.eq_2] at h
    refine lv_iload (pc := 19) hx hb dX8_pillar_19 (lv_at hl 4 rfl) ?_
    refine lv_aload_n (pc := 21) hx hb dX8_pillar_21 rfl (lv_at hl 0 rfl) ?_
    refine gf_X8_2 (pc := 22) C hW kdc_0 fl_X8_28 dX8_pillar_22 ?_
    refine gf_X6_3 (pc := 25) C hW kdc_15 fl_X8_66 dX8_pillar_25 ?_
    refine lv_icmp_ge (pc := 28) (tgt := 63) hx hb dX8_pillar_28 (by decide) (fun hc2 => ?_) (fun hc2 => ?_)
    · replace h := o_pos hc2 h
      refine lv_iload_n (pc := 63) hx hb dX8_pillar_63 rfl (lv_at hl 1 rfl) ?_
      refine lv_if_ne (pc := 64) (tgt := 71) hx hb dX8_pillar_64 (by decide) (fun hc3 => ?_) (fun hc3 => ?_)
      · replace h := o_neg hc3 h
        refine lv_iload_n (pc := 71) hx hb dX8_pillar_71 rfl (lv_at hl 3 rfl) ?_
        exact g_ret (pc := 72) C hW hS rfl dX8_pillar_72 (congrArg (fun q => some (Value.int q)) (Option.some.inj h).symm) rfl
      · replace h := o_pos hc3 h
        refine lv_iload_n (pc := 67) hx hb dX8_pillar_67 rfl (lv_at hl 2 rfl) ?_
        refine lv_goto (pc := 68) (tgt := 72) hx hb dX8_pillar_68 (by decide) ?_
        exact g_ret (pc := 72) C hW hS rfl dX8_pillar_72 (congrArg (fun q => some (Value.int q)) (Option.some.inj h).symm) rfl
    · replace h := o_neg hc2 h
      refine lv_aload_n (pc := 31) hx hb dX8_pillar_31 rfl (lv_at hl 0 rfl) ?_
      refine lv_iconst (pc := 32) (v := 1) hx hb dX8_pillar_32 (by decide) ?_
      refine lv_iload (pc := 33) hx hb dX8_pillar_33 (lv_at hl 4 rfl) ?_
      refine lv_ishl (pc := 35) hx hb dX8_pillar_35 ?_
      refine lv_iconst (pc := 36) (v := 0) hx hb dX8_pillar_36 (by decide) ?_
      obtain ⟨r6, hc4, h⟩ := o_b h
      refine g_virt (pc := 37) (st2 := [.int r6]) (rest := []) C hW hS (c_X8_falling (K := K - 1) (by omega) hc4) mw_X8_271 (kin_0 kdc_0) (Ek_0 kdc_0) rfl (hRoom (by omega) (by decide)) rfl rfl rfl (Nat.le_of_ble_eq_true rfl) hl.1 dX8_pillar_37 (fun H locs hW hS => ?_)
      refine g_stat (pc := 40) (st2 := [.int (f_J6_bitCount_0f7a4 r6)]) (rest := []) C hW hS (c_J6_bitCount_0f7a4 (K := K - 1) (by omega) rfl) mw_X8_274 (hRoom (by omega) (by decide)) rfl rfl rfl (Nat.le_of_ble_eq_true rfl) hl.1 dX8_pillar_40 (fun H locs hW hS => ?_)
      refine lv_istore (pc := 43) (lv' := [(5, .int (f_J6_bitCount_0f7a4 r6)), (0, .ref (z + 0)), (1, .int v1), (2, .int v2), (3, .int v3), (4, .int v4)]) hx hb dX8_pillar_43 hl (by decide) rfl (fun ls hl => ?_)
      refine lv_iload (pc := 45) hx hb dX8_pillar_45 (lv_at hl 0 rfl) ?_
      refine lv_iload_n (pc := 47) hx hb dX8_pillar_47 rfl (lv_at hl 4 rfl) ?_
      refine lv_icmp_le (pc := 48) (tgt := 57) hx hb dX8_pillar_48 (by decide) (fun hc6 => ?_) (fun hc6 => ?_)
      · replace h := o_pos hc6 h
        exact w_X8_pillar_b57 C hK σ v1 v2 v3 v4 (f_X8_pillar_b19 σ v1 n) (fun v2 v3 v4 {H : Heap} {locs : List Loc} {ls : Array Slot}  hW hS hl h => ih v2 v3 v4 hW hS hl h) hW hS (lv_sub hl [1, 2, 3, 4, 5] rfl) h
      · replace h := o_neg hc6 h
        refine lv_iload (pc := 51) hx hb dX8_pillar_51 (lv_at hl 5 rfl) ?_
        refine lv_istore_n (pc := 53) (lv' := [(2, .int v4), (5, .int (f_J6_bitCount_0f7a4 r6)), (0, .ref (z + 0)), (1, .int v1), (3, .int v3), (4, .int v4)]) hx hb dX8_pillar_53 rfl hl (by decide) rfl (fun ls hl => ?_)
        refine lv_iload (pc := 54) hx hb dX8_pillar_54 (lv_at hl 1 rfl) ?_
        refine lv_istore_n (pc := 56) (lv' := [(3, .int (f_J6_bitCount_0f7a4 r6)), (2, .int v4), (5, .int (f_J6_bitCount_0f7a4 r6)), (0, .ref (z + 0)), (1, .int v1), (4, .int v4)]) hx hb dX8_pillar_56 rfl hl (by decide) rfl (fun ls hl => ?_)
        exact w_X8_pillar_b57 C hK σ v1 v4 (f_J6_bitCount_0f7a4 r6) v4 (f_X8_pillar_b19 σ v1 n) (fun v2 v3 v4 {H : Heap} {locs : List Loc} {ls : Array Slot}  hW hS hl h => ih v2 v3 v4 hW hS hl h) hW hS (lv_sub hl [3, 4, 1, 0, 5] rfl) h

theorem c_X8_pillar {K : Nat}  (hK : 4 ≤ K) {σ : Mem} {v1 : Int32} {r : Int32} (h : f_X8_pillar σ v1 = some r) : MC l D (Ec ac z) inC z ac (z, aK, aV) (Ac z) yX8_pillar cX8_pillar 6 (some .int) K [.ref (z + 0), .int v1] σ (some (.int r)) σ := by
  refine MC.of (fun q hq => by have := hq.1; show z ≤ q; omega) (plainFor_of_name (by decide)) (Nat.le_of_ble_eq_true rfl) ?_
  intro p e s m below meth c args C hW ls hl
  replace hl : lv_has ls 6 [(0, .ref (z + 0)), (1, .int v1)] := hl
  have hS : va_S (Ac z) s.heap s.heap [] := va_S.rf
  have hx := C.1.1
  have hb := C.1.2.1
  unfold f_X8_pillar at h
  refine lv_iload_n (pc := 0) hx hb dX8_pillar_0 rfl (lv_at hl 1 rfl) ?_
  refine lv_if_lt (pc := 1) (tgt := 9) hx hb dX8_pillar_1 (by decide) (fun hc0 => ?_) (fun hc0 => ?_)
  · replace h := o_pos hc0 h
    refine lv_bipush (pc := 9) (v := -2) hx hb dX8_pillar_9 (by decide) ?_
    exact g_ret (pc := 11) C hW hS rfl dX8_pillar_11 (congrArg (fun q => some (Value.int q)) (Option.some.inj h).symm) rfl
  · replace h := o_neg hc0 h
    refine lv_iload_n (pc := 4) hx hb dX8_pillar_4 rfl (lv_at hl 1 rfl) ?_
    refine lv_iconst (pc := 5) (v := 1) hx hb dX8_pillar_5 (by decide) ?_
    refine lv_icmp_le (pc := 6) (tgt := 12) hx hb dX8_pillar_6 (by decide) (fun hc1 => ?_) (fun hc1 => ?_)
    · replace h := o_pos hc1 h
      refine lv_iconst (pc := 12) (v := -1) hx hb dX8_pillar_12 (by decide) ?_
      refine lv_istore_n (pc := 13) (lv' := [(2, .int (-1 : Int32)), (0, .ref (z + 0)), (1, .int v1)]) hx hb dX8_pillar_13 rfl hl (by decide) rfl (fun ls hl => ?_)
      refine lv_iconst (pc := 14) (v := -1) hx hb dX8_pillar_14 (by decide) ?_
      refine lv_istore_n (pc := 15) (lv' := [(3, .int (-1 : Int32)), (2, .int (-1 : Int32)), (0, .ref (z + 0)), (1, .int v1)]) hx hb dX8_pillar_15 rfl hl (by decide) rfl (fun ls hl => ?_)
      refine lv_iconst (pc := 16) (v := 0) hx hb dX8_pillar_16 (by decide) ?_
      refine lv_istore (pc := 17) (lv' := [(4, .int (0 : Int32)), (3, .int (-1 : Int32)), (2, .int (-1 : Int32)), (0, .ref (z + 0)), (1, .int v1)]) hx hb dX8_pillar_17 hl (by decide) rfl (fun ls hl => ?_)
      exact w_X8_pillar_b19 C hK σ v1 FU (-1 : Int32) (-1 : Int32) (0 : Int32) hW hS (lv_sub hl [3, 4, 2, 1, 0] rfl) h
    · replace h := o_neg hc1 h
      refine lv_bipush (pc := 9) (v := -2) hx hb dX8_pillar_9 (by decide) ?_
      exact g_ret (pc := 11) C hW hS rfl dX8_pillar_11 (congrArg (fun q => some (Value.int q)) (Option.some.inj h).symm) rfl

theorem w_X8_day_b124 (C : CX cX8_day 6 RX8 (some .int) D ac p m c s args meth (z, aK, aV) (Ac z)) (hK : 112 ≤ K) {r : Int32} {σf : Mem}   (σ : Mem) (v1 : Int32) (v2 : Int32) (v3 : Int32) (s31 : Mem → Int32 → Option (Int32 × Mem)) (hs31 : ∀ (σ : Mem) (v3 : Int32) {H : Heap} {locs : List Loc} {ls : Array Slot} (_ : WC D ac z σ H) (_ : va_S (Ac z) s.heap H locs) (_ : lv_has ls 6 [(0, .ref (z + 0)), (1, .int v1), (2, .int v2), (3, .int v3)]) (_ : s31 σ v3 = some (r, σf)), W p l e (rma K 0 0) s m args below meth c H locs 0 0 (MQ below (QV D (Ec ac z) inC z (some (.int r)) σf (Ac z)) args s 0 0 (Ac z)) (F0 m 31 ls [])) {H : Heap} {locs : List Loc} {ls : Array Slot} (hW : WC D ac z σ H) (hS : va_S (Ac z) s.heap H locs) (hl : lv_has ls 6 [(0, .ref (z + 0)), (1, .int v1), (2, .int v2), (3, .int v3)]) (h : f_X8_day_b124 s31 σ v1 v2 v3 = some (r, σf)) : W p l e (rma K 0 0) s m args below meth c H locs 0 0 (MQ below (QV D (Ec ac z) inC z (some (.int r)) σf (Ac z)) args s 0 0 (Ac z)) (F0 m 124 ls []) := by
  have hx := C.1.1
  have hb := C.1.2.1
  unfold f_X8_day_b124 at h
  refine lv_iinc (pc := 124) (v := (v3 + 1)) (lv' := [(3, .int (v3 + 1)), (0, .ref (z + 0)), (1, .int v1), (2, .int v2)]) hx hb dX8_day_124 hl (k := 3) rfl rfl (by decide) rfl (fun ls hl => ?_)
  refine lv_goto (pc := 127) (tgt := 31) hx hb dX8_day_127 (by decide) ?_
  exact hs31 σ (v3 + 1) hW hS (lv_sub hl [1, 2, 3, 0] rfl) h

theorem w_X8_day_b121 (C : CX cX8_day 6 RX8 (some .int) D ac p m c s args meth (z, aK, aV) (Ac z)) (hK : 112 ≤ K) {r : Int32} {σf : Mem}   (σ : Mem) (v1 : Int32) (v2 : Int32) (v3 : Int32) (k1 : Int32) (k2 : Int32) (k3 : Int32) (s31 : Mem → Int32 → Option (Int32 × Mem)) (hs31 : ∀ (σ : Mem) (v3 : Int32) {H : Heap} {locs : List Loc} {ls : Array Slot} (_ : WC D ac z σ H) (_ : va_S (Ac z) s.heap H locs) (_ : lv_has ls 6 [(0, .ref (z + 0)), (1, .int v1), (2, .int v2), (3, .int v3)]) (_ : s31 σ v3 = some (r, σf)), W p l e (rma K 0 0) s m args below meth c H locs 0 0 (MQ below (QV D (Ec ac z) inC z (some (.int r)) σf (Ac z)) args s 0 0 (Ac z)) (F0 m 31 ls [])) {H : Heap} {locs : List Loc} {ls : Array Slot} (hW : WC D ac z σ H) (hS : va_S (Ac z) s.heap H locs) (hl : lv_has ls 6 [(0, .ref (z + 0)), (1, .int v1), (2, .int v2), (3, .int v3)]) (h : f_X8_day_b121 s31 σ v1 v2 v3 k1 k2 k3 = some (r, σf)) : W p l e (rma K 0 0) s m args below meth c H locs 0 0 (MQ below (QV D (Ec ac z) inC z (some (.int r)) σf (Ac z)) args s 0 0 (Ac z)) (F0 m 121 ls [.int k3, .int k2, .int k1, .ref (z + 77)]) := by
  have hx := C.1.1
  have hb := C.1.2.1
  unfold f_X8_day_b121 at h
  obtain ⟨σ20, hc18, h⟩ := o_b h
  refine g_virt (pc := 121) (st2 := []) (rest := []) C hW hS (c_X0_expect (K := K - 1) (by omega) hc18) mw_X8_285 (kin_13 kdc_77) (Ek_13 kdc_77) rfl (hRoom (by omega) (by decide)) rfl rfl rfl (Nat.le_of_ble_eq_true rfl) hl.1 dX8_day_121 (fun H locs hW hS => ?_)
  exact w_X8_day_b124 C hK σ20 v1 v2 v3 s31 hs31 hW hS (lv_sub hl [0, 1, 2, 3] rfl) h

theorem w_X8_day_b31 (C : CX cX8_day 6 RX8 (some .int) D ac p m c s args meth (z, aK, aV) (Ac z)) (hK : 112 ≤ K) {r : Int32} {σf : Mem}   (v1 : Int32) (v2 : Int32)  : ∀ (n : Nat) (σ : Mem) (v3 : Int32) {H : Heap} {locs : List Loc} {ls : Array Slot} (hW : WC D ac z σ H) (hS : va_S (Ac z) s.heap H locs) (hl : lv_has ls 6 [(0, .ref (z + 0)), (1, .int v1), (2, .int v2), (3, .int v3)]) (h : f_X8_day_b31 v1 v2 n σ v3 = some (r, σf)), W p l e (rma K 0 0) s m args below meth c H locs 0 0 (MQ below (QV D (Ec ac z) inC z (some (.int r)) σf (Ac z)) args s 0 0 (Ac z)) (F0 m 31 ls []) := by
  have hx := C.1.1
  have hb := C.1.2.1
  intro n
  induction n with
  | zero =>
    intro σ v3 H locs ls  hW hS hl h
    cases h
  | succ n ih =>
    intro σ v3 H locs ls  hW hS hl h
    rw [f_X8_day_b31.eq_2] at h
    refine lv_iload_n (pc := 31) hx hb dX8_day_31 rfl (lv_at hl 3 rfl) ?_
    refine lv_aload_n (pc := 32) hx hb dX8_day_32 rfl (lv_at hl 0 rfl) ?_
    refine gf_X8_2 (pc := 33) C hW kdc_0 fl_X8_28 dX8_day_33 ?_
    refine gf_X6_3 (pc := 36) C hW kdc_15 fl_X8_66 dX8_day_36 ?_
    refine lv_icmp_ge (pc := 39) (tgt := 130) hx hb dX8_day_39 (by decide) (fun hc4 => ?_) (fun hc4 => ?_)
    · replace h := o_pos hc4 h
      refine lv_aload_n (pc := 130) hx hb dX8_day_130 rfl (lv_at hl 0 rfl) ?_
      refine gf_X8_9 (pc := 131) C hW kdc_0 fl_X8_62 dX8_day_131 ?_
      obtain ⟨σ7, hc5, h⟩ := o_b h
      refine g_virt (pc := 134) (st2 := []) (rest := []) C hW hS (c_X0_findBest (K := K - 1) (by omega) hc5) mw_X8_289 (kin_13 kdc_77) (Ek_13 kdc_77) rfl (hRoom (by omega) (by decide)) rfl rfl rfl (Nat.le_of_ble_eq_true rfl) hl.1 dX8_day_134 (fun H locs hW hS => ?_)
      refine lv_iload_n (pc := 137) hx hb dX8_day_137 rfl (lv_at hl 2 rfl) ?_
      refine lv_if_ne (pc := 138) (tgt := 151) hx hb dX8_day_138 (by decide) (fun hc7 => ?_) (fun hc7 => ?_)
      · replace h := o_neg hc7 h
        refine lv_aload_n (pc := 151) hx hb dX8_day_151 rfl (lv_at hl 0 rfl) ?_
        refine gf_X8_9 (pc := 152) C hW kdc_0 fl_X8_62 dX8_day_152 ?_
        refine gf_X0_4 (pc := 155) C hW kdc_77 fl_X8_295 dX8_day_155 ?_
        exact g_ret (pc := 158) C hW hS rfl dX8_day_158 (congrArg (fun q => some (Value.int q)) (o_r h).1) (o_r h).2
      · replace h := o_pos hc7 h
        refine lv_aload_n (pc := 141) hx hb dX8_day_141 rfl (lv_at hl 0 rfl) ?_
        refine gf_X8_9 (pc := 142) C hW kdc_0 fl_X8_62 dX8_day_142 ?_
        refine gf_X0_3 (pc := 145) C hW kdc_77 fl_X8_292 dX8_day_145 ?_
        refine lv_goto (pc := 148) (tgt := 158) hx hb dX8_day_148 (by decide) ?_
        exact g_ret (pc := 158) C hW hS rfl dX8_day_158 (congrArg (fun q => some (Value.int q)) (o_r h).1) (o_r h).2
    · replace h := o_neg hc4 h
      refine lv_aload_n (pc := 42) hx hb dX8_day_42 rfl (lv_at hl 0 rfl) ?_
      refine gf_X8_2 (pc := 43) C hW kdc_0 fl_X8_28 dX8_day_43 ?_
      refine lv_iload_n (pc := 46) hx hb dX8_day_46 rfl (lv_at hl 3 rfl) ?_
      obtain ⟨r10, hc8, h⟩ := o_b h
      refine g_virt (pc := 47) (st2 := [rv z r10]) (rest := []) C hW hS (c_X6_manAt (K := K - 1) (by omega) kdc_15 hc8) mw_X8_109 (kin_6 kdc_15) (Ek_6 kdc_15) rfl (hRoom (by omega) (by decide)) rfl rfl rfl (Nat.le_of_ble_eq_true rfl) hl.1 dX8_day_47 (fun H locs hW hS => ?_)
      refine g_astoreq (pc := 50) (o := r10) (lv' := [(4, rv z r10), (0, .ref (z + 0)), (1, .int v1), (2, .int v2), (3, .int v3)]) C dX8_day_50 hl (by decide) rfl (fun ls hl => ?_)
      refine g_aloadq (pc := 52) (o := r10) C dX8_day_52 (lv_at hl 0 rfl) ?_
      refine g_ifnull (pc := 54) (o := r10) (tgt := 124) C dX8_day_54 (by decide) (fun hn => ?_) (fun q11 hn => ?_)
      · subst hn
        replace h := o_nn h
        replace hl : lv_has ls 6 [(4, .null), (0, .ref (z + 0)), (1, .int v1), (2, .int v2), (3, .int v3)] := hl
        exact w_X8_day_b124 C hK σ v1 v2 v3 (f_X8_day_b31 v1 v2 n) (fun σ v3 {H : Heap} {locs : List Loc} {ls : Array Slot}  hW hS hl h => ih σ v3 hW hS hl h) hW hS (lv_sub hl [1, 2, 3, 4] rfl) h
      · subst hn
        replace h := o_ns h
        replace hl : lv_has ls 6 [(4, .ref (z + q11)), (0, .ref (z + 0)), (1, .int v1), (2, .int v2), (3, .int v3)] := hl
        refine lv_aload (pc := 57) hx hb dX8_day_57 (lv_at hl 0 rfl) ?_
        refine gf_X1_5 (pc := 59) C hW ((ty_X6_manAt kdc_15 hc8) q11 rfl) fl_X8_140 dX8_day_59 ?_
        refine lv_if_ne (pc := 62) (tgt := 124) hx hb dX8_day_62 (by decide) (fun hc11 => ?_) (fun hc11 => ?_)
        · replace h := o_neg hc11 h
          exact w_X8_day_b124 C hK σ v1 v2 v3 (f_X8_day_b31 v1 v2 n) (fun σ v3 {H : Heap} {locs : List Loc} {ls : Array Slot}  hW hS hl h => ih σ v3 hW hS hl h) hW hS (lv_sub hl [1, 2, 3, 4] rfl) h
        · replace h := o_pos hc11 h
          refine lv_aload_n (pc := 65) hx hb dX8_day_65 rfl (lv_at hl 1 rfl) ?_
          refine gf_X8_0 (pc := 66) C hW kdc_0 fl_X8_10 dX8_day_66 ?_
          refine lv_aload_n (pc := 69) hx hb dX8_day_69 rfl (lv_at hl 1 rfl) ?_
          refine gf_X8_2 (pc := 70) C hW kdc_0 fl_X8_28 dX8_day_70 ?_
          refine gf_X6_6 (pc := 73) C hW kdc_15 fl_X8_79 dX8_day_73 ?_
          refine lv_iconst (pc := 76) (v := 1) hx hb dX8_day_76 (by decide) ?_
          refine lv_aload (pc := 77) hx hb dX8_day_77 (lv_at hl 0 rfl) ?_
          refine lv_aload_n (pc := 79) hx hb dX8_day_79 rfl (lv_at hl 1 rfl) ?_
          refine gf_X8_2 (pc := 80) C hW kdc_0 fl_X8_28 dX8_day_80 ?_
          refine gf_X6_5 (pc := 83) C hW kdc_15 fl_X8_73 dX8_day_83 ?_
          refine lv_aload_n (pc := 86) hx hb dX8_day_86 rfl (lv_at hl 1 rfl) ?_
          refine gf_X8_2 (pc := 87) C hW kdc_0 fl_X8_28 dX8_day_87 ?_
          refine lv_iload_n (pc := 90) hx hb dX8_day_90 rfl (lv_at hl 4 rfl) ?_
          obtain ⟨r14, hc12, h⟩ := o_b h
          refine g_virt (pc := 91) (st2 := [.int r14, .int (σ 15 5), .ref (z + q11), .int (1 : Int32), .int (σ 15 6), .ref (z + 1)]) (rest := [.int (σ 15 5), .ref (z + q11), .int (1 : Int32), .int (σ 15 6), .ref (z + 1)]) C hW hS (c_X6_owed (K := K - 1) (by omega) kdc_15 hc12) mw_X8_113 (kin_6 kdc_15) (Ek_6 kdc_15) rfl (hRoom (by omega) (by decide)) rfl rfl rfl (Nat.le_of_ble_eq_true rfl) hl.1 dX8_day_91 (fun H locs hW hS => ?_)
          obtain ⟨r16, σ17, hc14, h⟩ := o_b2 h
          refine g_virt (pc := 94) (st2 := [.int r16]) (rest := []) C hW hS (c_X3_says (K := K - 1) (by omega) ((ty_X6_manAt kdc_15 hc8) q11 rfl) hc14) mw_X8_117 (kin_1 kdc_1) (Ek_1 kdc_1) rfl (hRoom (by omega) (by decide)) rfl rfl rfl (Nat.le_of_ble_eq_true rfl) hl.1 dX8_day_94 (fun H locs hW hS => ?_)
          refine lv_iconst (pc := 97) (v := 1) hx hb dX8_day_97 (by decide) ?_
          refine lv_iadd (pc := 98) hx hb dX8_day_98 ?_
          refine lv_istore (pc := 99) (lv' := [(5, .int (r16 + (1 : Int32))), (4, .ref (z + q11)), (0, .ref (z + 0)), (1, .int v1), (2, .int v2), (3, .int v3)]) hx hb dX8_day_99 hl (by decide) rfl (fun ls hl => ?_)
          refine lv_aload_n (pc := 101) hx hb dX8_day_101 rfl (lv_at hl 2 rfl) ?_
          refine gf_X8_9 (pc := 102) C hW kdc_0 fl_X8_62 dX8_day_102 ?_
          refine lv_iload_n (pc := 105) hx hb dX8_day_105 rfl (lv_at hl 5 rfl) ?_
          refine lv_iload (pc := 106) hx hb dX8_day_106 (lv_at hl 0 rfl) ?_
          refine lv_iload_n (pc := 108) hx hb dX8_day_108 rfl (lv_at hl 3 rfl) ?_
          refine lv_if_ne (pc := 109) (tgt := 116) hx hb dX8_day_109 (by decide) (fun hc17 => ?_) (fun hc17 => ?_)
          · replace h := o_neg hc17 h
            refine lv_aload (pc := 116) hx hb dX8_day_116 (lv_at hl 1 rfl) ?_
            refine gf_X1_4 (pc := 118) C hW ((ty_X6_manAt kdc_15 hc8) q11 rfl) fl_X8_131 dX8_day_118 ?_
            exact w_X8_day_b121 C hK σ17 v1 v2 v3 v3 (r16 + (1 : Int32)) (σ17 q11 4) (f_X8_day_b31 v1 v2 n) (fun σ v3 {H : Heap} {locs : List Loc} {ls : Array Slot}  hW hS hl h => ih σ v3 hW hS hl h) hW hS (lv_sub hl [2, 3, 4, 5] rfl) h
          · replace h := o_pos hc17 h
            refine lv_iconst (pc := 112) (v := 1) hx hb dX8_day_112 (by decide) ?_
            refine lv_goto (pc := 113) (tgt := 121) hx hb dX8_day_113 (by decide) ?_
            exact w_X8_day_b121 C hK σ17 v1 v2 v3 v3 (r16 + (1 : Int32)) (1 : Int32) (f_X8_day_b31 v1 v2 n) (fun σ v3 {H : Heap} {locs : List Loc} {ls : Array Slot}  hW hS hl h => ih σ v3 hW hS hl h) hW hS (lv_sub hl [2, 3, 4, 5] rfl) h

theorem c_X8_day {K : Nat}  (hK : 112 ≤ K) {σ : Mem} {σf : Mem} {v1 : Int32} {v2 : Int32} {r : Int32} (h : f_X8_day σ v1 v2 = some (r, σf)) : MC l D (Ec ac z) inC z ac (z, aK, aV) (Ac z) yX8_day cX8_day 6 (some .int) K [.ref (z + 0), .int v1, .int v2] σ (some (.int r)) σf := by
  refine MC.of (fun q hq => by have := hq.1; show z ≤ q; omega) (plainFor_of_name (by decide)) (Nat.le_of_ble_eq_true rfl) ?_
  intro p e s m below meth c args C hW ls hl
  replace hl : lv_has ls 6 [(0, .ref (z + 0)), (1, .int v1), (2, .int v2)] := hl
  have hS : va_S (Ac z) s.heap s.heap [] := va_S.rf
  have hx := C.1.1
  have hb := C.1.2.1
  unfold f_X8_day at h
  refine lv_iload_n (pc := 0) hx hb dX8_day_0 rfl (lv_at hl 1 rfl) ?_
  refine lv_if_lt (pc := 1) (tgt := 18) hx hb dX8_day_1 (by decide) (fun hc0 => ?_) (fun hc0 => ?_)
  · replace h := o_pos hc0 h
    refine lv_bipush (pc := 18) (v := -2) hx hb dX8_day_18 (by decide) ?_
    exact g_ret (pc := 20) C hW hS rfl dX8_day_20 (congrArg (fun q => some (Value.int q)) (o_r h).1) (o_r h).2
  · replace h := o_neg hc0 h
    refine lv_iload_n (pc := 4) hx hb dX8_day_4 rfl (lv_at hl 1 rfl) ?_
    refine lv_iconst (pc := 5) (v := 1) hx hb dX8_day_5 (by decide) ?_
    refine lv_icmp_gt (pc := 6) (tgt := 18) hx hb dX8_day_6 (by decide) (fun hc1 => ?_) (fun hc1 => ?_)
    · replace h := o_pos hc1 h
      refine lv_bipush (pc := 18) (v := -2) hx hb dX8_day_18 (by decide) ?_
      exact g_ret (pc := 20) C hW hS rfl dX8_day_20 (congrArg (fun q => some (Value.int q)) (o_r h).1) (o_r h).2
    · replace h := o_neg hc1 h
      refine lv_iload_n (pc := 9) hx hb dX8_day_9 rfl (lv_at hl 2 rfl) ?_
      refine lv_if_lt (pc := 10) (tgt := 18) hx hb dX8_day_10 (by decide) (fun hc2 => ?_) (fun hc2 => ?_)
      · replace h := o_pos hc2 h
        refine lv_bipush (pc := 18) (v := -2) hx hb dX8_day_18 (by decide) ?_
        exact g_ret (pc := 20) C hW hS rfl dX8_day_20 (congrArg (fun q => some (Value.int q)) (o_r h).1) (o_r h).2
      · replace h := o_neg hc2 h
        refine lv_iload_n (pc := 13) hx hb dX8_day_13 rfl (lv_at hl 2 rfl) ?_
        refine lv_iconst (pc := 14) (v := 1) hx hb dX8_day_14 (by decide) ?_
        refine lv_icmp_le (pc := 15) (tgt := 21) hx hb dX8_day_15 (by decide) (fun hc3 => ?_) (fun hc3 => ?_)
        · replace h := o_pos hc3 h
          refine lv_aload_n (pc := 21) hx hb dX8_day_21 rfl (lv_at hl 0 rfl) ?_
          refine gf_X8_9 (pc := 22) C hW kdc_0 fl_X8_62 dX8_day_22 ?_
          refine lv_iconst (pc := 25) (v := 0) hx hb dX8_day_25 (by decide) ?_
          refine pf_X0_2 (pc := 26) C hW hS kdc_77 fl_X8_282 dX8_day_26 (fun H locs hW hS => ?_)
          refine lv_iconst (pc := 29) (v := 0) hx hb dX8_day_29 (by decide) ?_
          refine lv_istore_n (pc := 30) (lv' := [(3, .int (0 : Int32)), (0, .ref (z + 0)), (1, .int v1), (2, .int v2)]) hx hb dX8_day_30 rfl hl (by decide) rfl (fun ls hl => ?_)
          exact w_X8_day_b31 C hK v1 v2 FU (ms σ 77 2 (0 : Int32)) (0 : Int32) hW hS (lv_sub hl [1, 2, 3, 0] rfl) h
        · replace h := o_neg hc3 h
          refine lv_bipush (pc := 18) (v := -2) hx hb dX8_day_18 (by decide) ?_
          exact g_ret (pc := 20) C hW hS rfl dX8_day_20 (congrArg (fun q => some (Value.int q)) (o_r h).1) (o_r h).2

theorem c_X8_refusalOf_ {K : Nat}  (hK : 1 ≤ K) {σ : Mem} {v1 : Int32} {r : Int32} (h : f_X8_refusalOf_ σ v1 = some r) : MC l D (Ec ac z) inC z ac (z, aK, aV) (Ac z) yX8_refusalOf_ cX8_refusalOf_ 3 (some .int) K [.ref (z + 0), .int v1] σ (some (.int r)) σ := by
  refine MC.of (fun q hq => by have := hq.1; show z ≤ q; omega) (plainFor_of_name (by decide)) (Nat.le_of_ble_eq_true rfl) ?_
  intro p e s m below meth c args C hW ls hl
  replace hl : lv_has ls 3 [(0, .ref (z + 0)), (1, .int v1)] := hl
  have hS : va_S (Ac z) s.heap s.heap [] := va_S.rf
  have hx := C.1.1
  have hb := C.1.2.1
  unfold f_X8_refusalOf_ at h
  refine lv_aload_n (pc := 0) hx hb dX8_refusalOf__0 rfl (lv_at hl 0 rfl) ?_
  refine lv_iload_n (pc := 1) hx hb dX8_refusalOf__1 rfl (lv_at hl 1 rfl) ?_
  obtain ⟨r2, hc0, h⟩ := o_b h
  refine g_virt (pc := 2) (st2 := [rv z r2]) (rest := []) C hW hS (c_X8_sheetAt (K := K - 1) (by omega) hc0) mw_X8_220 (kin_0 kdc_0) (Ek_0 kdc_0) rfl (hRoom (by omega) (by decide)) rfl rfl rfl (Nat.le_of_ble_eq_true rfl) hl.1 dX8_refusalOf__2 (fun H locs hW hS => ?_)
  refine g_astoreq_n (pc := 5) (o := r2) (lv' := [(2, rv z r2), (0, .ref (z + 0)), (1, .int v1)]) C dX8_refusalOf__5 rfl hl (by decide) rfl (fun ls hl => ?_)
  refine g_aloadq_n (pc := 6) (o := r2) C dX8_refusalOf__6 rfl (lv_at hl 0 rfl) ?_
  refine g_ifnonnull (pc := 7) (o := r2) (tgt := 13) C dX8_refusalOf__7 (by decide) (fun hn => ?_) (fun q3 hn => ?_)
  · subst hn
    replace h := o_nn h
    replace hl : lv_has ls 3 [(2, .null), (0, .ref (z + 0)), (1, .int v1)] := hl
    refine lv_bipush (pc := 10) (v := -2) hx hb dX8_refusalOf__10 (by decide) ?_
    exact g_ret (pc := 12) C hW hS rfl dX8_refusalOf__12 (congrArg (fun q => some (Value.int q)) (Option.some.inj h).symm) rfl
  · subst hn
    replace h := o_ns h
    replace hl : lv_has ls 3 [(2, .ref (z + q3)), (0, .ref (z + 0)), (1, .int v1)] := hl
    refine lv_aload_n (pc := 13) hx hb dX8_refusalOf__13 rfl (lv_at hl 0 rfl) ?_
    refine gf_X4_1 (pc := 14) C hW ((ty_X8_sheetAt  hc0) q3 rfl) fl_X8_224 dX8_refusalOf__14 ?_
    refine lv_iconst (pc := 17) (v := -1) hx hb dX8_refusalOf__17 (by decide) ?_
    refine lv_icmp_ne (pc := 18) (tgt := 26) hx hb dX8_refusalOf__18 (by decide) (fun hc3 => ?_) (fun hc3 => ?_)
    · replace h := o_neg hc3 h
      refine lv_iconst (pc := 26) (v := 0) hx hb dX8_refusalOf__26 (by decide) ?_
      exact g_ret (pc := 27) C hW hS rfl dX8_refusalOf__27 (congrArg (fun q => some (Value.int q)) (Option.some.inj h).symm) rfl
    · replace h := o_pos hc3 h
      refine lv_bipush (pc := 21) (v := -11) hx hb dX8_refusalOf__21 (by decide) ?_
      refine lv_goto (pc := 23) (tgt := 27) hx hb dX8_refusalOf__23 (by decide) ?_
      exact g_ret (pc := 27) C hW hS rfl dX8_refusalOf__27 (congrArg (fun q => some (Value.int q)) (Option.some.inj h).symm) rfl

theorem c_X8_refusalOf {K : Nat}  (hK : 2 ≤ K) {σ : Mem} {v1 : Int32} {v2 : Int32} {r : Int32} (h : f_X8_refusalOf σ v1 v2 = some r) : MC l D (Ec ac z) inC z ac (z, aK, aV) (Ac z) yX8_refusalOf cX8_refusalOf 4 (some .int) K [.ref (z + 0), .int v1, .int v2] σ (some (.int r)) σ := by
  refine MC.of (fun q hq => by have := hq.1; show z ≤ q; omega) (plainFor_of_name (by decide)) (Nat.le_of_ble_eq_true rfl) ?_
  intro p e s m below meth c args C hW ls hl
  replace hl : lv_has ls 4 [(0, .ref (z + 0)), (1, .int v1), (2, .int v2)] := hl
  have hS : va_S (Ac z) s.heap s.heap [] := va_S.rf
  have hx := C.1.1
  have hb := C.1.2.1
  unfold f_X8_refusalOf at h
  refine lv_aload_n (pc := 0) hx hb dX8_refusalOf_0 rfl (lv_at hl 0 rfl) ?_
  refine lv_iload_n (pc := 1) hx hb dX8_refusalOf_1 rfl (lv_at hl 1 rfl) ?_
  obtain ⟨r2, hc0, h⟩ := o_b h
  refine g_virt (pc := 2) (st2 := [.int r2]) (rest := []) C hW hS (c_X8_refusalOf_ (K := K - 1) (by omega) hc0) mw_X8_307 (kin_0 kdc_0) (Ek_0 kdc_0) rfl (hRoom (by omega) (by decide)) rfl rfl rfl (Nat.le_of_ble_eq_true rfl) hl.1 dX8_refusalOf_2 (fun H locs hW hS => ?_)
  refine lv_istore_n (pc := 5) (lv' := [(3, .int r2), (0, .ref (z + 0)), (1, .int v1), (2, .int v2)]) hx hb dX8_refusalOf_5 rfl hl (by decide) rfl (fun ls hl => ?_)
  refine lv_iload_n (pc := 6) hx hb dX8_refusalOf_6 rfl (lv_at hl 0 rfl) ?_
  refine lv_if_ne (pc := 7) (tgt := 26) hx hb dX8_refusalOf_7 (by decide) (fun hc2 => ?_) (fun hc2 => ?_)
  · replace h := o_neg hc2 h
    refine lv_iload_n (pc := 26) hx hb dX8_refusalOf_26 rfl (lv_at hl 0 rfl) ?_
    exact g_ret (pc := 27) C hW hS rfl dX8_refusalOf_27 (congrArg (fun q => some (Value.int q)) (Option.some.inj h).symm) rfl
  · replace h := o_pos hc2 h
    refine lv_aload_n (pc := 10) hx hb dX8_refusalOf_10 rfl (lv_at hl 1 rfl) ?_
    refine gf_X8_2 (pc := 11) C hW kdc_0 fl_X8_28 dX8_refusalOf_11 ?_
    refine lv_iload_n (pc := 14) hx hb dX8_refusalOf_14 rfl (lv_at hl 3 rfl) ?_
    obtain ⟨r5, hc3, h⟩ := o_b h
    refine g_virt (pc := 15) (st2 := [rv z r5]) (rest := []) C hW hS (c_X6_manAt (K := K - 1) (by omega) kdc_15 hc3) mw_X8_109 (kin_6 kdc_15) (Ek_6 kdc_15) rfl (hRoom (by omega) (by decide)) rfl rfl rfl (Nat.le_of_ble_eq_true rfl) hl.1 dX8_refusalOf_15 (fun H locs hW hS => ?_)
    refine g_ifnonnull (pc := 18) (o := r5) (tgt := 26) C dX8_refusalOf_18 (by decide) (fun hn => ?_) (fun q6 hn => ?_)
    · subst hn
      replace h := o_nn h
      replace hl : lv_has ls 4 [(3, .int r2), (0, .ref (z + 0)), (1, .int v1), (2, .int v2)] := hl
      refine lv_bipush (pc := 21) (v := -5) hx hb dX8_refusalOf_21 (by decide) ?_
      refine lv_goto (pc := 23) (tgt := 27) hx hb dX8_refusalOf_23 (by decide) ?_
      exact g_ret (pc := 27) C hW hS rfl dX8_refusalOf_27 (congrArg (fun q => some (Value.int q)) (Option.some.inj h).symm) rfl
    · subst hn
      replace h := o_ns h
      replace hl : lv_has ls 4 [(3, .int r2), (0, .ref (z + 0)), (1, .int v1), (2, .int v2)] := hl
      refine lv_iload_n (pc := 26) hx hb dX8_refusalOf_26 rfl (lv_at hl 0 rfl) ?_
      exact g_ret (pc := 27) C hW hS rfl dX8_refusalOf_27 (congrArg (fun q => some (Value.int q)) (Option.some.inj h).symm) rfl

theorem w_X8_otherwise_b31 (C : CX cX8_otherwise 8 RX8 (some .int) D ac p m c s args meth (z, aK, aV) (Ac z)) (hK : 4 ≤ K) {r : Int32} {σf : Mem}   (v1 : Nat) (v4 : Int32) (v5 : Int32) (v6 : Int32)  : ∀ (n : Nat) (σ : Mem) (v7 : Int32) {H : Heap} {locs : List Loc} {ls : Array Slot} (tv1 : kd v1 = 12) (hW : WC D ac z σ H) (hS : va_S (Ac z) s.heap H locs) (hl : lv_has ls 8 [(0, .ref (z + 0)), (1, .ref (z + v1)), (4, .int v4), (5, .int v5), (6, .int v6), (7, .int v7)]) (h : f_X8_otherwise_b31 v1 v4 v5 v6 n σ v7 = some (r, σf)), W p l e (rma K 0 0) s m args below meth c H locs 0 0 (MQ below (QV D (Ec ac z) inC z (some (.int r)) σf (Ac z)) args s 0 0 (Ac z)) (F0 m 31 ls []) := by
  have hx := C.1.1
  have hb := C.1.2.1
  intro n
  induction n with
  | zero =>
    intro σ v7 H locs ls tv1 hW hS hl h
    cases h
  | succ n ih =>
    intro σ v7 H locs ls tv1 hW hS hl h
    rw [f_X8_otherwise_b31.eq_2] at h
    refine lv_iload (pc := 31) hx hb dX8_otherwise_31 (lv_at hl 5 rfl) ?_
    refine lv_aload_n (pc := 33) hx hb dX8_otherwise_33 rfl (lv_at hl 1 rfl) ?_
    refine gf_X4_2 (pc := 34) C hW tv1 fl_X8_235 dX8_otherwise_34 ?_
    refine lv_icmp_ge (pc := 37) (tgt := 92) hx hb dX8_otherwise_37 (by decide) (fun hc6 => ?_) (fun hc6 => ?_)
    · replace h := o_pos hc6 h
      refine lv_iconst (pc := 92) (v := -1) hx hb dX8_otherwise_92 (by decide) ?_
      exact g_ret (pc := 93) C hW hS rfl dX8_otherwise_93 (congrArg (fun q => some (Value.int q)) (o_r h).1) (o_r h).2
    · replace h := o_neg hc6 h
      refine lv_aload_n (pc := 40) hx hb dX8_otherwise_40 rfl (lv_at hl 0 rfl) ?_
      refine gf_X8_7 (pc := 41) C hW kdc_0 fl_X8_52 dX8_otherwise_41 ?_
      refine lv_aload_n (pc := 44) hx hb dX8_otherwise_44 rfl (lv_at hl 0 rfl) ?_
      refine gf_X8_0 (pc := 45) C hW kdc_0 fl_X8_10 dX8_otherwise_45 ?_
      refine lv_iload (pc := 48) hx hb dX8_otherwise_48 (lv_at hl 3 rfl) ?_
      refine lv_aload_n (pc := 50) hx hb dX8_otherwise_50 rfl (lv_at hl 0 rfl) ?_
      refine gf_X8_7 (pc := 51) C hW kdc_0 fl_X8_52 dX8_otherwise_51 ?_
      refine lv_iload (pc := 54) hx hb dX8_otherwise_54 (lv_at hl 2 rfl) ?_
      refine lv_iload (pc := 56) hx hb dX8_otherwise_56 (lv_at hl 5 rfl) ?_
      refine lv_iadd (pc := 58) hx hb dX8_otherwise_58 ?_
      refine lv_iload (pc := 59) hx hb dX8_otherwise_59 (lv_at hl 4 rfl) ?_
      obtain ⟨r9, σ10, hc7, h⟩ := o_b2 h
      refine g_virt (pc := 61) (st2 := [.int r9, .ref (z + 75)]) (rest := [.ref (z + 75)]) C hW hS (c_X3_grown (K := K - 1) (by omega) kdc_75 hc7) mw_X8_216 (kin_1 kdc_1) (Ek_1 kdc_1) rfl (hRoom (by omega) (by decide)) rfl rfl rfl (Nat.le_of_ble_eq_true rfl) hl.1 dX8_otherwise_61 (fun H locs hW hS => ?_)
      refine pf_X1_2 (pc := 64) C hW hS kdc_75 fl_X8_125 dX8_otherwise_64 (fun H locs hW hS => ?_)
      refine lv_aload_n (pc := 67) hx hb dX8_otherwise_67 rfl (lv_at hl 0 rfl) ?_
      refine gf_X8_7 (pc := 68) C hW kdc_0 fl_X8_52 dX8_otherwise_68 ?_
      refine gf_X1_2 (pc := 71) C hW kdc_75 fl_X8_125 dX8_otherwise_71 ?_
      refine lv_aload_n (pc := 74) hx hb dX8_otherwise_74 rfl (lv_at hl 1 rfl) ?_
      refine lv_iload (pc := 75) hx hb dX8_otherwise_75 (lv_at hl 5 rfl) ?_
      obtain ⟨r12, hc10, h⟩ := o_b h
      refine g_virt (pc := 77) (st2 := [.int r12, .int ((ms σ10 75 2 r9) 75 2)]) (rest := [.int ((ms σ10 75 2 r9) 75 2)]) C hW hS (c_X4_number (K := K - 1) (by omega) tv1 hc10) mw_X8_252 (kin_12 tv1) (Ek_12 tv1) rfl (hRoom (by omega) (by decide)) rfl rfl rfl (Nat.le_of_ble_eq_true rfl) hl.1 dX8_otherwise_77 (fun H locs hW hS => ?_)
      refine lv_icmp_eq (pc := 80) (tgt := 86) hx hb dX8_otherwise_80 (by decide) (fun hc12 => ?_) (fun hc12 => ?_)
      · replace h := o_pos hc12 h
        refine lv_iinc (pc := 86) (v := (v7 + 1)) (lv' := [(7, .int (v7 + 1)), (0, .ref (z + 0)), (1, .ref (z + v1)), (4, .int v4), (5, .int v5), (6, .int v6)]) hx hb dX8_otherwise_86 hl (k := 5) rfl rfl (by decide) rfl (fun ls hl => ?_)
        refine lv_goto (pc := 89) (tgt := 31) hx hb dX8_otherwise_89 (by decide) ?_
        exact ih (ms σ10 75 2 r9) (v7 + 1) tv1 hW hS (lv_sub hl [1, 2, 3, 4, 5, 0] rfl) h
      · replace h := o_neg hc12 h
        refine lv_iload (pc := 83) hx hb dX8_otherwise_83 (lv_at hl 5 rfl) ?_
        exact g_ret (pc := 85) C hW hS rfl dX8_otherwise_85 (congrArg (fun q => some (Value.int q)) (o_r h).1) (o_r h).2

theorem c_X8_otherwise {K : Nat}  (hK : 4 ≤ K) {σ : Mem} {σf : Mem} {v1 : Option Nat} {v2 : Int32} {v3 : Option Nat} {v4 : Int32} {v5 : Int32} {r : Int32} (hk1 : ∀ k : Nat, v1 = some k → kd k = 12) (hk3 : ∀ k : Nat, v3 = some k → kd k = 9) (h : f_X8_otherwise σ v1 v2 v3 v4 v5 = some (r, σf)) : MC l D (Ec ac z) inC z ac (z, aK, aV) (Ac z) yX8_otherwise cX8_otherwise 8 (some .int) K [.ref (z + 0), rv z v1, .int v2, rv z v3, .int v4, .int v5] σ (some (.int r)) σf := by
  refine MC.of (fun q hq => by have := hq.1; show z ≤ q; omega) (plainFor_of_name (by decide)) (by cases v1 <;> cases v3 <;> exact Nat.le_of_ble_eq_true rfl) ?_
  intro p e s m below meth c args C hW ls hl
  replace hl : lv_has ls 8 [(0, .ref (z + 0)), (1, rv z v1), (2, .int v2), (3, rv z v3), (4, .int v4), (5, .int v5)] := by cases v1 <;> cases v3 <;> exact hl
  have hS : va_S (Ac z) s.heap s.heap [] := va_S.rf
  have hx := C.1.1
  have hb := C.1.2.1
  unfold f_X8_otherwise at h
  refine g_aloadq_n (pc := 0) (o := v1) C dX8_otherwise_0 rfl (lv_at hl 1 rfl) ?_
  refine g_ifnull (pc := 1) (o := v1) (tgt := 8) C dX8_otherwise_1 (by decide) (fun hn => ?_) (fun q1 hn => ?_)
  · subst hn
    replace h := o_nn h
    replace hl : lv_has ls 8 [(0, .ref (z + 0)), (1, .null), (2, .int v2), (3, rv z v3), (4, .int v4), (5, .int v5)] := hl
    refine lv_iconst (pc := 8) (v := -1) hx hb dX8_otherwise_8 (by decide) ?_
    exact g_ret (pc := 9) C hW hS rfl dX8_otherwise_9 (congrArg (fun q => some (Value.int q)) (o_r h).1) (o_r h).2
  · subst hn
    replace h := o_ns h
    replace hl : lv_has ls 8 [(0, .ref (z + 0)), (1, .ref (z + q1)), (2, .int v2), (3, rv z v3), (4, .int v4), (5, .int v5)] := hl
    refine g_aloadq_n (pc := 4) (o := v3) C dX8_otherwise_4 rfl (lv_at hl 3 rfl) ?_
    refine g_ifnonnull (pc := 5) (o := v3) (tgt := 10) C dX8_otherwise_5 (by decide) (fun hn => ?_) (fun q2 hn => ?_)
    · subst hn
      replace h := o_nn h
      replace hl : lv_has ls 8 [(0, .ref (z + 0)), (1, .ref (z + q1)), (2, .int v2), (3, .null), (4, .int v4), (5, .int v5)] := hl
      refine lv_iconst (pc := 8) (v := -1) hx hb dX8_otherwise_8 (by decide) ?_
      exact g_ret (pc := 9) C hW hS rfl dX8_otherwise_9 (congrArg (fun q => some (Value.int q)) (o_r h).1) (o_r h).2
    · subst hn
      replace h := o_ns h
      replace hl : lv_has ls 8 [(0, .ref (z + 0)), (1, .ref (z + q1)), (2, .int v2), (3, .ref (z + q2)), (4, .int v4), (5, .int v5)] := hl
      refine lv_aload_n (pc := 10) hx hb dX8_otherwise_10 rfl (lv_at hl 0 rfl) ?_
      refine gf_X8_7 (pc := 11) C hW kdc_0 fl_X8_52 dX8_otherwise_11 ?_
      refine lv_aload_n (pc := 14) hx hb dX8_otherwise_14 rfl (lv_at hl 3 rfl) ?_
      obtain ⟨σ4, hc2, h⟩ := o_b h
      refine g_virt (pc := 15) (st2 := []) (rest := []) C hW hS (c_X1_become (K := K - 1) (by omega) kdc_75 (fun k hk => by cases hk; exact (hk3 q2 rfl)) hc2) mw_X8_213 (kin_9 kdc_75) (Ek_9 kdc_75) rfl (hRoom (by omega) (by decide)) rfl rfl rfl (Nat.le_of_ble_eq_true rfl) hl.1 dX8_otherwise_15 (fun H locs hW hS => ?_)
      refine lv_aload_n (pc := 18) hx hb dX8_otherwise_18 rfl (lv_at hl 0 rfl) ?_
      refine gf_X8_2 (pc := 19) C hW kdc_0 fl_X8_28 dX8_otherwise_19 ?_
      refine lv_iload_n (pc := 22) hx hb dX8_otherwise_22 rfl (lv_at hl 2 rfl) ?_
      obtain ⟨r6, hc4, h⟩ := o_b h
      refine g_virt (pc := 23) (st2 := [.int r6]) (rest := []) C hW hS (c_X6_owed (K := K - 1) (by omega) kdc_15 hc4) mw_X8_113 (kin_6 kdc_15) (Ek_6 kdc_15) rfl (hRoom (by omega) (by decide)) rfl rfl rfl (Nat.le_of_ble_eq_true rfl) hl.1 dX8_otherwise_23 (fun H locs hW hS => ?_)
      refine lv_istore (pc := 26) (lv' := [(6, .int r6), (0, .ref (z + 0)), (1, .ref (z + q1)), (2, .int v2), (3, .ref (z + q2)), (4, .int v4), (5, .int v5)]) hx hb dX8_otherwise_26 hl (by decide) rfl (fun ls hl => ?_)
      refine lv_iconst (pc := 28) (v := 0) hx hb dX8_otherwise_28 (by decide) ?_
      refine lv_istore (pc := 29) (lv' := [(7, .int (0 : Int32)), (6, .int r6), (0, .ref (z + 0)), (1, .ref (z + q1)), (2, .int v2), (3, .ref (z + q2)), (4, .int v4), (5, .int v5)]) hx hb dX8_otherwise_29 hl (by decide) rfl (fun ls hl => ?_)
      exact w_X8_otherwise_b31 C hK q1 v4 v5 r6 FU σ4 (0 : Int32) (hk1 q1 rfl) hW hS (lv_sub hl [2, 3, 6, 7, 1, 0] rfl) h

theorem c_X8_judge {K : Nat}  (hK : 5 ≤ K) {σ : Mem} {σf : Mem} {v1 : Int32} {v2 : Int32} {r : Int32} (h : f_X8_judge σ v1 v2 = some (r, σf)) : MC l D (Ec ac z) inC z ac (z, aK, aV) (Ac z) yX8_judge cX8_judge 4 (some .int) K [.ref (z + 0), .int v1, .int v2] σ (some (.int r)) σf := by
  refine MC.of (fun q hq => by have := hq.1; show z ≤ q; omega) (plainFor_of_name (by decide)) (Nat.le_of_ble_eq_true rfl) ?_
  intro p e s m below meth c args C hW ls hl
  replace hl : lv_has ls 4 [(0, .ref (z + 0)), (1, .int v1), (2, .int v2)] := hl
  have hS : va_S (Ac z) s.heap s.heap [] := va_S.rf
  have hx := C.1.1
  have hb := C.1.2.1
  unfold f_X8_judge at h
  refine lv_aload_n (pc := 0) hx hb dX8_judge_0 rfl (lv_at hl 0 rfl) ?_
  refine lv_iload_n (pc := 1) hx hb dX8_judge_1 rfl (lv_at hl 1 rfl) ?_
  refine lv_iload_n (pc := 2) hx hb dX8_judge_2 rfl (lv_at hl 2 rfl) ?_
  obtain ⟨r2, hc0, h⟩ := o_b h
  refine g_virt (pc := 3) (st2 := [.int r2]) (rest := []) C hW hS (c_X8_refusalOf (K := K - 1) (by omega) hc0) mw_X8_298 (kin_0 kdc_0) (Ek_0 kdc_0) rfl (hRoom (by omega) (by decide)) rfl rfl rfl (Nat.le_of_ble_eq_true rfl) hl.1 dX8_judge_3 (fun H locs hW hS => ?_)
  refine lv_istore_n (pc := 6) (lv' := [(3, .int r2), (0, .ref (z + 0)), (1, .int v1), (2, .int v2)]) hx hb dX8_judge_6 rfl hl (by decide) rfl (fun ls hl => ?_)
  refine lv_iload_n (pc := 7) hx hb dX8_judge_7 rfl (lv_at hl 0 rfl) ?_
  refine lv_if_eq (pc := 8) (tgt := 15) hx hb dX8_judge_8 (by decide) (fun hc2 => ?_) (fun hc2 => ?_)
  · replace h := o_pos hc2 h
    refine lv_aload_n (pc := 15) hx hb dX8_judge_15 rfl (lv_at hl 1 rfl) ?_
    refine lv_aload_n (pc := 16) hx hb dX8_judge_16 rfl (lv_at hl 1 rfl) ?_
    refine lv_iload_n (pc := 17) hx hb dX8_judge_17 rfl (lv_at hl 2 rfl) ?_
    obtain ⟨r5, hc3, h⟩ := o_b h
    refine g_virt (pc := 18) (st2 := [rv z r5, .ref (z + 0)]) (rest := [.ref (z + 0)]) C hW hS (c_X8_sheetAt (K := K - 1) (by omega) hc3) mw_X8_220 (kin_0 kdc_0) (Ek_0 kdc_0) rfl (hRoom (by omega) (by decide)) rfl rfl rfl (Nat.le_of_ble_eq_true rfl) hl.1 dX8_judge_18 (fun H locs hW hS => ?_)
    refine lv_iload_n (pc := 21) hx hb dX8_judge_21 rfl (lv_at hl 3 rfl) ?_
    refine lv_aload_n (pc := 22) hx hb dX8_judge_22 rfl (lv_at hl 1 rfl) ?_
    refine gf_X8_2 (pc := 23) C hW kdc_0 fl_X8_28 dX8_judge_23 ?_
    refine lv_iload_n (pc := 26) hx hb dX8_judge_26 rfl (lv_at hl 3 rfl) ?_
    obtain ⟨r7, hc5, h⟩ := o_b h
    refine g_virt (pc := 27) (st2 := [rv z r7, .int v2, rv z r5, .ref (z + 0)]) (rest := [.int v2, rv z r5, .ref (z + 0)]) C hW hS (c_X6_manAt (K := K - 1) (by omega) kdc_15 hc5) mw_X8_109 (kin_6 kdc_15) (Ek_6 kdc_15) rfl (hRoom (by omega) (by decide)) rfl rfl rfl (by cases r5 <;> exact Nat.le_of_ble_eq_true rfl) hl.1 dX8_judge_27 (fun H locs hW hS => ?_)
    refine lv_aload_n (pc := 30) hx hb dX8_judge_30 rfl (lv_at hl 1 rfl) ?_
    refine gf_X8_2 (pc := 31) C hW kdc_0 fl_X8_28 dX8_judge_31 ?_
    refine gf_X6_5 (pc := 34) C hW kdc_15 fl_X8_73 dX8_judge_34 ?_
    refine lv_aload_n (pc := 37) hx hb dX8_judge_37 rfl (lv_at hl 1 rfl) ?_
    refine gf_X8_2 (pc := 38) C hW kdc_0 fl_X8_28 dX8_judge_38 ?_
    refine gf_X6_6 (pc := 41) C hW kdc_15 fl_X8_79 dX8_judge_41 ?_
    obtain ⟨r9, σ10, hc7, h⟩ := o_b2 h
    refine g_virt (pc := 44) (st2 := [.int r9]) (rest := []) C hW hS (c_X8_otherwise (K := K - 1) (by omega) (ty_X8_sheetAt  hc3) (ty_X6_manAt kdc_15 hc5) hc7) mw_X8_301 (kin_0 kdc_0) (Ek_0 kdc_0) rfl (hRoom (by omega) (by decide)) rfl rfl rfl (Nat.le_of_ble_eq_true rfl) hl.1 dX8_judge_44 (fun H locs hW hS => ?_)
    exact g_ret (pc := 47) C hW hS rfl dX8_judge_47 (congrArg (fun q => some (Value.int q)) (o_r h).1) (o_r h).2
  · replace h := o_neg hc2 h
    refine lv_iload_n (pc := 11) hx hb dX8_judge_11 rfl (lv_at hl 0 rfl) ?_
    refine lv_goto (pc := 12) (tgt := 47) hx hb dX8_judge_12 (by decide) ?_
    exact g_ret (pc := 47) C hW hS rfl dX8_judge_47 (congrArg (fun q => some (Value.int q)) (o_r h).1) (o_r h).2

theorem w_X8_kinds_b151 (C : CX cX8_kinds 8 RX8 (some .int) D ac p m c s args meth (z, aK, aV) (Ac z)) (hK : 5 ≤ K) {r : Int32} {σf : Mem}   (σ : Mem) (v1 : Int32) (v2 : Int32) (v3 : Int32) (v5 : Int32) (v6 : Int32) (v7 : Int32) (s46 : Mem → Int32 → Int32 → Option (Int32 × Mem)) (hs46 : ∀ (σ : Mem) (v5 : Int32) (v7 : Int32) {H : Heap} {locs : List Loc} {ls : Array Slot} (_ : WC D ac z σ H) (_ : va_S (Ac z) s.heap H locs) (_ : lv_has ls 8 [(0, .ref (z + 0)), (1, .int v1), (2, .int v2), (3, .int v3), (5, .int v5), (6, .int v6), (7, .int v7)]) (_ : s46 σ v5 v7 = some (r, σf)), W p l e (rma K 0 0) s m args below meth c H locs 0 0 (MQ below (QV D (Ec ac z) inC z (some (.int r)) σf (Ac z)) args s 0 0 (Ac z)) (F0 m 46 ls [])) {H : Heap} {locs : List Loc} {ls : Array Slot} (hW : WC D ac z σ H) (hS : va_S (Ac z) s.heap H locs) (hl : lv_has ls 8 [(0, .ref (z + 0)), (1, .int v1), (2, .int v2), (3, .int v3), (5, .int v5), (6, .int v6), (7, .int v7)]) (h : f_X8_kinds_b151 s46 σ v1 v2 v3 v5 v6 v7 = some (r, σf)) : W p l e (rma K 0 0) s m args below meth c H locs 0 0 (MQ below (QV D (Ec ac z) inC z (some (.int r)) σf (Ac z)) args s 0 0 (Ac z)) (F0 m 151 ls []) := by
  have hx := C.1.1
  have hb := C.1.2.1
  unfold f_X8_kinds_b151 at h
  refine lv_iinc (pc := 151) (v := (v7 + 1)) (lv' := [(7, .int (v7 + 1)), (0, .ref (z + 0)), (1, .int v1), (2, .int v2), (3, .int v3), (5, .int v5), (6, .int v6)]) hx hb dX8_kinds_151 hl (k := 6) rfl rfl (by decide) rfl (fun ls hl => ?_)
  refine lv_goto (pc := 154) (tgt := 46) hx hb dX8_kinds_154 (by decide) ?_
  exact hs46 σ v5 (v7 + 1) hW hS (lv_sub hl [1, 2, 3, 4, 5, 6, 0] rfl) h

theorem w_X8_kinds_b110 (C : CX cX8_kinds 8 RX8 (some .int) D ac p m c s args meth (z, aK, aV) (Ac z)) (hK : 5 ≤ K) {r : Int32} {σf : Mem}   (σ : Mem) (v1 : Int32) (v2 : Int32) (v3 : Int32) (v5 : Int32) (v6 : Int32) (v7 : Int32) (s46 : Mem → Int32 → Int32 → Option (Int32 × Mem)) (hs46 : ∀ (σ : Mem) (v5 : Int32) (v7 : Int32) {H : Heap} {locs : List Loc} {ls : Array Slot} (_ : WC D ac z σ H) (_ : va_S (Ac z) s.heap H locs) (_ : lv_has ls 8 [(0, .ref (z + 0)), (1, .int v1), (2, .int v2), (3, .int v3), (5, .int v5), (6, .int v6), (7, .int v7)]) (_ : s46 σ v5 v7 = some (r, σf)), W p l e (rma K 0 0) s m args below meth c H locs 0 0 (MQ below (QV D (Ec ac z) inC z (some (.int r)) σf (Ac z)) args s 0 0 (Ac z)) (F0 m 46 ls [])) {H : Heap} {locs : List Loc} {ls : Array Slot} (hW : WC D ac z σ H) (hS : va_S (Ac z) s.heap H locs) (hl : lv_has ls 8 [(0, .ref (z + 0)), (1, .int v1), (2, .int v2), (3, .int v3), (5, .int v5), (6, .int v6), (7, .int v7)]) (h : f_X8_kinds_b110 s46 σ v1 v2 v3 v5 v6 v7 = some (r, σf)) : W p l e (rma K 0 0) s m args below meth c H locs 0 0 (MQ below (QV D (Ec ac z) inC z (some (.int r)) σf (Ac z)) args s 0 0 (Ac z)) (F0 m 110 ls []) := by
  have hx := C.1.1
  have hb := C.1.2.1
  unfold f_X8_kinds_b110 at h
  refine lv_aload_n (pc := 110) hx hb dX8_kinds_110 rfl (lv_at hl 0 rfl) ?_
  refine lv_aload_n (pc := 111) hx hb dX8_kinds_111 rfl (lv_at hl 0 rfl) ?_
  refine lv_iload_n (pc := 112) hx hb dX8_kinds_112 rfl (lv_at hl 1 rfl) ?_
  obtain ⟨r15, hc13, h⟩ := o_b h
  refine g_virt (pc := 113) (st2 := [rv z r15, .ref (z + 0)]) (rest := [.ref (z + 0)]) C hW hS (c_X8_sheetAt (K := K - 1) (by omega) hc13) mw_X8_220 (kin_0 kdc_0) (Ek_0 kdc_0) rfl (hRoom (by omega) (by decide)) rfl rfl rfl (Nat.le_of_ble_eq_true rfl) hl.1 dX8_kinds_113 (fun H locs hW hS => ?_)
  refine lv_iload_n (pc := 116) hx hb dX8_kinds_116 rfl (lv_at hl 2 rfl) ?_
  refine lv_aload_n (pc := 117) hx hb dX8_kinds_117 rfl (lv_at hl 0 rfl) ?_
  refine gf_X8_8 (pc := 118) C hW kdc_0 fl_X8_56 dX8_kinds_118 ?_
  refine lv_aload_n (pc := 121) hx hb dX8_kinds_121 rfl (lv_at hl 0 rfl) ?_
  refine gf_X8_2 (pc := 122) C hW kdc_0 fl_X8_28 dX8_kinds_122 ?_
  refine gf_X6_5 (pc := 125) C hW kdc_15 fl_X8_73 dX8_kinds_125 ?_
  refine lv_aload_n (pc := 128) hx hb dX8_kinds_128 rfl (lv_at hl 0 rfl) ?_
  refine gf_X8_2 (pc := 129) C hW kdc_0 fl_X8_28 dX8_kinds_129 ?_
  refine gf_X6_6 (pc := 132) C hW kdc_15 fl_X8_79 dX8_kinds_132 ?_
  obtain ⟨r17, σ18, hc15, h⟩ := o_b2 h
  refine g_virt (pc := 135) (st2 := [.int r17]) (rest := []) C hW hS (c_X8_otherwise (K := K - 1) (by omega) (ty_X8_sheetAt  hc13) (fun k hk => by cases hk; exact kdc_76) hc15) mw_X8_301 (kin_0 kdc_0) (Ek_0 kdc_0) rfl (hRoom (by omega) (by decide)) rfl rfl rfl (Nat.le_of_ble_eq_true rfl) hl.1 dX8_kinds_135 (fun H locs hW hS => ?_)
  refine lv_iconst (pc := 138) (v := -1) hx hb dX8_kinds_138 (by decide) ?_
  refine lv_icmp_ne (pc := 139) (tgt := 151) hx hb dX8_kinds_139 (by decide) (fun hc18 => ?_) (fun hc18 => ?_)
  · replace h := o_neg hc18 h
    exact w_X8_kinds_b151 C hK σ18 v1 v2 v3 v5 v6 v7 s46 hs46 hW hS (lv_sub hl [0, 1, 2, 3, 4, 5, 6] rfl) h
  · replace h := o_pos hc18 h
    refine lv_iload (pc := 142) hx hb dX8_kinds_142 (lv_at hl 4 rfl) ?_
    refine lv_iconst (pc := 144) (v := 1) hx hb dX8_kinds_144 (by decide) ?_
    refine lv_iload (pc := 145) hx hb dX8_kinds_145 (lv_at hl 6 rfl) ?_
    refine lv_ishl (pc := 147) hx hb dX8_kinds_147 ?_
    refine lv_ior (pc := 148) hx hb dX8_kinds_148 ?_
    refine lv_istore (pc := 149) (lv' := [(5, .int (v5 ||| ((1 : Int32) <<< (v7 &&& 31)))), (0, .ref (z + 0)), (1, .int v1), (2, .int v2), (3, .int v3), (6, .int v6), (7, .int v7)]) hx hb dX8_kinds_149 hl (by decide) rfl (fun ls hl => ?_)
    exact w_X8_kinds_b151 C hK σ18 v1 v2 v3 (v5 ||| ((1 : Int32) <<< (v7 &&& 31))) v6 v7 s46 hs46 hW hS (lv_sub hl [1, 2, 3, 4, 0, 5, 6] rfl) h

theorem w_X8_kinds_b46 (C : CX cX8_kinds 8 RX8 (some .int) D ac p m c s args meth (z, aK, aV) (Ac z)) (hK : 5 ≤ K) {r : Int32} {σf : Mem}   (v1 : Int32) (v2 : Int32) (v3 : Int32) (v6 : Int32)  : ∀ (n : Nat) (σ : Mem) (v5 : Int32) (v7 : Int32) {H : Heap} {locs : List Loc} {ls : Array Slot} (hW : WC D ac z σ H) (hS : va_S (Ac z) s.heap H locs) (hl : lv_has ls 8 [(0, .ref (z + 0)), (1, .int v1), (2, .int v2), (3, .int v3), (5, .int v5), (6, .int v6), (7, .int v7)]) (h : f_X8_kinds_b46 v1 v2 v3 v6 n σ v5 v7 = some (r, σf)), W p l e (rma K 0 0) s m args below meth c H locs 0 0 (MQ below (QV D (Ec ac z) inC z (some (.int r)) σf (Ac z)) args s 0 0 (Ac z)) (F0 m 46 ls []) := by
  have hx := C.1.1
  have hb := C.1.2.1
  intro n
  induction n with
  | zero =>
    intro σ v5 v7 H locs ls  hW hS hl h
    cases h
  | succ n ih =>
    intro σ v5 v7 H locs ls  hW hS hl h
    rw [f_X8_kinds_b46.eq_2] at h
    refine lv_iload (pc := 46) hx hb dX8_kinds_46 (lv_at hl 6 rfl) ?_
    refine lv_iload (pc := 48) hx hb dX8_kinds_48 (lv_at hl 5 rfl) ?_
    refine lv_icmp_gt (pc := 50) (tgt := 157) hx hb dX8_kinds_50 (by decide) (fun hc6 => ?_) (fun hc6 => ?_)
    · replace h := o_pos hc6 h
      refine lv_iload (pc := 157) hx hb dX8_kinds_157 (lv_at hl 4 rfl) ?_
      exact g_ret (pc := 159) C hW hS rfl dX8_kinds_159 (congrArg (fun q => some (Value.int q)) (o_r h).1) (o_r h).2
    · replace h := o_neg hc6 h
      refine lv_aload_n (pc := 53) hx hb dX8_kinds_53 rfl (lv_at hl 0 rfl) ?_
      refine gf_X8_8 (pc := 54) C hW kdc_0 fl_X8_56 dX8_kinds_54 ?_
      refine lv_aload_n (pc := 57) hx hb dX8_kinds_57 rfl (lv_at hl 0 rfl) ?_
      refine gf_X8_2 (pc := 58) C hW kdc_0 fl_X8_28 dX8_kinds_58 ?_
      refine lv_iload_n (pc := 61) hx hb dX8_kinds_61 rfl (lv_at hl 2 rfl) ?_
      obtain ⟨r9, hc7, h⟩ := o_b h
      refine g_virt (pc := 62) (st2 := [rv z r9, .ref (z + 76)]) (rest := [.ref (z + 76)]) C hW hS (c_X6_manAt (K := K - 1) (by omega) kdc_15 hc7) mw_X8_109 (kin_6 kdc_15) (Ek_6 kdc_15) rfl (hRoom (by omega) (by decide)) rfl rfl rfl (Nat.le_of_ble_eq_true rfl) hl.1 dX8_kinds_62 (fun H locs hW hS => ?_)
      obtain ⟨σ11, hc9, h⟩ := o_b h
      refine g_virt (pc := 65) (st2 := []) (rest := []) C hW hS (c_X1_become (K := K - 1) (by omega) kdc_76 (ty_X6_manAt kdc_15 hc7) hc9) mw_X8_213 (kin_9 kdc_76) (Ek_9 kdc_76) rfl (hRoom (by omega) (by decide)) rfl rfl rfl (Nat.le_of_ble_eq_true rfl) hl.1 dX8_kinds_65 (fun H locs hW hS => ?_)
      refine lv_iload_n (pc := 68) hx hb dX8_kinds_68 rfl (lv_at hl 3 rfl) ?_
      refine lv_if_ne (pc := 69) (tgt := 84) hx hb dX8_kinds_69 (by decide) (fun hc11 => ?_) (fun hc11 => ?_)
      · replace h := o_neg hc11 h
        refine lv_iload_n (pc := 84) hx hb dX8_kinds_84 rfl (lv_at hl 3 rfl) ?_
        refine lv_iconst (pc := 85) (v := 1) hx hb dX8_kinds_85 (by decide) ?_
        refine lv_icmp_ne (pc := 86) (tgt := 101) hx hb dX8_kinds_86 (by decide) (fun hc12 => ?_) (fun hc12 => ?_)
        · replace h := o_neg hc12 h
          refine lv_aload_n (pc := 101) hx hb dX8_kinds_101 rfl (lv_at hl 0 rfl) ?_
          refine gf_X8_8 (pc := 102) C hW kdc_0 fl_X8_56 dX8_kinds_102 ?_
          refine lv_iload (pc := 105) hx hb dX8_kinds_105 (lv_at hl 6 rfl) ?_
          refine pf_X1_3 (pc := 107) C hW hS kdc_76 fl_X8_128 dX8_kinds_107 (fun H locs hW hS => ?_)
          exact w_X8_kinds_b110 C hK (ms σ11 76 3 v7) v1 v2 v3 v5 v6 v7 (f_X8_kinds_b46 v1 v2 v3 v6 n) (fun σ v5 v7 {H : Heap} {locs : List Loc} {ls : Array Slot}  hW hS hl h => ih σ v5 v7 hW hS hl h) hW hS (lv_sub hl [0, 1, 2, 3, 4, 5, 6] rfl) h
        · replace h := o_pos hc12 h
          refine lv_aload_n (pc := 89) hx hb dX8_kinds_89 rfl (lv_at hl 0 rfl) ?_
          refine gf_X8_8 (pc := 90) C hW kdc_0 fl_X8_56 dX8_kinds_90 ?_
          refine lv_iload (pc := 93) hx hb dX8_kinds_93 (lv_at hl 6 rfl) ?_
          refine pf_X1_1 (pc := 95) C hW hS kdc_76 fl_X8_137 dX8_kinds_95 (fun H locs hW hS => ?_)
          refine lv_goto (pc := 98) (tgt := 110) hx hb dX8_kinds_98 (by decide) ?_
          exact w_X8_kinds_b110 C hK (ms σ11 76 1 v7) v1 v2 v3 v5 v6 v7 (f_X8_kinds_b46 v1 v2 v3 v6 n) (fun σ v5 v7 {H : Heap} {locs : List Loc} {ls : Array Slot}  hW hS hl h => ih σ v5 v7 hW hS hl h) hW hS (lv_sub hl [0, 1, 2, 3, 4, 5, 6] rfl) h
      · replace h := o_pos hc11 h
        refine lv_aload_n (pc := 72) hx hb dX8_kinds_72 rfl (lv_at hl 0 rfl) ?_
        refine gf_X8_8 (pc := 73) C hW kdc_0 fl_X8_56 dX8_kinds_73 ?_
        refine lv_iload (pc := 76) hx hb dX8_kinds_76 (lv_at hl 6 rfl) ?_
        refine pf_X1_0 (pc := 78) C hW hS kdc_76 fl_X8_134 dX8_kinds_78 (fun H locs hW hS => ?_)
        refine lv_goto (pc := 81) (tgt := 110) hx hb dX8_kinds_81 (by decide) ?_
        exact w_X8_kinds_b110 C hK (ms σ11 76 0 v7) v1 v2 v3 v5 v6 v7 (f_X8_kinds_b46 v1 v2 v3 v6 n) (fun σ v5 v7 {H : Heap} {locs : List Loc} {ls : Array Slot}  hW hS hl h => ih σ v5 v7 hW hS hl h) hW hS (lv_sub hl [0, 1, 2, 3, 4, 5, 6] rfl) h

theorem w_X8_kinds_b41 (C : CX cX8_kinds 8 RX8 (some .int) D ac p m c s args meth (z, aK, aV) (Ac z)) (hK : 5 ≤ K) {r : Int32} {σf : Mem}   (σ : Mem) (v1 : Int32) (v2 : Int32) (v3 : Int32) (v5 : Int32) (k0 : Int32)  {H : Heap} {locs : List Loc} {ls : Array Slot} (hW : WC D ac z σ H) (hS : va_S (Ac z) s.heap H locs) (hl : lv_has ls 8 [(0, .ref (z + 0)), (1, .int v1), (2, .int v2), (3, .int v3), (5, .int v5)]) (h : f_X8_kinds_b41 σ v1 v2 v3 v5 k0 = some (r, σf)) : W p l e (rma K 0 0) s m args below meth c H locs 0 0 (MQ below (QV D (Ec ac z) inC z (some (.int r)) σf (Ac z)) args s 0 0 (Ac z)) (F0 m 41 ls [.int k0]) := by
  have hx := C.1.1
  have hb := C.1.2.1
  unfold f_X8_kinds_b41 at h
  refine lv_istore (pc := 41) (lv' := [(6, .int k0), (0, .ref (z + 0)), (1, .int v1), (2, .int v2), (3, .int v3), (5, .int v5)]) hx hb dX8_kinds_41 hl (by decide) rfl (fun ls hl => ?_)
  refine lv_iconst (pc := 43) (v := 0) hx hb dX8_kinds_43 (by decide) ?_
  refine lv_istore (pc := 44) (lv' := [(7, .int (0 : Int32)), (6, .int k0), (0, .ref (z + 0)), (1, .int v1), (2, .int v2), (3, .int v3), (5, .int v5)]) hx hb dX8_kinds_44 hl (by decide) rfl (fun ls hl => ?_)
  exact w_X8_kinds_b46 C hK v1 v2 v3 k0 FU σ v5 (0 : Int32) hW hS (lv_sub hl [2, 3, 4, 5, 6, 1, 0] rfl) h

theorem c_X8_kinds {K : Nat}  (hK : 5 ≤ K) {σ : Mem} {σf : Mem} {v1 : Int32} {v2 : Int32} {v3 : Int32} {r : Int32} (h : f_X8_kinds σ v1 v2 v3 = some (r, σf)) : MC l D (Ec ac z) inC z ac (z, aK, aV) (Ac z) yX8_kinds cX8_kinds 8 (some .int) K [.ref (z + 0), .int v1, .int v2, .int v3] σ (some (.int r)) σf := by
  refine MC.of (fun q hq => by have := hq.1; show z ≤ q; omega) (plainFor_of_name (by decide)) (Nat.le_of_ble_eq_true rfl) ?_
  intro p e s m below meth c args C hW ls hl
  replace hl : lv_has ls 8 [(0, .ref (z + 0)), (1, .int v1), (2, .int v2), (3, .int v3)] := hl
  have hS : va_S (Ac z) s.heap s.heap [] := va_S.rf
  have hx := C.1.1
  have hb := C.1.2.1
  unfold f_X8_kinds at h
  refine lv_aload_n (pc := 0) hx hb dX8_kinds_0 rfl (lv_at hl 0 rfl) ?_
  refine lv_iload_n (pc := 1) hx hb dX8_kinds_1 rfl (lv_at hl 1 rfl) ?_
  refine lv_iload_n (pc := 2) hx hb dX8_kinds_2 rfl (lv_at hl 2 rfl) ?_
  obtain ⟨r2, hc0, h⟩ := o_b h
  refine g_virt (pc := 3) (st2 := [.int r2]) (rest := []) C hW hS (c_X8_refusalOf (K := K - 1) (by omega) hc0) mw_X8_298 (kin_0 kdc_0) (Ek_0 kdc_0) rfl (hRoom (by omega) (by decide)) rfl rfl rfl (Nat.le_of_ble_eq_true rfl) hl.1 dX8_kinds_3 (fun H locs hW hS => ?_)
  refine lv_istore (pc := 6) (lv' := [(4, .int r2), (0, .ref (z + 0)), (1, .int v1), (2, .int v2), (3, .int v3)]) hx hb dX8_kinds_6 hl (by decide) rfl (fun ls hl => ?_)
  refine lv_iload (pc := 8) hx hb dX8_kinds_8 (lv_at hl 0 rfl) ?_
  refine lv_if_eq (pc := 10) (tgt := 16) hx hb dX8_kinds_10 (by decide) (fun hc2 => ?_) (fun hc2 => ?_)
  · replace h := o_pos hc2 h
    refine lv_iload_n (pc := 16) hx hb dX8_kinds_16 rfl (lv_at hl 4 rfl) ?_
    refine lv_if_lt (pc := 17) (tgt := 25) hx hb dX8_kinds_17 (by decide) (fun hc3 => ?_) (fun hc3 => ?_)
    · replace h := o_pos hc3 h
      refine lv_bipush (pc := 25) (v := -7) hx hb dX8_kinds_25 (by decide) ?_
      exact g_ret (pc := 27) C hW hS rfl dX8_kinds_27 (congrArg (fun q => some (Value.int q)) (o_r h).1) (o_r h).2
    · replace h := o_neg hc3 h
      refine lv_iload_n (pc := 20) hx hb dX8_kinds_20 rfl (lv_at hl 4 rfl) ?_
      refine lv_iconst (pc := 21) (v := 2) hx hb dX8_kinds_21 (by decide) ?_
      refine lv_icmp_le (pc := 22) (tgt := 28) hx hb dX8_kinds_22 (by decide) (fun hc4 => ?_) (fun hc4 => ?_)
      · replace h := o_pos hc4 h
        refine lv_iconst (pc := 28) (v := 0) hx hb dX8_kinds_28 (by decide) ?_
        refine lv_istore (pc := 29) (lv' := [(5, .int (0 : Int32)), (4, .int r2), (0, .ref (z + 0)), (1, .int v1), (2, .int v2), (3, .int v3)]) hx hb dX8_kinds_29 hl (by decide) rfl (fun ls hl => ?_)
        refine lv_iload_n (pc := 31) hx hb dX8_kinds_31 rfl (lv_at hl 5 rfl) ?_
        refine lv_if_ne (pc := 32) (tgt := 39) hx hb dX8_kinds_32 (by decide) (fun hc5 => ?_) (fun hc5 => ?_)
        · replace h := o_neg hc5 h
          refine lv_bipush (pc := 39) (v := 9) hx hb dX8_kinds_39 (by decide) ?_
          exact w_X8_kinds_b41 C hK σ v1 v2 v3 (0 : Int32) (9 : Int32) hW hS (lv_sub hl [2, 3, 4, 5, 0] rfl) h
        · replace h := o_pos hc5 h
          refine lv_iconst (pc := 35) (v := 5) hx hb dX8_kinds_35 (by decide) ?_
          refine lv_goto (pc := 36) (tgt := 41) hx hb dX8_kinds_36 (by decide) ?_
          exact w_X8_kinds_b41 C hK σ v1 v2 v3 (0 : Int32) (5 : Int32) hW hS (lv_sub hl [2, 3, 4, 5, 0] rfl) h
      · replace h := o_neg hc4 h
        refine lv_bipush (pc := 25) (v := -7) hx hb dX8_kinds_25 (by decide) ?_
        exact g_ret (pc := 27) C hW hS rfl dX8_kinds_27 (congrArg (fun q => some (Value.int q)) (o_r h).1) (o_r h).2
  · replace h := o_neg hc2 h
    refine lv_iload (pc := 13) hx hb dX8_kinds_13 (lv_at hl 0 rfl) ?_
    exact g_ret (pc := 15) C hW hS rfl dX8_kinds_15 (congrArg (fun q => some (Value.int q)) (o_r h).1) (o_r h).2

theorem w_X8_since_b63 (C : CX cX8_since 6 RX8 (some .long) D ac p m c s args meth (z, aK, aV) (Ac z)) (hK : 5 ≤ K) {r : Int64} {σf : Mem}   (σ : Mem) (v1 : Int32) (v2 : Int32) (v3 : Int64) (v5 : Int32) (s18 : Mem → Int64 → Int32 → Option (Int64 × Mem)) (hs18 : ∀ (σ : Mem) (v3 : Int64) (v5 : Int32) {H : Heap} {locs : List Loc} {ls : Array Slot} (_ : WC D ac z σ H) (_ : va_S (Ac z) s.heap H locs) (_ : lv_has ls 6 [(0, .ref (z + 0)), (1, .int v1), (2, .int v2), (3, .long v3), (5, .int v5)]) (_ : s18 σ v3 v5 = some (r, σf)), W p l e (rma K 0 0) s m args below meth c H locs 0 0 (MQ below (QV D (Ec ac z) inC z (some (.long r)) σf (Ac z)) args s 0 0 (Ac z)) (F0 m 18 ls [])) {H : Heap} {locs : List Loc} {ls : Array Slot} (hW : WC D ac z σ H) (hS : va_S (Ac z) s.heap H locs) (hl : lv_has ls 6 [(0, .ref (z + 0)), (1, .int v1), (2, .int v2), (3, .long v3), (5, .int v5)]) (h : f_X8_since_b63 s18 σ v1 v2 v3 v5 = some (r, σf)) : W p l e (rma K 0 0) s m args below meth c H locs 0 0 (MQ below (QV D (Ec ac z) inC z (some (.long r)) σf (Ac z)) args s 0 0 (Ac z)) (F0 m 63 ls []) := by
  have hx := C.1.1
  have hb := C.1.2.1
  unfold f_X8_since_b63 at h
  refine lv_iinc (pc := 63) (v := (v5 + 1)) (lv' := [(5, .int (v5 + 1)), (0, .ref (z + 0)), (1, .int v1), (2, .int v2), (3, .long v3)]) hx hb dX8_since_63 hl (k := 4) rfl rfl (by decide) rfl (fun ls hl => ?_)
  refine lv_goto (pc := 66) (tgt := 18) hx hb dX8_since_66 (by decide) ?_
  exact hs18 σ v3 (v5 + 1) hW hS (lv_sub hl [1, 2, 3, 4, 0] rfl) h

theorem w_X8_since_b18 (C : CX cX8_since 6 RX8 (some .long) D ac p m c s args meth (z, aK, aV) (Ac z)) (hK : 5 ≤ K) {r : Int64} {σf : Mem}   (v1 : Int32) (v2 : Int32)  : ∀ (n : Nat) (σ : Mem) (v3 : Int64) (v5 : Int32) {H : Heap} {locs : List Loc} {ls : Array Slot} (hW : WC D ac z σ H) (hS : va_S (Ac z) s.heap H locs) (hl : lv_has ls 6 [(0, .ref (z + 0)), (1, .int v1), (2, .int v2), (3, .long v3), (5, .int v5)]) (h : f_X8_since_b18 v1 v2 n σ v3 v5 = some (r, σf)), W p l e (rma K 0 0) s m args below meth c H locs 0 0 (MQ below (QV D (Ec ac z) inC z (some (.long r)) σf (Ac z)) args s 0 0 (Ac z)) (F0 m 18 ls []) := by
  have hx := C.1.1
  have hb := C.1.2.1
  intro n
  induction n with
  | zero =>
    intro σ v3 v5 H locs ls  hW hS hl h
    cases h
  | succ n ih =>
    intro σ v3 v5 H locs ls  hW hS hl h
    rw [f_X8_since_b18.eq_2] at h
    refine lv_iload (pc := 18) hx hb dX8_since_18 (lv_at hl 4 rfl) ?_
    refine lv_bipush (pc := 20) (v := 52) hx hb dX8_since_20 (by decide) ?_
    refine lv_icmp_ge (pc := 22) (tgt := 69) hx hb dX8_since_22 (by decide) (fun hc3 => ?_) (fun hc3 => ?_)
    · replace h := o_pos hc3 h
      refine lv_lload_n (pc := 69) hx hb dX8_since_69 rfl (lv_at hl 3 rfl) ?_
      exact g_lret (pc := 70) C hW hS dX8_since_70 (congrArg (fun q => some (Value.long q)) (o_r h).1) (o_r h).2
    · replace h := o_neg hc3 h
      refine lv_aload_n (pc := 25) hx hb dX8_since_25 rfl (lv_at hl 0 rfl) ?_
      refine lv_aload_n (pc := 26) hx hb dX8_since_26 rfl (lv_at hl 0 rfl) ?_
      refine lv_iload_n (pc := 27) hx hb dX8_since_27 rfl (lv_at hl 1 rfl) ?_
      obtain ⟨r6, hc4, h⟩ := o_b h
      refine g_virt (pc := 28) (st2 := [rv z r6, .ref (z + 0)]) (rest := [.ref (z + 0)]) C hW hS (c_X8_sheetAt (K := K - 1) (by omega) hc4) mw_X8_220 (kin_0 kdc_0) (Ek_0 kdc_0) rfl (hRoom (by omega) (by decide)) rfl rfl rfl (Nat.le_of_ble_eq_true rfl) hl.1 dX8_since_28 (fun H locs hW hS => ?_)
      refine lv_iload_n (pc := 31) hx hb dX8_since_31 rfl (lv_at hl 2 rfl) ?_
      refine lv_aload_n (pc := 32) hx hb dX8_since_32 rfl (lv_at hl 0 rfl) ?_
      refine gf_X8_2 (pc := 33) C hW kdc_0 fl_X8_28 dX8_since_33 ?_
      refine lv_iload_n (pc := 36) hx hb dX8_since_36 rfl (lv_at hl 2 rfl) ?_
      obtain ⟨r8, hc6, h⟩ := o_b h
      refine g_virt (pc := 37) (st2 := [rv z r8, .int v2, rv z r6, .ref (z + 0)]) (rest := [.int v2, rv z r6, .ref (z + 0)]) C hW hS (c_X6_manAt (K := K - 1) (by omega) kdc_15 hc6) mw_X8_109 (kin_6 kdc_15) (Ek_6 kdc_15) rfl (hRoom (by omega) (by decide)) rfl rfl rfl (by cases r6 <;> exact Nat.le_of_ble_eq_true rfl) hl.1 dX8_since_37 (fun H locs hW hS => ?_)
      refine lv_iload (pc := 40) hx hb dX8_since_40 (lv_at hl 4 rfl) ?_
      refine lv_aload_n (pc := 42) hx hb dX8_since_42 rfl (lv_at hl 0 rfl) ?_
      refine gf_X8_2 (pc := 43) C hW kdc_0 fl_X8_28 dX8_since_43 ?_
      refine gf_X6_6 (pc := 46) C hW kdc_15 fl_X8_79 dX8_since_46 ?_
      obtain ⟨r10, σ11, hc8, h⟩ := o_b2 h
      refine g_virt (pc := 49) (st2 := [.int r10]) (rest := []) C hW hS (c_X8_otherwise (K := K - 1) (by omega) (ty_X8_sheetAt  hc4) (ty_X6_manAt kdc_15 hc6) hc8) mw_X8_301 (kin_0 kdc_0) (Ek_0 kdc_0) rfl (hRoom (by omega) (by decide)) rfl rfl rfl (Nat.le_of_ble_eq_true rfl) hl.1 dX8_since_49 (fun H locs hW hS => ?_)
      refine lv_iconst (pc := 52) (v := -1) hx hb dX8_since_52 (by decide) ?_
      refine lv_icmp_ne (pc := 53) (tgt := 63) hx hb dX8_since_53 (by decide) (fun hc11 => ?_) (fun hc11 => ?_)
      · replace h := o_neg hc11 h
        exact w_X8_since_b63 C hK σ11 v1 v2 v3 v5 (f_X8_since_b18 v1 v2 n) (fun σ v3 v5 {H : Heap} {locs : List Loc} {ls : Array Slot}  hW hS hl h => ih σ v3 v5 hW hS hl h) hW hS (lv_sub hl [0, 1, 2, 3, 4] rfl) h
      · replace h := o_pos hc11 h
        refine lv_lload_n (pc := 56) hx hb dX8_since_56 rfl (lv_at hl 3 rfl) ?_
        refine lv_lconst (pc := 57) (v := 1) hx hb dX8_since_57 (by decide) ?_
        refine lv_iload (pc := 58) hx hb dX8_since_58 (lv_at hl 4 rfl) ?_
        refine lv_lshl (pc := 60) (v := ((1 : Int64) <<< (v5.toInt64 &&& 63))) hx hb dX8_since_60 rfl ?_
        refine lv_lor (pc := 61) hx hb dX8_since_61 ?_
        obtain ⟨x13, hxx13, h⟩ := o_d h
        refine g_topl hxx13 ?_
        refine lv_lstore_n (pc := 62) (lv' := [(3, .long x13), (0, .ref (z + 0)), (1, .int v1), (2, .int v2), (5, .int v5)]) hx hb dX8_since_62 rfl hl (by decide) rfl (fun ls hl => ?_)
        exact w_X8_since_b63 C hK σ11 v1 v2 x13 v5 (f_X8_since_b18 v1 v2 n) (fun σ v3 v5 {H : Heap} {locs : List Loc} {ls : Array Slot}  hW hS hl h => ih σ v3 v5 hW hS hl h) hW hS (lv_sub hl [1, 2, 3, 0, 4] rfl) h

theorem c_X8_since {K : Nat}  (hK : 5 ≤ K) {σ : Mem} {σf : Mem} {v1 : Int32} {v2 : Int32} {r : Int64} (h : f_X8_since σ v1 v2 = some (r, σf)) : MC l D (Ec ac z) inC z ac (z, aK, aV) (Ac z) yX8_since cX8_since 6 (some .long) K [.ref (z + 0), .int v1, .int v2] σ (some (.long r)) σf := by
  refine MC.of (fun q hq => by have := hq.1; show z ≤ q; omega) (plainFor_of_name (by decide)) (Nat.le_of_ble_eq_true rfl) ?_
  intro p e s m below meth c args C hW ls hl
  replace hl : lv_has ls 6 [(0, .ref (z + 0)), (1, .int v1), (2, .int v2)] := hl
  have hS : va_S (Ac z) s.heap s.heap [] := va_S.rf
  have hx := C.1.1
  have hb := C.1.2.1
  unfold f_X8_since at h
  refine lv_aload_n (pc := 0) hx hb dX8_since_0 rfl (lv_at hl 0 rfl) ?_
  refine lv_iload_n (pc := 1) hx hb dX8_since_1 rfl (lv_at hl 1 rfl) ?_
  refine lv_iload_n (pc := 2) hx hb dX8_since_2 rfl (lv_at hl 2 rfl) ?_
  obtain ⟨r2, hc0, h⟩ := o_b h
  refine g_virt (pc := 3) (st2 := [.int r2]) (rest := []) C hW hS (c_X8_refusalOf (K := K - 1) (by omega) hc0) mw_X8_298 (kin_0 kdc_0) (Ek_0 kdc_0) rfl (hRoom (by omega) (by decide)) rfl rfl rfl (Nat.le_of_ble_eq_true rfl) hl.1 dX8_since_3 (fun H locs hW hS => ?_)
  refine lv_if_eq (pc := 6) (tgt := 13) hx hb dX8_since_6 (by decide) (fun hc2 => ?_) (fun hc2 => ?_)
  · replace h := o_pos hc2 h
    refine lv_lconst (pc := 13) (v := 0) hx hb dX8_since_13 (by decide) ?_
    refine lv_lstore_n (pc := 14) (lv' := [(3, .long (0 : Int64)), (0, .ref (z + 0)), (1, .int v1), (2, .int v2)]) hx hb dX8_since_14 rfl hl (by decide) rfl (fun ls hl => ?_)
    refine lv_iconst (pc := 15) (v := 0) hx hb dX8_since_15 (by decide) ?_
    refine lv_istore (pc := 16) (lv' := [(5, .int (0 : Int32)), (3, .long (0 : Int64)), (0, .ref (z + 0)), (1, .int v1), (2, .int v2)]) hx hb dX8_since_16 hl (by decide) rfl (fun ls hl => ?_)
    exact w_X8_since_b18 C hK v1 v2 FU σ (0 : Int64) (0 : Int32) hW hS (lv_sub hl [2, 3, 4, 1, 0] rfl) h
  · replace h := o_neg hc2 h
    refine lv_ldc2 (pc := 9) hx hb C.1.2.2.2.1 (C.1.2.2.2.2 _ cn_X8_305) dX8_since_9 ?_
    exact g_lret (pc := 12) C hW hS dX8_since_12 (congrArg (fun q => some (Value.long q)) (o_r h).1) (o_r h).2

theorem w_X8_laws_b71 (C : CX cX8_laws 6 RX8 (some .int) D ac p m c s args meth (z, aK, aV) (Ac z)) (hK : 5 ≤ K) {r : Int32} {σf : Mem}   (σ : Mem) (v1 : Int32) (v2 : Int32) (v4 : Int32) (v5 : Int32) (s19 : Mem → Int32 → Int32 → Option (Int32 × Mem)) (hs19 : ∀ (σ : Mem) (v4 : Int32) (v5 : Int32) {H : Heap} {locs : List Loc} {ls : Array Slot} (_ : WC D ac z σ H) (_ : va_S (Ac z) s.heap H locs) (_ : lv_has ls 6 [(0, .ref (z + 0)), (1, .int v1), (2, .int v2), (4, .int v4), (5, .int v5)]) (_ : s19 σ v4 v5 = some (r, σf)), W p l e (rma K 0 0) s m args below meth c H locs 0 0 (MQ below (QV D (Ec ac z) inC z (some (.int r)) σf (Ac z)) args s 0 0 (Ac z)) (F0 m 19 ls [])) {H : Heap} {locs : List Loc} {ls : Array Slot} (hW : WC D ac z σ H) (hS : va_S (Ac z) s.heap H locs) (hl : lv_has ls 6 [(0, .ref (z + 0)), (1, .int v1), (2, .int v2), (4, .int v4), (5, .int v5)]) (h : f_X8_laws_b71 s19 σ v1 v2 v4 v5 = some (r, σf)) : W p l e (rma K 0 0) s m args below meth c H locs 0 0 (MQ below (QV D (Ec ac z) inC z (some (.int r)) σf (Ac z)) args s 0 0 (Ac z)) (F0 m 71 ls []) := by
  have hx := C.1.1
  have hb := C.1.2.1
  unfold f_X8_laws_b71 at h
  refine lv_iinc (pc := 71) (v := (v5 + 1)) (lv' := [(5, .int (v5 + 1)), (0, .ref (z + 0)), (1, .int v1), (2, .int v2), (4, .int v4)]) hx hb dX8_laws_71 hl (k := 4) rfl rfl (by decide) rfl (fun ls hl => ?_)
  refine lv_goto (pc := 74) (tgt := 19) hx hb dX8_laws_74 (by decide) ?_
  exact hs19 σ v4 (v5 + 1) hW hS (lv_sub hl [1, 2, 3, 4, 0] rfl) h

theorem w_X8_laws_b19 (C : CX cX8_laws 6 RX8 (some .int) D ac p m c s args meth (z, aK, aV) (Ac z)) (hK : 5 ≤ K) {r : Int32} {σf : Mem}   (v1 : Int32) (v2 : Int32)  : ∀ (n : Nat) (σ : Mem) (v4 : Int32) (v5 : Int32) {H : Heap} {locs : List Loc} {ls : Array Slot} (hW : WC D ac z σ H) (hS : va_S (Ac z) s.heap H locs) (hl : lv_has ls 6 [(0, .ref (z + 0)), (1, .int v1), (2, .int v2), (4, .int v4), (5, .int v5)]) (h : f_X8_laws_b19 v1 v2 n σ v4 v5 = some (r, σf)), W p l e (rma K 0 0) s m args below meth c H locs 0 0 (MQ below (QV D (Ec ac z) inC z (some (.int r)) σf (Ac z)) args s 0 0 (Ac z)) (F0 m 19 ls []) := by
  have hx := C.1.1
  have hb := C.1.2.1
  intro n
  induction n with
  | zero =>
    intro σ v4 v5 H locs ls  hW hS hl h
    cases h
  | succ n ih =>
    intro σ v4 v5 H locs ls  hW hS hl h
    rw [f_X8_laws_b19.eq_2] at h
    refine lv_iload (pc := 19) hx hb dX8_laws_19 (lv_at hl 4 rfl) ?_
    refine lv_aload_n (pc := 21) hx hb dX8_laws_21 rfl (lv_at hl 0 rfl) ?_
    refine gf_X8_0 (pc := 22) C hW kdc_0 fl_X8_10 dX8_laws_22 ?_
    refine gf_X3_1 (pc := 25) C hW kdc_1 fl_X8_76 dX8_laws_25 ?_
    refine lv_icmp_ge (pc := 28) (tgt := 77) hx hb dX8_laws_28 (by decide) (fun hc3 => ?_) (fun hc3 => ?_)
    · replace h := o_pos hc3 h
      refine lv_iload (pc := 77) hx hb dX8_laws_77 (lv_at hl 3 rfl) ?_
      exact g_ret (pc := 79) C hW hS rfl dX8_laws_79 (congrArg (fun q => some (Value.int q)) (o_r h).1) (o_r h).2
    · replace h := o_neg hc3 h
      refine lv_aload_n (pc := 31) hx hb dX8_laws_31 rfl (lv_at hl 0 rfl) ?_
      refine lv_aload_n (pc := 32) hx hb dX8_laws_32 rfl (lv_at hl 0 rfl) ?_
      refine lv_iload_n (pc := 33) hx hb dX8_laws_33 rfl (lv_at hl 1 rfl) ?_
      obtain ⟨r6, hc4, h⟩ := o_b h
      refine g_virt (pc := 34) (st2 := [rv z r6, .ref (z + 0)]) (rest := [.ref (z + 0)]) C hW hS (c_X8_sheetAt (K := K - 1) (by omega) hc4) mw_X8_220 (kin_0 kdc_0) (Ek_0 kdc_0) rfl (hRoom (by omega) (by decide)) rfl rfl rfl (Nat.le_of_ble_eq_true rfl) hl.1 dX8_laws_34 (fun H locs hW hS => ?_)
      refine lv_iload_n (pc := 37) hx hb dX8_laws_37 rfl (lv_at hl 2 rfl) ?_
      refine lv_aload_n (pc := 38) hx hb dX8_laws_38 rfl (lv_at hl 0 rfl) ?_
      refine gf_X8_2 (pc := 39) C hW kdc_0 fl_X8_28 dX8_laws_39 ?_
      refine lv_iload_n (pc := 42) hx hb dX8_laws_42 rfl (lv_at hl 2 rfl) ?_
      obtain ⟨r8, hc6, h⟩ := o_b h
      refine g_virt (pc := 43) (st2 := [rv z r8, .int v2, rv z r6, .ref (z + 0)]) (rest := [.int v2, rv z r6, .ref (z + 0)]) C hW hS (c_X6_manAt (K := K - 1) (by omega) kdc_15 hc6) mw_X8_109 (kin_6 kdc_15) (Ek_6 kdc_15) rfl (hRoom (by omega) (by decide)) rfl rfl rfl (by cases r6 <;> exact Nat.le_of_ble_eq_true rfl) hl.1 dX8_laws_43 (fun H locs hW hS => ?_)
      refine lv_aload_n (pc := 46) hx hb dX8_laws_46 rfl (lv_at hl 0 rfl) ?_
      refine gf_X8_2 (pc := 47) C hW kdc_0 fl_X8_28 dX8_laws_47 ?_
      refine gf_X6_5 (pc := 50) C hW kdc_15 fl_X8_73 dX8_laws_50 ?_
      refine lv_iload (pc := 53) hx hb dX8_laws_53 (lv_at hl 4 rfl) ?_
      obtain ⟨r10, σ11, hc8, h⟩ := o_b2 h
      refine g_virt (pc := 55) (st2 := [.int r10]) (rest := []) C hW hS (c_X8_otherwise (K := K - 1) (by omega) (ty_X8_sheetAt  hc4) (ty_X6_manAt kdc_15 hc6) hc8) mw_X8_301 (kin_0 kdc_0) (Ek_0 kdc_0) rfl (hRoom (by omega) (by decide)) rfl rfl rfl (Nat.le_of_ble_eq_true rfl) hl.1 dX8_laws_55 (fun H locs hW hS => ?_)
      refine lv_iconst (pc := 58) (v := -1) hx hb dX8_laws_58 (by decide) ?_
      refine lv_icmp_ne (pc := 59) (tgt := 71) hx hb dX8_laws_59 (by decide) (fun hc11 => ?_) (fun hc11 => ?_)
      · replace h := o_neg hc11 h
        exact w_X8_laws_b71 C hK σ11 v1 v2 v4 v5 (f_X8_laws_b19 v1 v2 n) (fun σ v4 v5 {H : Heap} {locs : List Loc} {ls : Array Slot}  hW hS hl h => ih σ v4 v5 hW hS hl h) hW hS (lv_sub hl [0, 1, 2, 3, 4] rfl) h
      · replace h := o_pos hc11 h
        refine lv_iload (pc := 62) hx hb dX8_laws_62 (lv_at hl 3 rfl) ?_
        refine lv_iconst (pc := 64) (v := 1) hx hb dX8_laws_64 (by decide) ?_
        refine lv_iload (pc := 65) hx hb dX8_laws_65 (lv_at hl 4 rfl) ?_
        refine lv_ishl (pc := 67) hx hb dX8_laws_67 ?_
        refine lv_ior (pc := 68) hx hb dX8_laws_68 ?_
        refine lv_istore (pc := 69) (lv' := [(4, .int (v4 ||| ((1 : Int32) <<< (v5 &&& 31)))), (0, .ref (z + 0)), (1, .int v1), (2, .int v2), (5, .int v5)]) hx hb dX8_laws_69 hl (by decide) rfl (fun ls hl => ?_)
        exact w_X8_laws_b71 C hK σ11 v1 v2 (v4 ||| ((1 : Int32) <<< (v5 &&& 31))) v5 (f_X8_laws_b19 v1 v2 n) (fun σ v4 v5 {H : Heap} {locs : List Loc} {ls : Array Slot}  hW hS hl h => ih σ v4 v5 hW hS hl h) hW hS (lv_sub hl [1, 2, 3, 0, 4] rfl) h

theorem c_X8_laws {K : Nat}  (hK : 5 ≤ K) {σ : Mem} {σf : Mem} {v1 : Int32} {v2 : Int32} {r : Int32} (h : f_X8_laws σ v1 v2 = some (r, σf)) : MC l D (Ec ac z) inC z ac (z, aK, aV) (Ac z) yX8_laws cX8_laws 6 (some .int) K [.ref (z + 0), .int v1, .int v2] σ (some (.int r)) σf := by
  refine MC.of (fun q hq => by have := hq.1; show z ≤ q; omega) (plainFor_of_name (by decide)) (Nat.le_of_ble_eq_true rfl) ?_
  intro p e s m below meth c args C hW ls hl
  replace hl : lv_has ls 6 [(0, .ref (z + 0)), (1, .int v1), (2, .int v2)] := hl
  have hS : va_S (Ac z) s.heap s.heap [] := va_S.rf
  have hx := C.1.1
  have hb := C.1.2.1
  unfold f_X8_laws at h
  refine lv_aload_n (pc := 0) hx hb dX8_laws_0 rfl (lv_at hl 0 rfl) ?_
  refine lv_iload_n (pc := 1) hx hb dX8_laws_1 rfl (lv_at hl 1 rfl) ?_
  refine lv_iload_n (pc := 2) hx hb dX8_laws_2 rfl (lv_at hl 2 rfl) ?_
  obtain ⟨r2, hc0, h⟩ := o_b h
  refine g_virt (pc := 3) (st2 := [.int r2]) (rest := []) C hW hS (c_X8_refusalOf (K := K - 1) (by omega) hc0) mw_X8_298 (kin_0 kdc_0) (Ek_0 kdc_0) rfl (hRoom (by omega) (by decide)) rfl rfl rfl (Nat.le_of_ble_eq_true rfl) hl.1 dX8_laws_3 (fun H locs hW hS => ?_)
  refine lv_istore_n (pc := 6) (lv' := [(3, .int r2), (0, .ref (z + 0)), (1, .int v1), (2, .int v2)]) hx hb dX8_laws_6 rfl hl (by decide) rfl (fun ls hl => ?_)
  refine lv_iload_n (pc := 7) hx hb dX8_laws_7 rfl (lv_at hl 0 rfl) ?_
  refine lv_if_eq (pc := 8) (tgt := 13) hx hb dX8_laws_8 (by decide) (fun hc2 => ?_) (fun hc2 => ?_)
  · replace h := o_pos hc2 h
    refine lv_iconst (pc := 13) (v := 0) hx hb dX8_laws_13 (by decide) ?_
    refine lv_istore (pc := 14) (lv' := [(4, .int (0 : Int32)), (3, .int r2), (0, .ref (z + 0)), (1, .int v1), (2, .int v2)]) hx hb dX8_laws_14 hl (by decide) rfl (fun ls hl => ?_)
    refine lv_iconst (pc := 16) (v := 0) hx hb dX8_laws_16 (by decide) ?_
    refine lv_istore (pc := 17) (lv' := [(5, .int (0 : Int32)), (4, .int (0 : Int32)), (3, .int r2), (0, .ref (z + 0)), (1, .int v1), (2, .int v2)]) hx hb dX8_laws_17 hl (by decide) rfl (fun ls hl => ?_)
    exact w_X8_laws_b19 C hK v1 v2 FU σ (0 : Int32) (0 : Int32) hW hS (lv_sub hl [3, 4, 5, 1, 0] rfl) h
  · replace h := o_neg hc2 h
    refine lv_iload_n (pc := 11) hx hb dX8_laws_11 rfl (lv_at hl 0 rfl) ?_
    exact g_ret (pc := 12) C hW hS rfl dX8_laws_12 (congrArg (fun q => some (Value.int q)) (o_r h).1) (o_r h).2

theorem w_X8_whose_b74 (C : CX cX8_whose 5 RX8 (some .int) D ac p m c s args meth (z, aK, aV) (Ac z)) (hK : 5 ≤ K) {r : Int32} {σf : Mem}   (σ : Mem) (v1 : Int32) (v3 : Int32) (v4 : Int32) (s17 : Mem → Int32 → Int32 → Option (Int32 × Mem)) (hs17 : ∀ (σ : Mem) (v3 : Int32) (v4 : Int32) {H : Heap} {locs : List Loc} {ls : Array Slot} (_ : WC D ac z σ H) (_ : va_S (Ac z) s.heap H locs) (_ : lv_has ls 5 [(0, .ref (z + 0)), (1, .int v1), (3, .int v3), (4, .int v4)]) (_ : s17 σ v3 v4 = some (r, σf)), W p l e (rma K 0 0) s m args below meth c H locs 0 0 (MQ below (QV D (Ec ac z) inC z (some (.int r)) σf (Ac z)) args s 0 0 (Ac z)) (F0 m 17 ls [])) {H : Heap} {locs : List Loc} {ls : Array Slot} (hW : WC D ac z σ H) (hS : va_S (Ac z) s.heap H locs) (hl : lv_has ls 5 [(0, .ref (z + 0)), (1, .int v1), (3, .int v3), (4, .int v4)]) (h : f_X8_whose_b74 s17 σ v1 v3 v4 = some (r, σf)) : W p l e (rma K 0 0) s m args below meth c H locs 0 0 (MQ below (QV D (Ec ac z) inC z (some (.int r)) σf (Ac z)) args s 0 0 (Ac z)) (F0 m 74 ls []) := by
  have hx := C.1.1
  have hb := C.1.2.1
  unfold f_X8_whose_b74 at h
  refine lv_iinc (pc := 74) (v := (v4 + 1)) (lv' := [(4, .int (v4 + 1)), (0, .ref (z + 0)), (1, .int v1), (3, .int v3)]) hx hb dX8_whose_74 hl (k := 3) rfl rfl (by decide) rfl (fun ls hl => ?_)
  refine lv_goto (pc := 77) (tgt := 17) hx hb dX8_whose_77 (by decide) ?_
  exact hs17 σ v3 (v4 + 1) hW hS (lv_sub hl [1, 2, 3, 0] rfl) h

theorem w_X8_whose_b17 (C : CX cX8_whose 5 RX8 (some .int) D ac p m c s args meth (z, aK, aV) (Ac z)) (hK : 5 ≤ K) {r : Int32} {σf : Mem}   (v1 : Int32)  : ∀ (n : Nat) (σ : Mem) (v3 : Int32) (v4 : Int32) {H : Heap} {locs : List Loc} {ls : Array Slot} (hW : WC D ac z σ H) (hS : va_S (Ac z) s.heap H locs) (hl : lv_has ls 5 [(0, .ref (z + 0)), (1, .int v1), (3, .int v3), (4, .int v4)]) (h : f_X8_whose_b17 v1 n σ v3 v4 = some (r, σf)), W p l e (rma K 0 0) s m args below meth c H locs 0 0 (MQ below (QV D (Ec ac z) inC z (some (.int r)) σf (Ac z)) args s 0 0 (Ac z)) (F0 m 17 ls []) := by
  have hx := C.1.1
  have hb := C.1.2.1
  intro n
  induction n with
  | zero =>
    intro σ v3 v4 H locs ls  hW hS hl h
    cases h
  | succ n ih =>
    intro σ v3 v4 H locs ls  hW hS hl h
    rw [f_X8_whose_b17.eq_2] at h
    refine lv_iload (pc := 17) hx hb dX8_whose_17 (lv_at hl 3 rfl) ?_
    refine lv_aload_n (pc := 19) hx hb dX8_whose_19 rfl (lv_at hl 0 rfl) ?_
    refine gf_X8_2 (pc := 20) C hW kdc_0 fl_X8_28 dX8_whose_20 ?_
    refine gf_X6_3 (pc := 23) C hW kdc_15 fl_X8_66 dX8_whose_23 ?_
    refine lv_icmp_ge (pc := 26) (tgt := 80) hx hb dX8_whose_26 (by decide) (fun hc3 => ?_) (fun hc3 => ?_)
    · replace h := o_pos hc3 h
      refine lv_iload_n (pc := 80) hx hb dX8_whose_80 rfl (lv_at hl 2 rfl) ?_
      exact g_ret (pc := 81) C hW hS rfl dX8_whose_81 (congrArg (fun q => some (Value.int q)) (o_r h).1) (o_r h).2
    · replace h := o_neg hc3 h
      refine lv_aload_n (pc := 29) hx hb dX8_whose_29 rfl (lv_at hl 0 rfl) ?_
      refine lv_aload_n (pc := 30) hx hb dX8_whose_30 rfl (lv_at hl 0 rfl) ?_
      refine lv_iload_n (pc := 31) hx hb dX8_whose_31 rfl (lv_at hl 1 rfl) ?_
      obtain ⟨r6, hc4, h⟩ := o_b h
      refine g_virt (pc := 32) (st2 := [rv z r6, .ref (z + 0)]) (rest := [.ref (z + 0)]) C hW hS (c_X8_sheetAt (K := K - 1) (by omega) hc4) mw_X8_220 (kin_0 kdc_0) (Ek_0 kdc_0) rfl (hRoom (by omega) (by decide)) rfl rfl rfl (Nat.le_of_ble_eq_true rfl) hl.1 dX8_whose_32 (fun H locs hW hS => ?_)
      refine lv_iload (pc := 35) hx hb dX8_whose_35 (lv_at hl 3 rfl) ?_
      refine lv_aload_n (pc := 37) hx hb dX8_whose_37 rfl (lv_at hl 0 rfl) ?_
      refine gf_X8_2 (pc := 38) C hW kdc_0 fl_X8_28 dX8_whose_38 ?_
      refine lv_iload (pc := 41) hx hb dX8_whose_41 (lv_at hl 3 rfl) ?_
      obtain ⟨r8, hc6, h⟩ := o_b h
      refine g_virt (pc := 43) (st2 := [rv z r8, .int v4, rv z r6, .ref (z + 0)]) (rest := [.int v4, rv z r6, .ref (z + 0)]) C hW hS (c_X6_manAt (K := K - 1) (by omega) kdc_15 hc6) mw_X8_109 (kin_6 kdc_15) (Ek_6 kdc_15) rfl (hRoom (by omega) (by decide)) rfl rfl rfl (by cases r6 <;> exact Nat.le_of_ble_eq_true rfl) hl.1 dX8_whose_43 (fun H locs hW hS => ?_)
      refine lv_aload_n (pc := 46) hx hb dX8_whose_46 rfl (lv_at hl 0 rfl) ?_
      refine gf_X8_2 (pc := 47) C hW kdc_0 fl_X8_28 dX8_whose_47 ?_
      refine gf_X6_5 (pc := 50) C hW kdc_15 fl_X8_73 dX8_whose_50 ?_
      refine lv_aload_n (pc := 53) hx hb dX8_whose_53 rfl (lv_at hl 0 rfl) ?_
      refine gf_X8_2 (pc := 54) C hW kdc_0 fl_X8_28 dX8_whose_54 ?_
      refine gf_X6_6 (pc := 57) C hW kdc_15 fl_X8_79 dX8_whose_57 ?_
      obtain ⟨r10, σ11, hc8, h⟩ := o_b2 h
      refine g_virt (pc := 60) (st2 := [.int r10]) (rest := []) C hW hS (c_X8_otherwise (K := K - 1) (by omega) (ty_X8_sheetAt  hc4) (ty_X6_manAt kdc_15 hc6) hc8) mw_X8_301 (kin_0 kdc_0) (Ek_0 kdc_0) rfl (hRoom (by omega) (by decide)) rfl rfl rfl (Nat.le_of_ble_eq_true rfl) hl.1 dX8_whose_60 (fun H locs hW hS => ?_)
      refine lv_iconst (pc := 63) (v := -1) hx hb dX8_whose_63 (by decide) ?_
      refine lv_icmp_ne (pc := 64) (tgt := 74) hx hb dX8_whose_64 (by decide) (fun hc11 => ?_) (fun hc11 => ?_)
      · replace h := o_neg hc11 h
        exact w_X8_whose_b74 C hK σ11 v1 v3 v4 (f_X8_whose_b17 v1 n) (fun σ v3 v4 {H : Heap} {locs : List Loc} {ls : Array Slot}  hW hS hl h => ih σ v3 v4 hW hS hl h) hW hS (lv_sub hl [0, 1, 2, 3] rfl) h
      · replace h := o_pos hc11 h
        refine lv_iload_n (pc := 67) hx hb dX8_whose_67 rfl (lv_at hl 2 rfl) ?_
        refine lv_iconst (pc := 68) (v := 1) hx hb dX8_whose_68 (by decide) ?_
        refine lv_iload (pc := 69) hx hb dX8_whose_69 (lv_at hl 3 rfl) ?_
        refine lv_ishl (pc := 71) hx hb dX8_whose_71 ?_
        refine lv_ior (pc := 72) hx hb dX8_whose_72 ?_
        refine lv_istore_n (pc := 73) (lv' := [(3, .int (v3 ||| ((1 : Int32) <<< (v4 &&& 31)))), (0, .ref (z + 0)), (1, .int v1), (4, .int v4)]) hx hb dX8_whose_73 rfl hl (by decide) rfl (fun ls hl => ?_)
        exact w_X8_whose_b74 C hK σ11 v1 (v3 ||| ((1 : Int32) <<< (v4 &&& 31))) v4 (f_X8_whose_b17 v1 n) (fun σ v3 v4 {H : Heap} {locs : List Loc} {ls : Array Slot}  hW hS hl h => ih σ v3 v4 hW hS hl h) hW hS (lv_sub hl [1, 2, 0, 3] rfl) h

theorem c_X8_whose {K : Nat}  (hK : 5 ≤ K) {σ : Mem} {σf : Mem} {v1 : Int32} {r : Int32} (h : f_X8_whose σ v1 = some (r, σf)) : MC l D (Ec ac z) inC z ac (z, aK, aV) (Ac z) yX8_whose cX8_whose 5 (some .int) K [.ref (z + 0), .int v1] σ (some (.int r)) σf := by
  refine MC.of (fun q hq => by have := hq.1; show z ≤ q; omega) (plainFor_of_name (by decide)) (Nat.le_of_ble_eq_true rfl) ?_
  intro p e s m below meth c args C hW ls hl
  replace hl : lv_has ls 5 [(0, .ref (z + 0)), (1, .int v1)] := hl
  have hS : va_S (Ac z) s.heap s.heap [] := va_S.rf
  have hx := C.1.1
  have hb := C.1.2.1
  unfold f_X8_whose at h
  refine lv_aload_n (pc := 0) hx hb dX8_whose_0 rfl (lv_at hl 0 rfl) ?_
  refine lv_iload_n (pc := 1) hx hb dX8_whose_1 rfl (lv_at hl 1 rfl) ?_
  obtain ⟨r2, hc0, h⟩ := o_b h
  refine g_virt (pc := 2) (st2 := [.int r2]) (rest := []) C hW hS (c_X8_refusalOf_ (K := K - 1) (by omega) hc0) mw_X8_307 (kin_0 kdc_0) (Ek_0 kdc_0) rfl (hRoom (by omega) (by decide)) rfl rfl rfl (Nat.le_of_ble_eq_true rfl) hl.1 dX8_whose_2 (fun H locs hW hS => ?_)
  refine lv_istore_n (pc := 5) (lv' := [(2, .int r2), (0, .ref (z + 0)), (1, .int v1)]) hx hb dX8_whose_5 rfl hl (by decide) rfl (fun ls hl => ?_)
  refine lv_iload_n (pc := 6) hx hb dX8_whose_6 rfl (lv_at hl 0 rfl) ?_
  refine lv_if_eq (pc := 7) (tgt := 12) hx hb dX8_whose_7 (by decide) (fun hc2 => ?_) (fun hc2 => ?_)
  · replace h := o_pos hc2 h
    refine lv_iconst (pc := 12) (v := 0) hx hb dX8_whose_12 (by decide) ?_
    refine lv_istore_n (pc := 13) (lv' := [(3, .int (0 : Int32)), (2, .int r2), (0, .ref (z + 0)), (1, .int v1)]) hx hb dX8_whose_13 rfl hl (by decide) rfl (fun ls hl => ?_)
    refine lv_iconst (pc := 14) (v := 0) hx hb dX8_whose_14 (by decide) ?_
    refine lv_istore (pc := 15) (lv' := [(4, .int (0 : Int32)), (3, .int (0 : Int32)), (2, .int r2), (0, .ref (z + 0)), (1, .int v1)]) hx hb dX8_whose_15 hl (by decide) rfl (fun ls hl => ?_)
    exact w_X8_whose_b17 C hK v1 FU σ (0 : Int32) (0 : Int32) hW hS (lv_sub hl [3, 4, 1, 0] rfl) h
  · replace h := o_neg hc2 h
    refine lv_iload_n (pc := 10) hx hb dX8_whose_10 rfl (lv_at hl 0 rfl) ?_
    exact g_ret (pc := 11) C hW hS rfl dX8_whose_11 (congrArg (fun q => some (Value.int q)) (o_r h).1) (o_r h).2

theorem w_X8_film_b75 (C : CX cX8_film 8 RX8 (some .int) D ac p m c s args meth (z, aK, aV) (Ac z)) (hK : 4 ≤ K) {r : Int32} {σf : Mem}   (v3 : Int32) (v4 : Nat) (v6 : Int32)  : ∀ (n : Nat) (σ : Mem) (v7 : Int32) {H : Heap} {locs : List Loc} {ls : Array Slot} (tv4 : kd v4 = 12) (hW : WC D ac z σ H) (hS : va_S (Ac z) s.heap H locs) (hl : lv_has ls 8 [(0, .ref (z + 0)), (3, .int v3), (4, .ref (z + v4)), (6, .int v6), (7, .int v7)]) (h : f_X8_film_b75 v3 v4 v6 n σ v7 = some (r, σf)), W p l e (rma K 0 0) s m args below meth c H locs 0 0 (MQ below (QV D (Ec ac z) inC z (some (.int r)) σf (Ac z)) args s 0 0 (Ac z)) (F0 m 75 ls []) := by
  have hx := C.1.1
  have hb := C.1.2.1
  intro n
  induction n with
  | zero =>
    intro σ v7 H locs ls tv4 hW hS hl h
    cases h
  | succ n ih =>
    intro σ v7 H locs ls tv4 hW hS hl h
    rw [f_X8_film_b75.eq_2] at h
    refine lv_iload (pc := 75) hx hb dX8_film_75 (lv_at hl 4 rfl) ?_
    refine lv_iload_n (pc := 77) hx hb dX8_film_77 rfl (lv_at hl 1 rfl) ?_
    refine lv_icmp_ge (pc := 78) (tgt := 138) hx hb dX8_film_78 (by decide) (fun hc14 => ?_) (fun hc14 => ?_)
    · replace h := o_pos hc14 h
      refine lv_iload_n (pc := 138) hx hb dX8_film_138 rfl (lv_at hl 1 rfl) ?_
      exact g_ret (pc := 139) C hW hS rfl dX8_film_139 (congrArg (fun q => some (Value.int q)) (o_r h).1) (o_r h).2
    · replace h := o_neg hc14 h
      refine lv_aload_n (pc := 81) hx hb dX8_film_81 rfl (lv_at hl 0 rfl) ?_
      refine gf_X8_7 (pc := 82) C hW kdc_0 fl_X8_52 dX8_film_82 ?_
      refine lv_aload_n (pc := 85) hx hb dX8_film_85 rfl (lv_at hl 0 rfl) ?_
      refine gf_X8_0 (pc := 86) C hW kdc_0 fl_X8_10 dX8_film_86 ?_
      refine lv_aload_n (pc := 89) hx hb dX8_film_89 rfl (lv_at hl 0 rfl) ?_
      refine gf_X8_2 (pc := 90) C hW kdc_0 fl_X8_28 dX8_film_90 ?_
      refine gf_X6_6 (pc := 93) C hW kdc_15 fl_X8_79 dX8_film_93 ?_
      refine lv_aload_n (pc := 96) hx hb dX8_film_96 rfl (lv_at hl 0 rfl) ?_
      refine gf_X8_7 (pc := 97) C hW kdc_0 fl_X8_52 dX8_film_97 ?_
      refine lv_aload_n (pc := 100) hx hb dX8_film_100 rfl (lv_at hl 0 rfl) ?_
      refine gf_X8_2 (pc := 101) C hW kdc_0 fl_X8_28 dX8_film_101 ?_
      refine gf_X6_5 (pc := 104) C hW kdc_15 fl_X8_73 dX8_film_104 ?_
      refine lv_iload (pc := 107) hx hb dX8_film_107 (lv_at hl 4 rfl) ?_
      refine lv_iadd (pc := 109) hx hb dX8_film_109 ?_
      refine lv_iload (pc := 110) hx hb dX8_film_110 (lv_at hl 3 rfl) ?_
      obtain ⟨r17, σ18, hc15, h⟩ := o_b2 h
      refine g_virt (pc := 112) (st2 := [.int r17, .ref (z + 75)]) (rest := [.ref (z + 75)]) C hW hS (c_X3_grown (K := K - 1) (by omega) kdc_75 hc15) mw_X8_216 (kin_1 kdc_1) (Ek_1 kdc_1) rfl (hRoom (by omega) (by decide)) rfl rfl rfl (Nat.le_of_ble_eq_true rfl) hl.1 dX8_film_112 (fun H locs hW hS => ?_)
      refine pf_X1_2 (pc := 115) C hW hS kdc_75 fl_X8_125 dX8_film_115 (fun H locs hW hS => ?_)
      refine lv_aload (pc := 118) hx hb dX8_film_118 (lv_at hl 2 rfl) ?_
      refine lv_iload (pc := 120) hx hb dX8_film_120 (lv_at hl 4 rfl) ?_
      refine lv_aload_n (pc := 122) hx hb dX8_film_122 rfl (lv_at hl 0 rfl) ?_
      refine gf_X8_7 (pc := 123) C hW kdc_0 fl_X8_52 dX8_film_123 ?_
      refine gf_X1_2 (pc := 126) C hW kdc_75 fl_X8_125 dX8_film_126 ?_
      obtain ⟨σ20, hc18, h⟩ := o_b h
      refine g_virt (pc := 129) (st2 := []) (rest := []) C hW hS (c_X4_put (K := K - 1) (by omega) tv4 hc18) mw_X8_313 (kin_12 tv4) (Ek_12 tv4) rfl (hRoom (by omega) (by decide)) rfl rfl rfl (Nat.le_of_ble_eq_true rfl) hl.1 dX8_film_129 (fun H locs hW hS => ?_)
      refine lv_iinc (pc := 132) (v := (v7 + 1)) (lv' := [(7, .int (v7 + 1)), (0, .ref (z + 0)), (3, .int v3), (4, .ref (z + v4)), (6, .int v6)]) hx hb dX8_film_132 hl (k := 4) rfl rfl (by decide) rfl (fun ls hl => ?_)
      refine lv_goto (pc := 135) (tgt := 75) hx hb dX8_film_135 (by decide) ?_
      exact ih σ20 (v7 + 1) tv4 hW hS (lv_sub hl [1, 2, 3, 4, 0] rfl) h

theorem c_X8_film {K : Nat}  (hK : 4 ≤ K) {σ : Mem} {σf : Mem} {v1 : Int32} {v2 : Int32} {v3 : Int32} {r : Int32} (h : f_X8_film σ v1 v2 v3 = some (r, σf)) : MC l D (Ec ac z) inC z ac (z, aK, aV) (Ac z) yX8_film cX8_film 8 (some .int) K [.ref (z + 0), .int v1, .int v2, .int v3] σ (some (.int r)) σf := by
  refine MC.of (fun q hq => by have := hq.1; show z ≤ q; omega) (plainFor_of_name (by decide)) (Nat.le_of_ble_eq_true rfl) ?_
  intro p e s m below meth c args C hW ls hl
  replace hl : lv_has ls 8 [(0, .ref (z + 0)), (1, .int v1), (2, .int v2), (3, .int v3)] := hl
  have hS : va_S (Ac z) s.heap s.heap [] := va_S.rf
  have hx := C.1.1
  have hb := C.1.2.1
  unfold f_X8_film at h
  refine lv_aload_n (pc := 0) hx hb dX8_film_0 rfl (lv_at hl 0 rfl) ?_
  refine lv_iload_n (pc := 1) hx hb dX8_film_1 rfl (lv_at hl 1 rfl) ?_
  obtain ⟨r2, hc0, h⟩ := o_b h
  refine g_virt (pc := 2) (st2 := [rv z r2]) (rest := []) C hW hS (c_X8_sheetAt (K := K - 1) (by omega) hc0) mw_X8_220 (kin_0 kdc_0) (Ek_0 kdc_0) rfl (hRoom (by omega) (by decide)) rfl rfl rfl (Nat.le_of_ble_eq_true rfl) hl.1 dX8_film_2 (fun H locs hW hS => ?_)
  refine g_astoreq (pc := 5) (o := r2) (lv' := [(4, rv z r2), (0, .ref (z + 0)), (1, .int v1), (2, .int v2), (3, .int v3)]) C dX8_film_5 hl (by decide) rfl (fun ls hl => ?_)
  refine g_aloadq (pc := 7) (o := r2) C dX8_film_7 (lv_at hl 0 rfl) ?_
  refine g_ifnonnull (pc := 9) (o := r2) (tgt := 15) C dX8_film_9 (by decide) (fun hn => ?_) (fun q3 hn => ?_)
  · subst hn
    replace h := o_nn h
    replace hl : lv_has ls 8 [(4, .null), (0, .ref (z + 0)), (1, .int v1), (2, .int v2), (3, .int v3)] := hl
    refine lv_bipush (pc := 12) (v := -2) hx hb dX8_film_12 (by decide) ?_
    exact g_ret (pc := 14) C hW hS rfl dX8_film_14 (congrArg (fun q => some (Value.int q)) (o_r h).1) (o_r h).2
  · subst hn
    replace h := o_ns h
    replace hl : lv_has ls 8 [(4, .ref (z + q3)), (0, .ref (z + 0)), (1, .int v1), (2, .int v2), (3, .int v3)] := hl
    refine lv_aload_n (pc := 15) hx hb dX8_film_15 rfl (lv_at hl 1 rfl) ?_
    refine gf_X8_2 (pc := 16) C hW kdc_0 fl_X8_28 dX8_film_16 ?_
    refine lv_iload_n (pc := 19) hx hb dX8_film_19 rfl (lv_at hl 3 rfl) ?_
    obtain ⟨r5, hc3, h⟩ := o_b h
    refine g_virt (pc := 20) (st2 := [rv z r5]) (rest := []) C hW hS (c_X6_manAt (K := K - 1) (by omega) kdc_15 hc3) mw_X8_109 (kin_6 kdc_15) (Ek_6 kdc_15) rfl (hRoom (by omega) (by decide)) rfl rfl rfl (Nat.le_of_ble_eq_true rfl) hl.1 dX8_film_20 (fun H locs hW hS => ?_)
    refine g_astoreq (pc := 23) (o := r5) (lv' := [(5, rv z r5), (4, .ref (z + q3)), (0, .ref (z + 0)), (1, .int v1), (2, .int v2), (3, .int v3)]) C dX8_film_23 hl (by decide) rfl (fun ls hl => ?_)
    refine g_aloadq (pc := 25) (o := r5) C dX8_film_25 (lv_at hl 0 rfl) ?_
    refine g_ifnonnull (pc := 27) (o := r5) (tgt := 33) C dX8_film_27 (by decide) (fun hn => ?_) (fun q6 hn => ?_)
    · subst hn
      replace h := o_nn h
      replace hl : lv_has ls 8 [(5, .null), (4, .ref (z + q3)), (0, .ref (z + 0)), (1, .int v1), (2, .int v2), (3, .int v3)] := hl
      refine lv_bipush (pc := 30) (v := -5) hx hb dX8_film_30 (by decide) ?_
      exact g_ret (pc := 32) C hW hS rfl dX8_film_32 (congrArg (fun q => some (Value.int q)) (o_r h).1) (o_r h).2
    · subst hn
      replace h := o_ns h
      replace hl : lv_has ls 8 [(5, .ref (z + q6)), (4, .ref (z + q3)), (0, .ref (z + 0)), (1, .int v1), (2, .int v2), (3, .int v3)] := hl
      refine lv_iload_n (pc := 33) hx hb dX8_film_33 rfl (lv_at hl 5 rfl) ?_
      refine lv_if_lt (pc := 34) (tgt := 43) hx hb dX8_film_34 (by decide) (fun hc6 => ?_) (fun hc6 => ?_)
      · replace h := o_pos hc6 h
        refine lv_bipush (pc := 43) (v := -7) hx hb dX8_film_43 (by decide) ?_
        exact g_ret (pc := 45) C hW hS rfl dX8_film_45 (congrArg (fun q => some (Value.int q)) (o_r h).1) (o_r h).2
      · replace h := o_neg hc6 h
        refine lv_iload_n (pc := 37) hx hb dX8_film_37 rfl (lv_at hl 5 rfl) ?_
        refine lv_bipush (pc := 38) (v := 40) hx hb dX8_film_38 (by decide) ?_
        refine lv_icmp_le (pc := 40) (tgt := 46) hx hb dX8_film_40 (by decide) (fun hc7 => ?_) (fun hc7 => ?_)
        · replace h := o_pos hc7 h
          refine lv_aload (pc := 46) hx hb dX8_film_46 (lv_at hl 1 rfl) ?_
          refine lv_iconst (pc := 48) (v := 1) hx hb dX8_film_48 (by decide) ?_
          refine lv_iload_n (pc := 49) hx hb dX8_film_49 rfl (lv_at hl 5 rfl) ?_
          obtain ⟨σ10, hc8, h⟩ := o_b h
          refine g_virt (pc := 50) (st2 := []) (rest := []) C hW hS (c_X4_makeRow (K := K - 1) (by omega) ((ty_X8_sheetAt  hc0) q3 rfl) hc8) mw_X8_309 (kin_12 ((ty_X8_sheetAt  hc0) q3 rfl)) (Ek_12 ((ty_X8_sheetAt  hc0) q3 rfl)) rfl (hRoom (by omega) (by decide)) rfl rfl rfl (Nat.le_of_ble_eq_true rfl) hl.1 dX8_film_50 (fun H locs hW hS => ?_)
          refine lv_aload_n (pc := 53) hx hb dX8_film_53 rfl (lv_at hl 2 rfl) ?_
          refine gf_X8_7 (pc := 54) C hW kdc_0 fl_X8_52 dX8_film_54 ?_
          refine lv_aload (pc := 57) hx hb dX8_film_57 (lv_at hl 0 rfl) ?_
          obtain ⟨σ12, hc10, h⟩ := o_b h
          refine g_virt (pc := 59) (st2 := []) (rest := []) C hW hS (c_X1_become (K := K - 1) (by omega) kdc_75 (fun k hk => by cases hk; exact ((ty_X6_manAt kdc_15 hc3) q6 rfl)) hc10) mw_X8_213 (kin_9 kdc_75) (Ek_9 kdc_75) rfl (hRoom (by omega) (by decide)) rfl rfl rfl (Nat.le_of_ble_eq_true rfl) hl.1 dX8_film_59 (fun H locs hW hS => ?_)
          refine lv_aload_n (pc := 62) hx hb dX8_film_62 rfl (lv_at hl 2 rfl) ?_
          refine gf_X8_2 (pc := 63) C hW kdc_0 fl_X8_28 dX8_film_63 ?_
          refine lv_iload_n (pc := 66) hx hb dX8_film_66 rfl (lv_at hl 4 rfl) ?_
          obtain ⟨r14, hc12, h⟩ := o_b h
          refine g_virt (pc := 67) (st2 := [.int r14]) (rest := []) C hW hS (c_X6_owed (K := K - 1) (by omega) kdc_15 hc12) mw_X8_113 (kin_6 kdc_15) (Ek_6 kdc_15) rfl (hRoom (by omega) (by decide)) rfl rfl rfl (Nat.le_of_ble_eq_true rfl) hl.1 dX8_film_67 (fun H locs hW hS => ?_)
          refine lv_istore (pc := 70) (lv' := [(6, .int r14), (5, .ref (z + q6)), (4, .ref (z + q3)), (0, .ref (z + 0)), (1, .int v1), (2, .int v2), (3, .int v3)]) hx hb dX8_film_70 hl (by decide) rfl (fun ls hl => ?_)
          refine lv_iconst (pc := 72) (v := 0) hx hb dX8_film_72 (by decide) ?_
          refine lv_istore (pc := 73) (lv' := [(7, .int (0 : Int32)), (6, .int r14), (5, .ref (z + q6)), (4, .ref (z + q3)), (0, .ref (z + 0)), (1, .int v1), (2, .int v2), (3, .int v3)]) hx hb dX8_film_73 hl (by decide) rfl (fun ls hl => ?_)
          exact w_X8_film_b75 C hK v3 q3 r14 FU σ12 (0 : Int32) ((ty_X8_sheetAt  hc0) q3 rfl) hW hS (lv_sub hl [4, 7, 3, 1, 0] rfl) h
        · replace h := o_neg hc7 h
          refine lv_bipush (pc := 43) (v := -7) hx hb dX8_film_43 (by decide) ?_
          exact g_ret (pc := 45) C hW hS rfl dX8_film_45 (congrArg (fun q => some (Value.int q)) (o_r h).1) (o_r h).2

theorem w_X8_liveByLots_b26 (C : CX cX8_liveByLots 6 RX8 none D ac p m c s args meth (z, aK, aV) (Ac z)) (hK : 5 ≤ K) {σf : Mem}   (v2 : Int32)  : ∀ (n : Nat) (σ : Mem) (v3 : Int64) (v5 : Int32) {H : Heap} {locs : List Loc} {ls : Array Slot} (hW : WC D ac z σ H) (hS : va_S (Ac z) s.heap H locs) (hl : lv_has ls 6 [(0, .ref (z + 0)), (2, .int v2), (3, .long v3), (5, .int v5)]) (h : f_X8_liveByLots_b26 v2 n σ v3 v5 = some σf), W p l e (rma K 0 0) s m args below meth c H locs 0 0 (MQ below (QV D (Ec ac z) inC z none σf (Ac z)) args s 0 0 (Ac z)) (F0 m 26 ls []) := by
  have hx := C.1.1
  have hb := C.1.2.1
  intro n
  induction n with
  | zero =>
    intro σ v3 v5 H locs ls  hW hS hl h
    cases h
  | succ n ih =>
    intro σ v3 v5 H locs ls  hW hS hl h
    rw [f_X8_liveByLots_b26.eq_2] at h
    refine lv_iload (pc := 26) hx hb dX8_liveByLots_26 (lv_at hl 3 rfl) ?_
    refine lv_iload_n (pc := 28) hx hb dX8_liveByLots_28 rfl (lv_at hl 1 rfl) ?_
    refine lv_icmp_ge (pc := 29) (tgt := 56) hx hb dX8_liveByLots_29 (by decide) (fun hc3 => ?_) (fun hc3 => ?_)
    · replace h := o_pos hc3 h
      exact g_vret (pc := 56) C hW hS dX8_liveByLots_56 rfl (Option.some.inj h).symm
    · replace h := o_neg hc3 h
      refine lv_aload_n (pc := 32) hx hb dX8_liveByLots_32 rfl (lv_at hl 0 rfl) ?_
      refine gf_X8_3 (pc := 33) C hW kdc_0 fl_X8_32 dX8_liveByLots_33 ?_
      refine lv_lload_n (pc := 36) hx hb dX8_liveByLots_36 rfl (lv_at hl 2 rfl) ?_
      obtain ⟨r6, σ7, hc4, h⟩ := o_b2 h
      refine g_virt (pc := 37) (st2 := [.long r6]) (rest := []) C hW hS (c_X6_drawOil (K := K - 1) (by omega) kdc_32 hc4) mw_X8_323 (kin_6 kdc_32) (Ek_6 kdc_32) rfl (hRoom (by omega) (by decide)) rfl rfl rfl (Nat.le_of_ble_eq_true rfl) hl.1 dX8_liveByLots_37 (fun H locs hW hS => ?_)
      refine lv_lstore_n (pc := 40) (lv' := [(3, .long r6), (0, .ref (z + 0)), (2, .int v2), (5, .int v5)]) hx hb dX8_liveByLots_40 rfl hl (by decide) rfl (fun ls hl => ?_)
      refine lv_aload_n (pc := 41) hx hb dX8_liveByLots_41 rfl (lv_at hl 1 rfl) ?_
      refine gf_X8_3 (pc := 42) C hW kdc_0 fl_X8_32 dX8_liveByLots_42 ?_
      refine lv_iload (pc := 45) hx hb dX8_liveByLots_45 (lv_at hl 3 rfl) ?_
      obtain ⟨σ9, hc7, h⟩ := o_b h
      refine g_virt (pc := 47) (st2 := []) (rest := []) C hW hS (c_X6_liveWeek (K := K - 1) (by omega) kdc_32 hc7) mw_X8_184 (kin_6 kdc_32) (Ek_6 kdc_32) rfl (hRoom (by omega) (by decide)) rfl rfl rfl (Nat.le_of_ble_eq_true rfl) hl.1 dX8_liveByLots_47 (fun H locs hW hS => ?_)
      refine lv_iinc (pc := 50) (v := (v5 + 1)) (lv' := [(5, .int (v5 + 1)), (3, .long r6), (0, .ref (z + 0)), (2, .int v2)]) hx hb dX8_liveByLots_50 hl (k := 3) rfl rfl (by decide) rfl (fun ls hl => ?_)
      refine lv_goto (pc := 53) (tgt := 26) hx hb dX8_liveByLots_53 (by decide) ?_
      exact ih σ9 r6 (v5 + 1) hW hS (lv_sub hl [2, 3, 1, 0] rfl) h

theorem c_X8_liveByLots {K : Nat}  (hK : 5 ≤ K) {σ : Mem} {σf : Mem} {v1 : Int32} {v2 : Int32} (h : f_X8_liveByLots σ v1 v2 = some σf) : MC l D (Ec ac z) inC z ac (z, aK, aV) (Ac z) yX8_liveByLots cX8_liveByLots 6 none K [.ref (z + 0), .int v1, .int v2] σ none σf := by
  refine MC.of (fun q hq => by have := hq.1; show z ≤ q; omega) (plainFor_of_name (by decide)) (Nat.le_of_ble_eq_true rfl) ?_
  intro p e s m below meth c args C hW ls hl
  replace hl : lv_has ls 6 [(0, .ref (z + 0)), (1, .int v1), (2, .int v2)] := hl
  have hS : va_S (Ac z) s.heap s.heap [] := va_S.rf
  have hx := C.1.1
  have hb := C.1.2.1
  unfold f_X8_liveByLots at h
  refine lv_aload_n (pc := 0) hx hb dX8_liveByLots_0 rfl (lv_at hl 0 rfl) ?_
  refine gf_X8_3 (pc := 1) C hW kdc_0 fl_X8_32 dX8_liveByLots_1 ?_
  refine lv_aload_n (pc := 4) hx hb dX8_liveByLots_4 rfl (lv_at hl 0 rfl) ?_
  refine gf_X8_2 (pc := 5) C hW kdc_0 fl_X8_28 dX8_liveByLots_5 ?_
  obtain ⟨σ2, hc0, h⟩ := o_b h
  refine g_virt (pc := 8) (st2 := []) (rest := []) C hW hS (c_X6_become (K := K - 1) (by omega) kdc_32 kdc_15 hc0) mw_X8_190 (kin_6 kdc_32) (Ek_6 kdc_32) rfl (hRoom (by omega) (by decide)) rfl rfl rfl (Nat.le_of_ble_eq_true rfl) hl.1 dX8_liveByLots_8 (fun H locs hW hS => ?_)
  refine lv_aload_n (pc := 11) hx hb dX8_liveByLots_11 rfl (lv_at hl 0 rfl) ?_
  refine gf_X8_3 (pc := 12) C hW kdc_0 fl_X8_32 dX8_liveByLots_12 ?_
  refine g_virt (pc := 15) (st2 := []) (rest := []) C hW hS (c_X6_startTally (K := K - 1) (by omega) kdc_32 rfl) mw_X8_181 (kin_6 kdc_32) (Ek_6 kdc_32) rfl (hRoom (by omega) (by decide)) rfl rfl rfl (Nat.le_of_ble_eq_true rfl) hl.1 dX8_liveByLots_15 (fun H locs hW hS => ?_)
  obtain ⟨σ3, hσ3, h⟩ := o_d h
  replace hW : WC D ac z σ3 H := by rw [← hσ3]; exact hW
  refine lv_iload_n (pc := 18) hx hb dX8_liveByLots_18 rfl (lv_at hl 1 rfl) ?_
  refine lv_i2l (pc := 19) (v := (v1.toInt64)) hx hb dX8_liveByLots_19 rfl ?_
  refine lv_lconst (pc := 20) (v := 1) hx hb dX8_liveByLots_20 (by decide) ?_
  refine lv_ladd (pc := 21) hx hb dX8_liveByLots_21 ?_
  refine lv_lstore_n (pc := 22) (lv' := [(3, .long ((v1.toInt64) + (1 : Int64))), (0, .ref (z + 0)), (1, .int v1), (2, .int v2)]) hx hb dX8_liveByLots_22 rfl hl (by decide) rfl (fun ls hl => ?_)
  refine lv_iconst (pc := 23) (v := 0) hx hb dX8_liveByLots_23 (by decide) ?_
  refine lv_istore (pc := 24) (lv' := [(5, .int (0 : Int32)), (3, .long ((v1.toInt64) + (1 : Int64))), (0, .ref (z + 0)), (1, .int v1), (2, .int v2)]) hx hb dX8_liveByLots_24 hl (by decide) rfl (fun ls hl => ?_)
  exact w_X8_liveByLots_b26 C hK v2 FU σ3 ((v1.toInt64) + (1 : Int64)) (0 : Int32) hW hS (lv_sub hl [2, 4, 1, 0] rfl) h

theorem c_X8_drawn {K : Nat}  (hK : 6 ≤ K) {σ : Mem} {σf : Mem} {v1 : Int32} {v2 : Int32} {v3 : Int32} {r : Int32} (h : f_X8_drawn σ v1 v2 v3 = some (r, σf)) : MC l D (Ec ac z) inC z ac (z, aK, aV) (Ac z) yX8_drawn cX8_drawn 4 (some .int) K [.ref (z + 0), .int v1, .int v2, .int v3] σ (some (.int r)) σf := by
  refine MC.of (fun q hq => by have := hq.1; show z ≤ q; omega) (plainFor_of_name (by decide)) (Nat.le_of_ble_eq_true rfl) ?_
  intro p e s m below meth c args C hW ls hl
  replace hl : lv_has ls 4 [(0, .ref (z + 0)), (1, .int v1), (2, .int v2), (3, .int v3)] := hl
  have hS : va_S (Ac z) s.heap s.heap [] := va_S.rf
  have hx := C.1.1
  have hb := C.1.2.1
  unfold f_X8_drawn at h
  refine lv_iload_n (pc := 0) hx hb dX8_drawn_0 rfl (lv_at hl 1 rfl) ?_
  refine lv_if_lt (pc := 1) (tgt := 30) hx hb dX8_drawn_1 (by decide) (fun hc0 => ?_) (fun hc0 => ?_)
  · replace h := o_pos hc0 h
    refine lv_bipush (pc := 30) (v := -2) hx hb dX8_drawn_30 (by decide) ?_
    exact g_ret (pc := 32) C hW hS rfl dX8_drawn_32 (congrArg (fun q => some (Value.int q)) (o_r h).1) (o_r h).2
  · replace h := o_neg hc0 h
    refine lv_iload_n (pc := 4) hx hb dX8_drawn_4 rfl (lv_at hl 1 rfl) ?_
    refine lv_ldcw (pc := 5) hx hb C.1.2.2.2.1 (C.1.2.2.2.2 _ cn_X8_316) dX8_drawn_5 ?_
    refine lv_icmp_gt (pc := 8) (tgt := 30) hx hb dX8_drawn_8 (by decide) (fun hc1 => ?_) (fun hc1 => ?_)
    · replace h := o_pos hc1 h
      refine lv_bipush (pc := 30) (v := -2) hx hb dX8_drawn_30 (by decide) ?_
      exact g_ret (pc := 32) C hW hS rfl dX8_drawn_32 (congrArg (fun q => some (Value.int q)) (o_r h).1) (o_r h).2
    · replace h := o_neg hc1 h
      refine lv_iload_n (pc := 11) hx hb dX8_drawn_11 rfl (lv_at hl 2 rfl) ?_
      refine lv_if_lt (pc := 12) (tgt := 30) hx hb dX8_drawn_12 (by decide) (fun hc2 => ?_) (fun hc2 => ?_)
      · replace h := o_pos hc2 h
        refine lv_bipush (pc := 30) (v := -2) hx hb dX8_drawn_30 (by decide) ?_
        exact g_ret (pc := 32) C hW hS rfl dX8_drawn_32 (congrArg (fun q => some (Value.int q)) (o_r h).1) (o_r h).2
      · replace h := o_neg hc2 h
        refine lv_iload_n (pc := 15) hx hb dX8_drawn_15 rfl (lv_at hl 2 rfl) ?_
        refine lv_bipush (pc := 16) (v := 60) hx hb dX8_drawn_16 (by decide) ?_
        refine lv_icmp_gt (pc := 18) (tgt := 30) hx hb dX8_drawn_18 (by decide) (fun hc3 => ?_) (fun hc3 => ?_)
        · replace h := o_pos hc3 h
          refine lv_bipush (pc := 30) (v := -2) hx hb dX8_drawn_30 (by decide) ?_
          exact g_ret (pc := 32) C hW hS rfl dX8_drawn_32 (congrArg (fun q => some (Value.int q)) (o_r h).1) (o_r h).2
        · replace h := o_neg hc3 h
          refine lv_iload_n (pc := 21) hx hb dX8_drawn_21 rfl (lv_at hl 3 rfl) ?_
          refine lv_if_lt (pc := 22) (tgt := 30) hx hb dX8_drawn_22 (by decide) (fun hc4 => ?_) (fun hc4 => ?_)
          · replace h := o_pos hc4 h
            refine lv_bipush (pc := 30) (v := -2) hx hb dX8_drawn_30 (by decide) ?_
            exact g_ret (pc := 32) C hW hS rfl dX8_drawn_32 (congrArg (fun q => some (Value.int q)) (o_r h).1) (o_r h).2
          · replace h := o_neg hc4 h
            refine lv_iload_n (pc := 25) hx hb dX8_drawn_25 rfl (lv_at hl 3 rfl) ?_
            refine lv_iconst (pc := 26) (v := 2) hx hb dX8_drawn_26 (by decide) ?_
            refine lv_icmp_le (pc := 27) (tgt := 33) hx hb dX8_drawn_27 (by decide) (fun hc5 => ?_) (fun hc5 => ?_)
            · replace h := o_pos hc5 h
              refine lv_aload_n (pc := 33) hx hb dX8_drawn_33 rfl (lv_at hl 0 rfl) ?_
              refine lv_iload_n (pc := 34) hx hb dX8_drawn_34 rfl (lv_at hl 1 rfl) ?_
              refine lv_iload_n (pc := 35) hx hb dX8_drawn_35 rfl (lv_at hl 2 rfl) ?_
              obtain ⟨σ8, hc6, h⟩ := o_b h
              refine g_virt (pc := 36) (st2 := []) (rest := []) C hW hS (c_X8_liveByLots (K := K - 1) (by omega) hc6) mw_X8_317 (kin_0 kdc_0) (Ek_0 kdc_0) rfl (hRoom (by omega) (by decide)) rfl rfl rfl (Nat.le_of_ble_eq_true rfl) hl.1 dX8_drawn_36 (fun H locs hW hS => ?_)
              refine lv_iload_n (pc := 39) hx hb dX8_drawn_39 rfl (lv_at hl 3 rfl) ?_
              refine lv_if_ne (pc := 40) (tgt := 51) hx hb dX8_drawn_40 (by decide) (fun hc8 => ?_) (fun hc8 => ?_)
              · replace h := o_neg hc8 h
                refine lv_iload_n (pc := 51) hx hb dX8_drawn_51 rfl (lv_at hl 3 rfl) ?_
                refine lv_iconst (pc := 52) (v := 1) hx hb dX8_drawn_52 (by decide) ?_
                refine lv_icmp_ne (pc := 53) (tgt := 66) hx hb dX8_drawn_53 (by decide) (fun hc9 => ?_) (fun hc9 => ?_)
                · replace h := o_neg hc9 h
                  refine lv_aload_n (pc := 66) hx hb dX8_drawn_66 rfl (lv_at hl 0 rfl) ?_
                  refine gf_X8_3 (pc := 67) C hW kdc_0 fl_X8_32 dX8_drawn_67 ?_
                  refine gf_X6_11 (pc := 70) C hW kdc_32 fl_X8_206 dX8_drawn_70 ?_
                  exact g_ret (pc := 73) C hW hS rfl dX8_drawn_73 (congrArg (fun q => some (Value.int q)) (o_r h).1) (o_r h).2
                · replace h := o_pos hc9 h
                  refine lv_aload_n (pc := 56) hx hb dX8_drawn_56 rfl (lv_at hl 0 rfl) ?_
                  refine gf_X8_3 (pc := 57) C hW kdc_0 fl_X8_32 dX8_drawn_57 ?_
                  refine gf_X6_10 (pc := 60) C hW kdc_32 fl_X8_203 dX8_drawn_60 ?_
                  refine lv_goto (pc := 63) (tgt := 73) hx hb dX8_drawn_63 (by decide) ?_
                  exact g_ret (pc := 73) C hW hS rfl dX8_drawn_73 (congrArg (fun q => some (Value.int q)) (o_r h).1) (o_r h).2
              · replace h := o_pos hc8 h
                refine lv_aload_n (pc := 43) hx hb dX8_drawn_43 rfl (lv_at hl 0 rfl) ?_
                refine gf_X8_3 (pc := 44) C hW kdc_0 fl_X8_32 dX8_drawn_44 ?_
                refine gf_X6_7 (pc := 47) C hW kdc_32 fl_X8_187 dX8_drawn_47 ?_
                exact g_ret (pc := 50) C hW hS rfl dX8_drawn_50 (congrArg (fun q => some (Value.int q)) (o_r h).1) (o_r h).2
            · replace h := o_neg hc5 h
              refine lv_bipush (pc := 30) (v := -2) hx hb dX8_drawn_30 (by decide) ?_
              exact g_ret (pc := 32) C hW hS rfl dX8_drawn_32 (congrArg (fun q => some (Value.int q)) (o_r h).1) (o_r h).2

theorem w_X8_commonDivisor_b21 (C : CX cX8_commonDivisor 3 RX8 (some .int) D ac p m c s args meth (z, aK, aV) (Ac z)) (hK : 0 ≤ K) {r : Int32}   {σ : Mem} (v0 : Int32) (v1 : Int32) (v2 : Int32) (s2 : Int32 → Option Int32) (hs2 : ∀ (v2 : Int32) {H : Heap} {locs : List Loc} {ls : Array Slot} (_ : WC D ac z σ H) (_ : va_S (Ac z) s.heap H locs) (_ : lv_has ls 3 [(0, .int v0), (1, .int v1), (2, .int v2)]) (_ : s2 v2 = some r), W p l e (rma K 0 0) s m args below meth c H locs 0 0 (MQ below (QV D (Ec ac z) inC z (some (.int r)) σ (Ac z)) args s 0 0 (Ac z)) (F0 m 2 ls [])) {H : Heap} {locs : List Loc} {ls : Array Slot} (hW : WC D ac z σ H) (hS : va_S (Ac z) s.heap H locs) (hl : lv_has ls 3 [(0, .int v0), (1, .int v1), (2, .int v2)]) (h : f_X8_commonDivisor_b21 s2 v0 v1 v2 = some r) : W p l e (rma K 0 0) s m args below meth c H locs 0 0 (MQ below (QV D (Ec ac z) inC z (some (.int r)) σ (Ac z)) args s 0 0 (Ac z)) (F0 m 21 ls []) := by
  have hx := C.1.1
  have hb := C.1.2.1
  unfold f_X8_commonDivisor_b21 at h
  refine lv_iinc (pc := 21) (v := (v2 + (-1))) (lv' := [(2, .int (v2 + (-1))), (0, .int v0), (1, .int v1)]) hx hb dX8_commonDivisor_21 hl (k := 2) rfl rfl (by decide) rfl (fun ls hl => ?_)
  refine lv_goto (pc := 24) (tgt := 2) hx hb dX8_commonDivisor_24 (by decide) ?_
  exact hs2 (v2 + (-1)) hW hS (lv_sub hl [1, 2, 0] rfl) h

theorem w_X8_commonDivisor_b2 (C : CX cX8_commonDivisor 3 RX8 (some .int) D ac p m c s args meth (z, aK, aV) (Ac z)) (hK : 0 ≤ K) {r : Int32}   {σ : Mem} (v0 : Int32) (v1 : Int32)  : ∀ (n : Nat) (v2 : Int32) {H : Heap} {locs : List Loc} {ls : Array Slot} (hW : WC D ac z σ H) (hS : va_S (Ac z) s.heap H locs) (hl : lv_has ls 3 [(0, .int v0), (1, .int v1), (2, .int v2)]) (h : f_X8_commonDivisor_b2 v0 v1 n v2 = some r), W p l e (rma K 0 0) s m args below meth c H locs 0 0 (MQ below (QV D (Ec ac z) inC z (some (.int r)) σ (Ac z)) args s 0 0 (Ac z)) (F0 m 2 ls []) := by
  have hx := C.1.1
  have hb := C.1.2.1
  intro n
  induction n with
  | zero =>
    intro v2 H locs ls  hW hS hl h
    cases h
  | succ n ih =>
    intro v2 H locs ls  hW hS hl h
    rw [f_X8_commonDivisor_b2.eq_2] at h
    refine lv_iload_n (pc := 2) hx hb dX8_commonDivisor_2 rfl (lv_at hl 2 rfl) ?_
    refine lv_iconst (pc := 3) (v := 1) hx hb dX8_commonDivisor_3 (by decide) ?_
    refine lv_icmp_le (pc := 4) (tgt := 27) hx hb dX8_commonDivisor_4 (by decide) (fun hc0 => ?_) (fun hc0 => ?_)
    · replace h := o_pos hc0 h
      refine lv_iconst (pc := 27) (v := 1) hx hb dX8_commonDivisor_27 (by decide) ?_
      exact g_ret (pc := 28) C hW hS rfl dX8_commonDivisor_28 (congrArg (fun q => some (Value.int q)) (Option.some.inj h).symm) rfl
    · replace h := o_neg hc0 h
      refine lv_iload_n (pc := 7) hx hb dX8_commonDivisor_7 rfl (lv_at hl 0 rfl) ?_
      refine lv_iload_n (pc := 8) hx hb dX8_commonDivisor_8 rfl (lv_at hl 2 rfl) ?_
      obtain ⟨hc1, h⟩ := o_chk h
      refine lv_irem (pc := 9) hx hb dX8_commonDivisor_9 hc1 ?_
      refine lv_if_ne (pc := 10) (tgt := 21) hx hb dX8_commonDivisor_10 (by decide) (fun hc2 => ?_) (fun hc2 => ?_)
      · replace h := o_neg hc2 h
        exact w_X8_commonDivisor_b21 C hK v0 v1 v2 (f_X8_commonDivisor_b2 v0 v1 n) (fun v2 {H : Heap} {locs : List Loc} {ls : Array Slot}  hW hS hl h => ih v2 hW hS hl h) hW hS (lv_sub hl [0, 1, 2] rfl) h
      · replace h := o_pos hc2 h
        refine lv_iload_n (pc := 13) hx hb dX8_commonDivisor_13 rfl (lv_at hl 1 rfl) ?_
        refine lv_iload_n (pc := 14) hx hb dX8_commonDivisor_14 rfl (lv_at hl 2 rfl) ?_
        obtain ⟨hc3, h⟩ := o_chk h
        refine lv_irem (pc := 15) hx hb dX8_commonDivisor_15 hc3 ?_
        refine lv_if_ne (pc := 16) (tgt := 21) hx hb dX8_commonDivisor_16 (by decide) (fun hc4 => ?_) (fun hc4 => ?_)
        · replace h := o_neg hc4 h
          exact w_X8_commonDivisor_b21 C hK v0 v1 v2 (f_X8_commonDivisor_b2 v0 v1 n) (fun v2 {H : Heap} {locs : List Loc} {ls : Array Slot}  hW hS hl h => ih v2 hW hS hl h) hW hS (lv_sub hl [0, 1, 2] rfl) h
        · replace h := o_pos hc4 h
          refine lv_iload_n (pc := 19) hx hb dX8_commonDivisor_19 rfl (lv_at hl 2 rfl) ?_
          exact g_ret (pc := 20) C hW hS rfl dX8_commonDivisor_20 (congrArg (fun q => some (Value.int q)) (Option.some.inj h).symm) rfl

theorem c_X8_commonDivisor {K : Nat}  (hK : 0 ≤ K) {σ : Mem} {v0 : Int32} {v1 : Int32} {r : Int32} (h : f_X8_commonDivisor v0 v1 = some r) : MC l D (Ec ac z) inC z ac (z, aK, aV) (Ac z) yX8_commonDivisor cX8_commonDivisor 3 (some .int) K [.int v0, .int v1] σ (some (.int r)) σ := by
  refine MC.of (fun q hq => by have := hq.1; show z ≤ q; omega) (plainFor_of_name (by decide)) (Nat.le_of_ble_eq_true rfl) ?_
  intro p e s m below meth c args C hW ls hl
  replace hl : lv_has ls 3 [(0, .int v0), (1, .int v1)] := hl
  have hS : va_S (Ac z) s.heap s.heap [] := va_S.rf
  have hx := C.1.1
  have hb := C.1.2.1
  unfold f_X8_commonDivisor at h
  refine lv_iload_n (pc := 0) hx hb dX8_commonDivisor_0 rfl (lv_at hl 1 rfl) ?_
  refine lv_istore_n (pc := 1) (lv' := [(2, .int v1), (0, .int v0), (1, .int v1)]) hx hb dX8_commonDivisor_1 rfl hl (by decide) rfl (fun ls hl => ?_)
  exact w_X8_commonDivisor_b2 C hK v0 v1 FU v1 hW hS (lv_sub hl [1, 2, 0] rfl) h

theorem w_X8_odds_b85 (C : CX cX8_odds 7 RX8 (some .long) D ac p m c s args meth (z, aK, aV) (Ac z)) (hK : 6 ≤ K) {r : Int64} {σf : Mem}   (σ : Mem) (v1 : Int32) (v2 : Int32) (v3 : Int32) (v4 : Int32) (v5 : Int32) (v6 : Int32) (s57 : Mem → Int32 → Int32 → Option (Int64 × Mem)) (hs57 : ∀ (σ : Mem) (v5 : Int32) (v6 : Int32) {H : Heap} {locs : List Loc} {ls : Array Slot} (_ : WC D ac z σ H) (_ : va_S (Ac z) s.heap H locs) (_ : lv_has ls 7 [(0, .ref (z + 0)), (1, .int v1), (2, .int v2), (3, .int v3), (4, .int v4), (5, .int v5), (6, .int v6)]) (_ : s57 σ v5 v6 = some (r, σf)), W p l e (rma K 0 0) s m args below meth c H locs 0 0 (MQ below (QV D (Ec ac z) inC z (some (.long r)) σf (Ac z)) args s 0 0 (Ac z)) (F0 m 57 ls [])) {H : Heap} {locs : List Loc} {ls : Array Slot} (hW : WC D ac z σ H) (hS : va_S (Ac z) s.heap H locs) (hl : lv_has ls 7 [(0, .ref (z + 0)), (1, .int v1), (2, .int v2), (3, .int v3), (4, .int v4), (5, .int v5), (6, .int v6)]) (h : f_X8_odds_b85 s57 σ v1 v2 v3 v4 v5 v6 = some (r, σf)) : W p l e (rma K 0 0) s m args below meth c H locs 0 0 (MQ below (QV D (Ec ac z) inC z (some (.long r)) σf (Ac z)) args s 0 0 (Ac z)) (F0 m 85 ls []) := by
  have hx := C.1.1
  have hb := C.1.2.1
  unfold f_X8_odds_b85 at h
  refine lv_iinc (pc := 85) (v := (v6 + 1)) (lv' := [(6, .int (v6 + 1)), (0, .ref (z + 0)), (1, .int v1), (2, .int v2), (3, .int v3), (4, .int v4), (5, .int v5)]) hx hb dX8_odds_85 hl (k := 6) rfl rfl (by decide) rfl (fun ls hl => ?_)
  refine lv_goto (pc := 88) (tgt := 57) hx hb dX8_odds_88 (by decide) ?_
  exact hs57 σ v5 (v6 + 1) hW hS (lv_sub hl [1, 2, 3, 4, 5, 6, 0] rfl) h

theorem w_X8_odds_b57 (C : CX cX8_odds 7 RX8 (some .long) D ac p m c s args meth (z, aK, aV) (Ac z)) (hK : 6 ≤ K) {r : Int64} {σf : Mem}   (v1 : Int32) (v2 : Int32) (v3 : Int32) (v4 : Int32)  : ∀ (n : Nat) (σ : Mem) (v5 : Int32) (v6 : Int32) {H : Heap} {locs : List Loc} {ls : Array Slot} (hW : WC D ac z σ H) (hS : va_S (Ac z) s.heap H locs) (hl : lv_has ls 7 [(0, .ref (z + 0)), (1, .int v1), (2, .int v2), (3, .int v3), (4, .int v4), (5, .int v5), (6, .int v6)]) (h : f_X8_odds_b57 v1 v2 v3 v4 n σ v5 v6 = some (r, σf)), W p l e (rma K 0 0) s m args below meth c H locs 0 0 (MQ below (QV D (Ec ac z) inC z (some (.long r)) σf (Ac z)) args s 0 0 (Ac z)) (F0 m 57 ls []) := by
  have hx := C.1.1
  have hb := C.1.2.1
  intro n
  induction n with
  | zero =>
    intro σ v5 v6 H locs ls  hW hS hl h
    cases h
  | succ n ih =>
    intro σ v5 v6 H locs ls  hW hS hl h
    rw [f_X8_odds_b57.eq_2] at h
    refine lv_iload (pc := 57) hx hb dX8_odds_57 (lv_at hl 6 rfl) ?_
    refine lv_iload_n (pc := 59) hx hb dX8_odds_59 rfl (lv_at hl 2 rfl) ?_
    refine lv_icmp_ge (pc := 60) (tgt := 91) hx hb dX8_odds_60 (by decide) (fun hc8 => ?_) (fun hc8 => ?_)
    · replace h := o_pos hc8 h
      refine lv_iload (pc := 91) hx hb dX8_odds_91 (lv_at hl 5 rfl) ?_
      refine lv_iload_n (pc := 93) hx hb dX8_odds_93 rfl (lv_at hl 2 rfl) ?_
      obtain ⟨r11, hc9, h⟩ := o_b h
      refine g_stat (pc := 94) (st2 := [.int r11]) (rest := []) C hW hS (c_X8_commonDivisor (K := K - 1) (by omega) hc9) mw_X8_320 (hRoom (by omega) (by decide)) rfl rfl rfl (Nat.le_of_ble_eq_true rfl) hl.1 dX8_odds_94 (fun H locs hW hS => ?_)
      refine lv_istore (pc := 97) (lv' := [(6, .int r11), (0, .ref (z + 0)), (1, .int v1), (2, .int v2), (3, .int v3), (4, .int v4), (5, .int v5)]) hx hb dX8_odds_97 hl (by decide) rfl (fun ls hl => ?_)
      refine lv_iload (pc := 99) hx hb dX8_odds_99 (lv_at hl 0 rfl) ?_
      refine lv_if_ne (pc := 101) (tgt := 108) hx hb dX8_odds_101 (by decide) (fun hc11 => ?_) (fun hc11 => ?_)
      · replace h := o_neg hc11 h
        refine lv_iload (pc := 108) hx hb dX8_odds_108 (lv_at hl 5 rfl) ?_
        refine lv_if_ne (pc := 110) (tgt := 118) hx hb dX8_odds_110 (by decide) (fun hc12 => ?_) (fun hc12 => ?_)
        · replace h := o_neg hc12 h
          refine lv_iload_n (pc := 118) hx hb dX8_odds_118 rfl (lv_at hl 3 rfl) ?_
          refine lv_iload (pc := 119) hx hb dX8_odds_119 (lv_at hl 0 rfl) ?_
          obtain ⟨hc13, h⟩ := o_chk h
          refine lv_idiv (pc := 121) hx hb dX8_odds_121 hc13 ?_
          refine lv_i2l (pc := 122) (v := ((v2 / r11).toInt64)) hx hb dX8_odds_122 rfl ?_
          exact g_lret (pc := 123) C hW hS dX8_odds_123 (congrArg (fun q => some (Value.long q)) (o_r h).1) (o_r h).2
        · replace h := o_pos hc12 h
          refine lv_iload (pc := 113) hx hb dX8_odds_113 (lv_at hl 6 rfl) ?_
          refine lv_goto (pc := 115) (tgt := 119) hx hb dX8_odds_115 (by decide) ?_
          refine lv_iload (pc := 119) hx hb dX8_odds_119 (lv_at hl 0 rfl) ?_
          obtain ⟨hc14, h⟩ := o_chk h
          refine lv_idiv (pc := 121) hx hb dX8_odds_121 hc14 ?_
          refine lv_i2l (pc := 122) (v := ((v5 / r11).toInt64)) hx hb dX8_odds_122 rfl ?_
          exact g_lret (pc := 123) C hW hS dX8_odds_123 (congrArg (fun q => some (Value.long q)) (o_r h).1) (o_r h).2
      · replace h := o_pos hc11 h
        refine lv_ldc2 (pc := 104) hx hb C.1.2.2.2.1 (C.1.2.2.2.2 _ cn_X8_305) dX8_odds_104 ?_
        exact g_lret (pc := 107) C hW hS dX8_odds_107 (congrArg (fun q => some (Value.long q)) (o_r h).1) (o_r h).2
    · replace h := o_neg hc8 h
      refine lv_aload_n (pc := 63) hx hb dX8_odds_63 rfl (lv_at hl 0 rfl) ?_
      refine lv_iload_n (pc := 64) hx hb dX8_odds_64 rfl (lv_at hl 1 rfl) ?_
      refine lv_iload (pc := 65) hx hb dX8_odds_65 (lv_at hl 6 rfl) ?_
      refine lv_iadd (pc := 67) hx hb dX8_odds_67 ?_
      refine lv_iload_n (pc := 68) hx hb dX8_odds_68 rfl (lv_at hl 3 rfl) ?_
      obtain ⟨σ17, hc15, h⟩ := o_b h
      refine g_virt (pc := 69) (st2 := []) (rest := []) C hW hS (c_X8_liveByLots (K := K - 1) (by omega) hc15) mw_X8_317 (kin_0 kdc_0) (Ek_0 kdc_0) rfl (hRoom (by omega) (by decide)) rfl rfl rfl (Nat.le_of_ble_eq_true rfl) hl.1 dX8_odds_69 (fun H locs hW hS => ?_)
      refine lv_aload_n (pc := 72) hx hb dX8_odds_72 rfl (lv_at hl 0 rfl) ?_
      refine gf_X8_3 (pc := 73) C hW kdc_0 fl_X8_32 dX8_odds_73 ?_
      refine gf_X6_7 (pc := 76) C hW kdc_32 fl_X8_187 dX8_odds_76 ?_
      refine lv_if_ne (pc := 79) (tgt := 85) hx hb dX8_odds_79 (by decide) (fun hc17 => ?_) (fun hc17 => ?_)
      · replace h := o_neg hc17 h
        exact w_X8_odds_b85 C hK σ17 v1 v2 v3 v4 v5 v6 (f_X8_odds_b57 v1 v2 v3 v4 n) (fun σ v5 v6 {H : Heap} {locs : List Loc} {ls : Array Slot}  hW hS hl h => ih σ v5 v6 hW hS hl h) hW hS (lv_sub hl [0, 1, 2, 3, 4, 5, 6] rfl) h
      · replace h := o_pos hc17 h
        refine lv_iinc (pc := 82) (v := (v5 + 1)) (lv' := [(5, .int (v5 + 1)), (0, .ref (z + 0)), (1, .int v1), (2, .int v2), (3, .int v3), (4, .int v4), (6, .int v6)]) hx hb dX8_odds_82 hl (k := 5) rfl rfl (by decide) rfl (fun ls hl => ?_)
        exact w_X8_odds_b85 C hK σ17 v1 v2 v3 v4 (v5 + 1) v6 (f_X8_odds_b57 v1 v2 v3 v4 n) (fun σ v5 v6 {H : Heap} {locs : List Loc} {ls : Array Slot}  hW hS hl h => ih σ v5 v6 hW hS hl h) hW hS (lv_sub hl [1, 2, 3, 4, 5, 0, 6] rfl) h

theorem c_X8_odds {K : Nat}  (hK : 6 ≤ K) {σ : Mem} {σf : Mem} {v1 : Int32} {v2 : Int32} {v3 : Int32} {v4 : Int32} {r : Int64} (h : f_X8_odds σ v1 v2 v3 v4 = some (r, σf)) : MC l D (Ec ac z) inC z ac (z, aK, aV) (Ac z) yX8_odds cX8_odds 7 (some .long) K [.ref (z + 0), .int v1, .int v2, .int v3, .int v4] σ (some (.long r)) σf := by
  refine MC.of (fun q hq => by have := hq.1; show z ≤ q; omega) (plainFor_of_name (by decide)) (Nat.le_of_ble_eq_true rfl) ?_
  intro p e s m below meth c args C hW ls hl
  replace hl : lv_has ls 7 [(0, .ref (z + 0)), (1, .int v1), (2, .int v2), (3, .int v3), (4, .int v4)] := hl
  have hS : va_S (Ac z) s.heap s.heap [] := va_S.rf
  have hx := C.1.1
  have hb := C.1.2.1
  unfold f_X8_odds at h
  refine lv_iload_n (pc := 0) hx hb dX8_odds_0 rfl (lv_at hl 1 rfl) ?_
  refine lv_if_lt (pc := 1) (tgt := 22) hx hb dX8_odds_1 (by decide) (fun hc0 => ?_) (fun hc0 => ?_)
  · replace h := o_pos hc0 h
    refine lv_ldc2 (pc := 22) hx hb C.1.2.2.2.1 (C.1.2.2.2.2 _ cn_X8_305) dX8_odds_22 ?_
    exact g_lret (pc := 25) C hW hS dX8_odds_25 (congrArg (fun q => some (Value.long q)) (o_r h).1) (o_r h).2
  · replace h := o_neg hc0 h
    refine lv_iload_n (pc := 4) hx hb dX8_odds_4 rfl (lv_at hl 1 rfl) ?_
    refine lv_ldcw (pc := 5) hx hb C.1.2.2.2.1 (C.1.2.2.2.2 _ cn_X8_316) dX8_odds_5 ?_
    refine lv_icmp_gt (pc := 8) (tgt := 22) hx hb dX8_odds_8 (by decide) (fun hc1 => ?_) (fun hc1 => ?_)
    · replace h := o_pos hc1 h
      refine lv_ldc2 (pc := 22) hx hb C.1.2.2.2.1 (C.1.2.2.2.2 _ cn_X8_305) dX8_odds_22 ?_
      exact g_lret (pc := 25) C hW hS dX8_odds_25 (congrArg (fun q => some (Value.long q)) (o_r h).1) (o_r h).2
    · replace h := o_neg hc1 h
      refine lv_iload_n (pc := 11) hx hb dX8_odds_11 rfl (lv_at hl 2 rfl) ?_
      refine lv_iconst (pc := 12) (v := 1) hx hb dX8_odds_12 (by decide) ?_
      refine lv_icmp_lt (pc := 13) (tgt := 22) hx hb dX8_odds_13 (by decide) (fun hc2 => ?_) (fun hc2 => ?_)
      · replace h := o_pos hc2 h
        refine lv_ldc2 (pc := 22) hx hb C.1.2.2.2.1 (C.1.2.2.2.2 _ cn_X8_305) dX8_odds_22 ?_
        exact g_lret (pc := 25) C hW hS dX8_odds_25 (congrArg (fun q => some (Value.long q)) (o_r h).1) (o_r h).2
      · replace h := o_neg hc2 h
        refine lv_iload_n (pc := 16) hx hb dX8_odds_16 rfl (lv_at hl 2 rfl) ?_
        refine lv_bipush (pc := 17) (v := 20) hx hb dX8_odds_17 (by decide) ?_
        refine lv_icmp_le (pc := 19) (tgt := 26) hx hb dX8_odds_19 (by decide) (fun hc3 => ?_) (fun hc3 => ?_)
        · replace h := o_pos hc3 h
          refine lv_iload_n (pc := 26) hx hb dX8_odds_26 rfl (lv_at hl 3 rfl) ?_
          refine lv_if_lt (pc := 27) (tgt := 47) hx hb dX8_odds_27 (by decide) (fun hc4 => ?_) (fun hc4 => ?_)
          · replace h := o_pos hc4 h
            refine lv_ldc2 (pc := 47) hx hb C.1.2.2.2.1 (C.1.2.2.2.2 _ cn_X8_305) dX8_odds_47 ?_
            exact g_lret (pc := 50) C hW hS dX8_odds_50 (congrArg (fun q => some (Value.long q)) (o_r h).1) (o_r h).2
          · replace h := o_neg hc4 h
            refine lv_iload_n (pc := 30) hx hb dX8_odds_30 rfl (lv_at hl 3 rfl) ?_
            refine lv_bipush (pc := 31) (v := 60) hx hb dX8_odds_31 (by decide) ?_
            refine lv_icmp_gt (pc := 33) (tgt := 47) hx hb dX8_odds_33 (by decide) (fun hc5 => ?_) (fun hc5 => ?_)
            · replace h := o_pos hc5 h
              refine lv_ldc2 (pc := 47) hx hb C.1.2.2.2.1 (C.1.2.2.2.2 _ cn_X8_305) dX8_odds_47 ?_
              exact g_lret (pc := 50) C hW hS dX8_odds_50 (congrArg (fun q => some (Value.long q)) (o_r h).1) (o_r h).2
            · replace h := o_neg hc5 h
              refine lv_iload (pc := 36) hx hb dX8_odds_36 (lv_at hl 4 rfl) ?_
              refine lv_if_lt (pc := 38) (tgt := 47) hx hb dX8_odds_38 (by decide) (fun hc6 => ?_) (fun hc6 => ?_)
              · replace h := o_pos hc6 h
                refine lv_ldc2 (pc := 47) hx hb C.1.2.2.2.1 (C.1.2.2.2.2 _ cn_X8_305) dX8_odds_47 ?_
                exact g_lret (pc := 50) C hW hS dX8_odds_50 (congrArg (fun q => some (Value.long q)) (o_r h).1) (o_r h).2
              · replace h := o_neg hc6 h
                refine lv_iload (pc := 41) hx hb dX8_odds_41 (lv_at hl 4 rfl) ?_
                refine lv_iconst (pc := 43) (v := 1) hx hb dX8_odds_43 (by decide) ?_
                refine lv_icmp_le (pc := 44) (tgt := 51) hx hb dX8_odds_44 (by decide) (fun hc7 => ?_) (fun hc7 => ?_)
                · replace h := o_pos hc7 h
                  refine lv_iconst (pc := 51) (v := 0) hx hb dX8_odds_51 (by decide) ?_
                  refine lv_istore (pc := 52) (lv' := [(5, .int (0 : Int32)), (0, .ref (z + 0)), (1, .int v1), (2, .int v2), (3, .int v3), (4, .int v4)]) hx hb dX8_odds_52 hl (by decide) rfl (fun ls hl => ?_)
                  refine lv_iconst (pc := 54) (v := 0) hx hb dX8_odds_54 (by decide) ?_
                  refine lv_istore (pc := 55) (lv' := [(6, .int (0 : Int32)), (5, .int (0 : Int32)), (0, .ref (z + 0)), (1, .int v1), (2, .int v2), (3, .int v3), (4, .int v4)]) hx hb dX8_odds_55 hl (by decide) rfl (fun ls hl => ?_)
                  exact w_X8_odds_b57 C hK v1 v2 v3 v4 FU σ (0 : Int32) (0 : Int32) hW hS (lv_sub hl [2, 3, 4, 5, 6, 1, 0] rfl) h
                · replace h := o_neg hc7 h
                  refine lv_ldc2 (pc := 47) hx hb C.1.2.2.2.1 (C.1.2.2.2.2 _ cn_X8_305) dX8_odds_47 ?_
                  exact g_lret (pc := 50) C hW hS dX8_odds_50 (congrArg (fun q => some (Value.long q)) (o_r h).1) (o_r h).2
        · replace h := o_neg hc3 h
          refine lv_ldc2 (pc := 22) hx hb C.1.2.2.2.1 (C.1.2.2.2.2 _ cn_X8_305) dX8_odds_22 ?_
          exact g_lret (pc := 25) C hW hS dX8_odds_25 (congrArg (fun q => some (Value.long q)) (o_r h).1) (o_r h).2

theorem c_X8_image {K : Nat}  (hK : 2 ≤ K) {σ : Mem} {σf : Mem} {r : Int32} (h : f_X8_image σ = some (r, σf)) : MC l D (Ec ac z) inC z ac (z, aK, aV) (Ac z) yX8_image cX8_image 1 (some .int) K [.ref (z + 0)] σ (some (.int r)) σf := by
  refine MC.of (fun q hq => by have := hq.1; show z ≤ q; omega) (plainFor_of_name (by decide)) (Nat.le_of_ble_eq_true rfl) ?_
  intro p e s m below meth c args C hW ls hl
  replace hl : lv_has ls 1 [(0, .ref (z + 0))] := hl
  have hS : va_S (Ac z) s.heap s.heap [] := va_S.rf
  have hx := C.1.1
  have hb := C.1.2.1
  unfold f_X8_image at h
  refine lv_aload_n (pc := 0) hx hb dX8_image_0 rfl (lv_at hl 0 rfl) ?_
  refine gf_X8_4 (pc := 1) C hW kdc_0 fl_X8_35 dX8_image_1 ?_
  refine lv_aload_n (pc := 4) hx hb dX8_image_4 rfl (lv_at hl 0 rfl) ?_
  refine gf_X8_2 (pc := 5) C hW kdc_0 fl_X8_28 dX8_image_5 ?_
  obtain ⟨σ2, hc0, h⟩ := o_b h
  refine g_virt (pc := 8) (st2 := []) (rest := []) C hW hS (c_X6_become (K := K - 1) (by omega) kdc_49 kdc_15 hc0) mw_X8_190 (kin_6 kdc_49) (Ek_6 kdc_49) rfl (hRoom (by omega) (by decide)) rfl rfl rfl (Nat.le_of_ble_eq_true rfl) hl.1 dX8_image_8 (fun H locs hW hS => ?_)
  refine lv_aload_n (pc := 11) hx hb dX8_image_11 rfl (lv_at hl 0 rfl) ?_
  refine lv_iconst (pc := 12) (v := 1) hx hb dX8_image_12 (by decide) ?_
  refine pf_X8_5 (pc := 13) C hW hS kdc_0 fl_X8_38 dX8_image_13 (by decide) (fun H locs hW hS => ?_)
  refine lv_aload_n (pc := 16) hx hb dX8_image_16 rfl (lv_at hl 0 rfl) ?_
  refine gf_X8_2 (pc := 17) C hW kdc_0 fl_X8_28 dX8_image_17 ?_
  refine gf_X6_3 (pc := 20) C hW kdc_15 fl_X8_66 dX8_image_20 ?_
  exact g_ret (pc := 23) C hW hS rfl dX8_image_23 (congrArg (fun q => some (Value.int q)) (o_r h).1) (o_r h).2

theorem c_X8_back {K : Nat}  (hK : 2 ≤ K) {σ : Mem} {σf : Mem} {r : Int32} (h : f_X8_back σ = some (r, σf)) : MC l D (Ec ac z) inC z ac (z, aK, aV) (Ac z) yX8_back cX8_back 1 (some .int) K [.ref (z + 0)] σ (some (.int r)) σf := by
  refine MC.of (fun q hq => by have := hq.1; show z ≤ q; omega) (plainFor_of_name (by decide)) (Nat.le_of_ble_eq_true rfl) ?_
  intro p e s m below meth c args C hW ls hl
  replace hl : lv_has ls 1 [(0, .ref (z + 0))] := hl
  have hS : va_S (Ac z) s.heap s.heap [] := va_S.rf
  have hx := C.1.1
  have hb := C.1.2.1
  unfold f_X8_back at h
  refine lv_aload_n (pc := 0) hx hb dX8_back_0 rfl (lv_at hl 0 rfl) ?_
  refine gf_X8_5 (pc := 1) C hW kdc_0 fl_X8_38 dX8_back_1 ?_
  refine lv_if_ne (pc := 4) (tgt := 10) hx hb dX8_back_4 (by decide) (fun hc0 => ?_) (fun hc0 => ?_)
  · replace h := o_neg hc0 h
    refine lv_aload_n (pc := 10) hx hb dX8_back_10 rfl (lv_at hl 0 rfl) ?_
    refine gf_X8_2 (pc := 11) C hW kdc_0 fl_X8_28 dX8_back_11 ?_
    refine lv_aload_n (pc := 14) hx hb dX8_back_14 rfl (lv_at hl 0 rfl) ?_
    refine gf_X8_4 (pc := 15) C hW kdc_0 fl_X8_35 dX8_back_15 ?_
    obtain ⟨σ3, hc1, h⟩ := o_b h
    refine g_virt (pc := 18) (st2 := []) (rest := []) C hW hS (c_X6_become (K := K - 1) (by omega) kdc_15 kdc_49 hc1) mw_X8_190 (kin_6 kdc_15) (Ek_6 kdc_15) rfl (hRoom (by omega) (by decide)) rfl rfl rfl (Nat.le_of_ble_eq_true rfl) hl.1 dX8_back_18 (fun H locs hW hS => ?_)
    refine lv_aload_n (pc := 21) hx hb dX8_back_21 rfl (lv_at hl 0 rfl) ?_
    refine gf_X8_2 (pc := 22) C hW kdc_0 fl_X8_28 dX8_back_22 ?_
    refine gf_X6_3 (pc := 25) C hW kdc_15 fl_X8_66 dX8_back_25 ?_
    exact g_ret (pc := 28) C hW hS rfl dX8_back_28 (congrArg (fun q => some (Value.int q)) (o_r h).1) (o_r h).2
  · replace h := o_pos hc0 h
    refine lv_bipush (pc := 7) (v := -3) hx hb dX8_back_7 (by decide) ?_
    exact g_ret (pc := 9) C hW hS rfl dX8_back_9 (congrArg (fun q => some (Value.int q)) (o_r h).1) (o_r h).2

theorem c_X8_sheet {K : Nat}  (hK : 2 ≤ K) {σ : Mem} {σf : Mem} {v1 : Int32} {v2 : Int32} {v3 : Int32} {r : Int32} (h : f_X8_sheet σ v1 v2 v3 = some (r, σf)) : MC l D (Ec ac z) inC z ac (z, aK, aV) (Ac z) yX8_sheet cX8_sheet 5 (some .int) K [.ref (z + 0), .int v1, .int v2, .int v3] σ (some (.int r)) σf := by
  refine MC.of (fun q hq => by have := hq.1; show z ≤ q; omega) (plainFor_of_name (by decide)) (Nat.le_of_ble_eq_true rfl) ?_
  intro p e s m below meth c args C hW ls hl
  replace hl : lv_has ls 5 [(0, .ref (z + 0)), (1, .int v1), (2, .int v2), (3, .int v3)] := hl
  have hS : va_S (Ac z) s.heap s.heap [] := va_S.rf
  have hx := C.1.1
  have hb := C.1.2.1
  unfold f_X8_sheet at h
  refine lv_aload_n (pc := 0) hx hb dX8_sheet_0 rfl (lv_at hl 0 rfl) ?_
  refine lv_iload_n (pc := 1) hx hb dX8_sheet_1 rfl (lv_at hl 1 rfl) ?_
  obtain ⟨r2, hc0, h⟩ := o_b h
  refine g_virt (pc := 2) (st2 := [rv z r2]) (rest := []) C hW hS (c_X8_sheetAt (K := K - 1) (by omega) hc0) mw_X8_220 (kin_0 kdc_0) (Ek_0 kdc_0) rfl (hRoom (by omega) (by decide)) rfl rfl rfl (Nat.le_of_ble_eq_true rfl) hl.1 dX8_sheet_2 (fun H locs hW hS => ?_)
  refine g_astoreq (pc := 5) (o := r2) (lv' := [(4, rv z r2), (0, .ref (z + 0)), (1, .int v1), (2, .int v2), (3, .int v3)]) C dX8_sheet_5 hl (by decide) rfl (fun ls hl => ?_)
  refine g_aloadq (pc := 7) (o := r2) C dX8_sheet_7 (lv_at hl 0 rfl) ?_
  refine g_ifnull (pc := 9) (o := r2) (tgt := 22) C dX8_sheet_9 (by decide) (fun hn => ?_) (fun q3 hn => ?_)
  · subst hn
    replace h := o_nn h
    replace hl : lv_has ls 5 [(4, .null), (0, .ref (z + 0)), (1, .int v1), (2, .int v2), (3, .int v3)] := hl
    refine lv_bipush (pc := 22) (v := -2) hx hb dX8_sheet_22 (by decide) ?_
    exact g_ret (pc := 24) C hW hS rfl dX8_sheet_24 (congrArg (fun q => some (Value.int q)) (o_r h).1) (o_r h).2
  · subst hn
    replace h := o_ns h
    replace hl : lv_has ls 5 [(4, .ref (z + q3)), (0, .ref (z + 0)), (1, .int v1), (2, .int v2), (3, .int v3)] := hl
    refine lv_iload_n (pc := 12) hx hb dX8_sheet_12 rfl (lv_at hl 3 rfl) ?_
    refine lv_iconst (pc := 13) (v := -1) hx hb dX8_sheet_13 (by decide) ?_
    refine lv_icmp_lt (pc := 14) (tgt := 22) hx hb dX8_sheet_14 (by decide) (fun hc3 => ?_) (fun hc3 => ?_)
    · replace h := o_pos hc3 h
      refine lv_bipush (pc := 22) (v := -2) hx hb dX8_sheet_22 (by decide) ?_
      exact g_ret (pc := 24) C hW hS rfl dX8_sheet_24 (congrArg (fun q => some (Value.int q)) (o_r h).1) (o_r h).2
    · replace h := o_neg hc3 h
      refine lv_iload_n (pc := 17) hx hb dX8_sheet_17 rfl (lv_at hl 3 rfl) ?_
      refine lv_iconst (pc := 18) (v := 2) hx hb dX8_sheet_18 (by decide) ?_
      refine lv_icmp_le (pc := 19) (tgt := 25) hx hb dX8_sheet_19 (by decide) (fun hc4 => ?_) (fun hc4 => ?_)
      · replace h := o_pos hc4 h
        refine lv_iload_n (pc := 25) hx hb dX8_sheet_25 rfl (lv_at hl 3 rfl) ?_
        refine lv_iconst (pc := 26) (v := -1) hx hb dX8_sheet_26 (by decide) ?_
        refine lv_icmp_ne (pc := 27) (tgt := 39) hx hb dX8_sheet_27 (by decide) (fun hc5 => ?_) (fun hc5 => ?_)
        · replace h := o_neg hc5 h
          refine lv_iload_n (pc := 39) hx hb dX8_sheet_39 rfl (lv_at hl 4 rfl) ?_
          refine lv_bipush (pc := 40) (v := 40) hx hb dX8_sheet_40 (by decide) ?_
          refine lv_icmp_le (pc := 42) (tgt := 48) hx hb dX8_sheet_42 (by decide) (fun hc6 => ?_) (fun hc6 => ?_)
          · replace h := o_pos hc6 h
            refine lv_iload_n (pc := 48) hx hb dX8_sheet_48 rfl (lv_at hl 4 rfl) ?_
            refine lv_if_ge (pc := 49) (tgt := 55) hx hb dX8_sheet_49 (by decide) (fun hc7 => ?_) (fun hc7 => ?_)
            · replace h := o_pos hc7 h
              refine lv_aload (pc := 55) hx hb dX8_sheet_55 (lv_at hl 0 rfl) ?_
              refine lv_iload_n (pc := 57) hx hb dX8_sheet_57 rfl (lv_at hl 3 rfl) ?_
              refine lv_iload_n (pc := 58) hx hb dX8_sheet_58 rfl (lv_at hl 4 rfl) ?_
              obtain ⟨σ10, hc8, h⟩ := o_b h
              refine g_virt (pc := 59) (st2 := []) (rest := []) C hW hS (c_X4_makeRow (K := K - 1) (by omega) ((ty_X8_sheetAt  hc0) q3 rfl) hc8) mw_X8_309 (kin_12 ((ty_X8_sheetAt  hc0) q3 rfl)) (Ek_12 ((ty_X8_sheetAt  hc0) q3 rfl)) rfl (hRoom (by omega) (by decide)) rfl rfl rfl (Nat.le_of_ble_eq_true rfl) hl.1 dX8_sheet_59 (fun H locs hW hS => ?_)
              refine lv_iconst (pc := 62) (v := 1) hx hb dX8_sheet_62 (by decide) ?_
              exact g_ret (pc := 63) C hW hS rfl dX8_sheet_63 (congrArg (fun q => some (Value.int q)) (o_r h).1) (o_r h).2
            · replace h := o_neg hc7 h
              refine lv_bipush (pc := 52) (v := -14) hx hb dX8_sheet_52 (by decide) ?_
              exact g_ret (pc := 54) C hW hS rfl dX8_sheet_54 (congrArg (fun q => some (Value.int q)) (o_r h).1) (o_r h).2
          · replace h := o_neg hc6 h
            refine lv_bipush (pc := 45) (v := -2) hx hb dX8_sheet_45 (by decide) ?_
            exact g_ret (pc := 47) C hW hS rfl dX8_sheet_47 (congrArg (fun q => some (Value.int q)) (o_r h).1) (o_r h).2
        · replace h := o_pos hc5 h
          refine lv_aload (pc := 30) hx hb dX8_sheet_30 (lv_at hl 0 rfl) ?_
          refine lv_iconst (pc := 32) (v := -1) hx hb dX8_sheet_32 (by decide) ?_
          refine lv_iconst (pc := 33) (v := 0) hx hb dX8_sheet_33 (by decide) ?_
          obtain ⟨σ12, hc10, h⟩ := o_b h
          refine g_virt (pc := 34) (st2 := []) (rest := []) C hW hS (c_X4_makeRow (K := K - 1) (by omega) ((ty_X8_sheetAt  hc0) q3 rfl) hc10) mw_X8_309 (kin_12 ((ty_X8_sheetAt  hc0) q3 rfl)) (Ek_12 ((ty_X8_sheetAt  hc0) q3 rfl)) rfl (hRoom (by omega) (by decide)) rfl rfl rfl (Nat.le_of_ble_eq_true rfl) hl.1 dX8_sheet_34 (fun H locs hW hS => ?_)
          refine lv_iconst (pc := 37) (v := 1) hx hb dX8_sheet_37 (by decide) ?_
          exact g_ret (pc := 38) C hW hS rfl dX8_sheet_38 (congrArg (fun q => some (Value.int q)) (o_r h).1) (o_r h).2
      · replace h := o_neg hc4 h
        refine lv_bipush (pc := 22) (v := -2) hx hb dX8_sheet_22 (by decide) ?_
        exact g_ret (pc := 24) C hW hS rfl dX8_sheet_24 (congrArg (fun q => some (Value.int q)) (o_r h).1) (o_r h).2

theorem c_X8_cell {K : Nat}  (hK : 1 ≤ K) {σ : Mem} {σf : Mem} {v1 : Int32} {v2 : Int32} {v3 : Int32} {r : Int32} (h : f_X8_cell σ v1 v2 v3 = some (r, σf)) : MC l D (Ec ac z) inC z ac (z, aK, aV) (Ac z) yX8_cell cX8_cell 5 (some .int) K [.ref (z + 0), .int v1, .int v2, .int v3] σ (some (.int r)) σf := by
  refine MC.of (fun q hq => by have := hq.1; show z ≤ q; omega) (plainFor_of_name (by decide)) (Nat.le_of_ble_eq_true rfl) ?_
  intro p e s m below meth c args C hW ls hl
  replace hl : lv_has ls 5 [(0, .ref (z + 0)), (1, .int v1), (2, .int v2), (3, .int v3)] := hl
  have hS : va_S (Ac z) s.heap s.heap [] := va_S.rf
  have hx := C.1.1
  have hb := C.1.2.1
  unfold f_X8_cell at h
  refine lv_aload_n (pc := 0) hx hb dX8_cell_0 rfl (lv_at hl 0 rfl) ?_
  refine lv_iload_n (pc := 1) hx hb dX8_cell_1 rfl (lv_at hl 1 rfl) ?_
  obtain ⟨r2, hc0, h⟩ := o_b h
  refine g_virt (pc := 2) (st2 := [rv z r2]) (rest := []) C hW hS (c_X8_sheetAt (K := K - 1) (by omega) hc0) mw_X8_220 (kin_0 kdc_0) (Ek_0 kdc_0) rfl (hRoom (by omega) (by decide)) rfl rfl rfl (Nat.le_of_ble_eq_true rfl) hl.1 dX8_cell_2 (fun H locs hW hS => ?_)
  refine g_astoreq (pc := 5) (o := r2) (lv' := [(4, rv z r2), (0, .ref (z + 0)), (1, .int v1), (2, .int v2), (3, .int v3)]) C dX8_cell_5 hl (by decide) rfl (fun ls hl => ?_)
  refine g_aloadq (pc := 7) (o := r2) C dX8_cell_7 (lv_at hl 0 rfl) ?_
  refine g_ifnonnull (pc := 9) (o := r2) (tgt := 15) C dX8_cell_9 (by decide) (fun hn => ?_) (fun q3 hn => ?_)
  · subst hn
    replace h := o_nn h
    replace hl : lv_has ls 5 [(4, .null), (0, .ref (z + 0)), (1, .int v1), (2, .int v2), (3, .int v3)] := hl
    refine lv_bipush (pc := 12) (v := -2) hx hb dX8_cell_12 (by decide) ?_
    exact g_ret (pc := 14) C hW hS rfl dX8_cell_14 (congrArg (fun q => some (Value.int q)) (o_r h).1) (o_r h).2
  · subst hn
    replace h := o_ns h
    replace hl : lv_has ls 5 [(4, .ref (z + q3)), (0, .ref (z + 0)), (1, .int v1), (2, .int v2), (3, .int v3)] := hl
    refine lv_aload (pc := 15) hx hb dX8_cell_15 (lv_at hl 0 rfl) ?_
    refine gf_X4_1 (pc := 17) C hW ((ty_X8_sheetAt  hc0) q3 rfl) fl_X8_224 dX8_cell_17 ?_
    refine lv_iconst (pc := 20) (v := -1) hx hb dX8_cell_20 (by decide) ?_
    refine lv_icmp_ne (pc := 21) (tgt := 27) hx hb dX8_cell_21 (by decide) (fun hc3 => ?_) (fun hc3 => ?_)
    · replace h := o_neg hc3 h
      refine lv_iload_n (pc := 27) hx hb dX8_cell_27 rfl (lv_at hl 3 rfl) ?_
      refine lv_if_lt (pc := 28) (tgt := 40) hx hb dX8_cell_28 (by decide) (fun hc4 => ?_) (fun hc4 => ?_)
      · replace h := o_pos hc4 h
        refine lv_bipush (pc := 40) (v := -12) hx hb dX8_cell_40 (by decide) ?_
        exact g_ret (pc := 42) C hW hS rfl dX8_cell_42 (congrArg (fun q => some (Value.int q)) (o_r h).1) (o_r h).2
      · replace h := o_neg hc4 h
        refine lv_iload_n (pc := 31) hx hb dX8_cell_31 rfl (lv_at hl 3 rfl) ?_
        refine lv_aload (pc := 32) hx hb dX8_cell_32 (lv_at hl 0 rfl) ?_
        refine gf_X4_2 (pc := 34) C hW ((ty_X8_sheetAt  hc0) q3 rfl) fl_X8_235 dX8_cell_34 ?_
        refine lv_icmp_lt (pc := 37) (tgt := 43) hx hb dX8_cell_37 (by decide) (fun hc5 => ?_) (fun hc5 => ?_)
        · replace h := o_pos hc5 h
          refine lv_aload (pc := 43) hx hb dX8_cell_43 (lv_at hl 0 rfl) ?_
          refine lv_iload_n (pc := 45) hx hb dX8_cell_45 rfl (lv_at hl 3 rfl) ?_
          refine lv_iload_n (pc := 46) hx hb dX8_cell_46 rfl (lv_at hl 4 rfl) ?_
          obtain ⟨σ8, hc6, h⟩ := o_b h
          refine g_virt (pc := 47) (st2 := []) (rest := []) C hW hS (c_X4_put (K := K - 1) (by omega) ((ty_X8_sheetAt  hc0) q3 rfl) hc6) mw_X8_313 (kin_12 ((ty_X8_sheetAt  hc0) q3 rfl)) (Ek_12 ((ty_X8_sheetAt  hc0) q3 rfl)) rfl (hRoom (by omega) (by decide)) rfl rfl rfl (Nat.le_of_ble_eq_true rfl) hl.1 dX8_cell_47 (fun H locs hW hS => ?_)
          refine lv_iconst (pc := 50) (v := 1) hx hb dX8_cell_50 (by decide) ?_
          exact g_ret (pc := 51) C hW hS rfl dX8_cell_51 (congrArg (fun q => some (Value.int q)) (o_r h).1) (o_r h).2
        · replace h := o_neg hc5 h
          refine lv_bipush (pc := 40) (v := -12) hx hb dX8_cell_40 (by decide) ?_
          exact g_ret (pc := 42) C hW hS rfl dX8_cell_42 (congrArg (fun q => some (Value.int q)) (o_r h).1) (o_r h).2
    · replace h := o_pos hc3 h
      refine lv_bipush (pc := 24) (v := -11) hx hb dX8_cell_24 (by decide) ?_
      exact g_ret (pc := 26) C hW hS rfl dX8_cell_26 (congrArg (fun q => some (Value.int q)) (o_r h).1) (o_r h).2

theorem c_X8_copy {K : Nat}  (hK : 1 ≤ K) {σ : Mem} {σf : Mem} {v1 : Int32} {v2 : Int32} {v3 : Int32} {v4 : Int32} {v5 : Int32} {r : Int32} (h : f_X8_copy σ v1 v2 v3 v4 v5 = some (r, σf)) : MC l D (Ec ac z) inC z ac (z, aK, aV) (Ac z) yX8_copy cX8_copy 8 (some .int) K [.ref (z + 0), .int v1, .int v2, .int v3, .int v4, .int v5] σ (some (.int r)) σf := by
  refine MC.of (fun q hq => by have := hq.1; show z ≤ q; omega) (plainFor_of_name (by decide)) (Nat.le_of_ble_eq_true rfl) ?_
  intro p e s m below meth c args C hW ls hl
  replace hl : lv_has ls 8 [(0, .ref (z + 0)), (1, .int v1), (2, .int v2), (3, .int v3), (4, .int v4), (5, .int v5)] := hl
  have hS : va_S (Ac z) s.heap s.heap [] := va_S.rf
  have hx := C.1.1
  have hb := C.1.2.1
  unfold f_X8_copy at h
  refine lv_aload_n (pc := 0) hx hb dX8_copy_0 rfl (lv_at hl 0 rfl) ?_
  refine lv_iload_n (pc := 1) hx hb dX8_copy_1 rfl (lv_at hl 1 rfl) ?_
  obtain ⟨r2, hc0, h⟩ := o_b h
  refine g_virt (pc := 2) (st2 := [rv z r2]) (rest := []) C hW hS (c_X8_sheetAt (K := K - 1) (by omega) hc0) mw_X8_220 (kin_0 kdc_0) (Ek_0 kdc_0) rfl (hRoom (by omega) (by decide)) rfl rfl rfl (Nat.le_of_ble_eq_true rfl) hl.1 dX8_copy_2 (fun H locs hW hS => ?_)
  refine g_astoreq (pc := 5) (o := r2) (lv' := [(6, rv z r2), (0, .ref (z + 0)), (1, .int v1), (2, .int v2), (3, .int v3), (4, .int v4), (5, .int v5)]) C dX8_copy_5 hl (by decide) rfl (fun ls hl => ?_)
  refine lv_aload_n (pc := 7) hx hb dX8_copy_7 rfl (lv_at hl 1 rfl) ?_
  refine lv_iload_n (pc := 8) hx hb dX8_copy_8 rfl (lv_at hl 4 rfl) ?_
  obtain ⟨r4, hc2, h⟩ := o_b h
  refine g_virt (pc := 9) (st2 := [rv z r4]) (rest := []) C hW hS (c_X8_sheetAt (K := K - 1) (by omega) hc2) mw_X8_220 (kin_0 kdc_0) (Ek_0 kdc_0) rfl (hRoom (by omega) (by decide)) rfl rfl rfl (Nat.le_of_ble_eq_true rfl) hl.1 dX8_copy_9 (fun H locs hW hS => ?_)
  refine g_astoreq (pc := 12) (o := r4) (lv' := [(7, rv z r4), (6, rv z r2), (0, .ref (z + 0)), (1, .int v1), (2, .int v2), (3, .int v3), (4, .int v4), (5, .int v5)]) C dX8_copy_12 hl (by decide) (by cases r2 <;> rfl) (fun ls hl => ?_)
  refine g_aloadq (pc := 14) (o := r2) C dX8_copy_14 (lv_at hl 1 rfl) ?_
  refine g_ifnull (pc := 16) (o := r2) (tgt := 24) C dX8_copy_16 (by decide) (fun hn => ?_) (fun q5 hn => ?_)
  · subst hn
    replace h := o_nn h
    replace hl : lv_has ls 8 [(7, rv z r4), (6, .null), (0, .ref (z + 0)), (1, .int v1), (2, .int v2), (3, .int v3), (4, .int v4), (5, .int v5)] := hl
    refine lv_bipush (pc := 24) (v := -2) hx hb dX8_copy_24 (by decide) ?_
    exact g_ret (pc := 26) C hW hS rfl dX8_copy_26 (congrArg (fun q => some (Value.int q)) (o_r h).1) (o_r h).2
  · subst hn
    replace h := o_ns h
    replace hl : lv_has ls 8 [(7, rv z r4), (6, .ref (z + q5)), (0, .ref (z + 0)), (1, .int v1), (2, .int v2), (3, .int v3), (4, .int v4), (5, .int v5)] := hl
    refine g_aloadq (pc := 19) (o := r4) C dX8_copy_19 (lv_at hl 0 rfl) ?_
    refine g_ifnonnull (pc := 21) (o := r4) (tgt := 27) C dX8_copy_21 (by decide) (fun hn => ?_) (fun q6 hn => ?_)
    · subst hn
      replace h := o_nn h
      replace hl : lv_has ls 8 [(7, .null), (6, .ref (z + q5)), (0, .ref (z + 0)), (1, .int v1), (2, .int v2), (3, .int v3), (4, .int v4), (5, .int v5)] := hl
      refine lv_bipush (pc := 24) (v := -2) hx hb dX8_copy_24 (by decide) ?_
      exact g_ret (pc := 26) C hW hS rfl dX8_copy_26 (congrArg (fun q => some (Value.int q)) (o_r h).1) (o_r h).2
    · subst hn
      replace h := o_ns h
      replace hl : lv_has ls 8 [(7, .ref (z + q6)), (6, .ref (z + q5)), (0, .ref (z + 0)), (1, .int v1), (2, .int v2), (3, .int v3), (4, .int v4), (5, .int v5)] := hl
      refine lv_aload (pc := 27) hx hb dX8_copy_27 (lv_at hl 1 rfl) ?_
      refine gf_X4_1 (pc := 29) C hW ((ty_X8_sheetAt  hc0) q5 rfl) fl_X8_224 dX8_copy_29 ?_
      refine lv_iconst (pc := 32) (v := -1) hx hb dX8_copy_32 (by decide) ?_
      refine lv_icmp_eq (pc := 33) (tgt := 45) hx hb dX8_copy_33 (by decide) (fun hc6 => ?_) (fun hc6 => ?_)
      · replace h := o_pos hc6 h
        refine lv_bipush (pc := 45) (v := -11) hx hb dX8_copy_45 (by decide) ?_
        exact g_ret (pc := 47) C hW hS rfl dX8_copy_47 (congrArg (fun q => some (Value.int q)) (o_r h).1) (o_r h).2
      · replace h := o_neg hc6 h
        refine lv_aload (pc := 36) hx hb dX8_copy_36 (lv_at hl 0 rfl) ?_
        refine gf_X4_1 (pc := 38) C hW ((ty_X8_sheetAt  hc2) q6 rfl) fl_X8_224 dX8_copy_38 ?_
        refine lv_iconst (pc := 41) (v := -1) hx hb dX8_copy_41 (by decide) ?_
        refine lv_icmp_ne (pc := 42) (tgt := 48) hx hb dX8_copy_42 (by decide) (fun hc7 => ?_) (fun hc7 => ?_)
        · replace h := o_neg hc7 h
          refine lv_aload (pc := 48) hx hb dX8_copy_48 (lv_at hl 1 rfl) ?_
          refine gf_X4_1 (pc := 50) C hW ((ty_X8_sheetAt  hc0) q5 rfl) fl_X8_224 dX8_copy_50 ?_
          refine lv_aload (pc := 53) hx hb dX8_copy_53 (lv_at hl 0 rfl) ?_
          refine gf_X4_1 (pc := 55) C hW ((ty_X8_sheetAt  hc2) q6 rfl) fl_X8_224 dX8_copy_55 ?_
          refine lv_icmp_eq (pc := 58) (tgt := 64) hx hb dX8_copy_58 (by decide) (fun hc8 => ?_) (fun hc8 => ?_)
          · replace h := o_pos hc8 h
            refine lv_aload (pc := 64) hx hb dX8_copy_64 (lv_at hl 1 rfl) ?_
            refine lv_iload_n (pc := 66) hx hb dX8_copy_66 rfl (lv_at hl 4 rfl) ?_
            refine lv_iload (pc := 67) hx hb dX8_copy_67 (lv_at hl 7 rfl) ?_
            refine g_virt (pc := 69) (st2 := [.int (f_X4_holds σ q5 v2 v5)]) (rest := []) C hW hS (c_X4_holds (K := K - 1) (by omega) ((ty_X8_sheetAt  hc0) q5 rfl) rfl) mw_X8_327 (kin_12 ((ty_X8_sheetAt  hc0) q5 rfl)) (Ek_12 ((ty_X8_sheetAt  hc0) q5 rfl)) rfl (hRoom (by omega) (by decide)) rfl rfl rfl (Nat.le_of_ble_eq_true rfl) hl.1 dX8_copy_69 (fun H locs hW hS => ?_)
            refine lv_if_eq (pc := 72) (tgt := 87) hx hb dX8_copy_72 (by decide) (fun hc9 => ?_) (fun hc9 => ?_)
            · replace h := o_pos hc9 h
              refine lv_bipush (pc := 87) (v := -12) hx hb dX8_copy_87 (by decide) ?_
              exact g_ret (pc := 89) C hW hS rfl dX8_copy_89 (congrArg (fun q => some (Value.int q)) (o_r h).1) (o_r h).2
            · replace h := o_neg hc9 h
              refine lv_aload (pc := 75) hx hb dX8_copy_75 (lv_at hl 0 rfl) ?_
              refine lv_iload (pc := 77) hx hb dX8_copy_77 (lv_at hl 6 rfl) ?_
              refine lv_iload (pc := 79) hx hb dX8_copy_79 (lv_at hl 7 rfl) ?_
              refine g_virt (pc := 81) (st2 := [.int (f_X4_holds σ q6 v4 v5)]) (rest := []) C hW hS (c_X4_holds (K := K - 1) (by omega) ((ty_X8_sheetAt  hc2) q6 rfl) rfl) mw_X8_327 (kin_12 ((ty_X8_sheetAt  hc2) q6 rfl)) (Ek_12 ((ty_X8_sheetAt  hc2) q6 rfl)) rfl (hRoom (by omega) (by decide)) rfl rfl rfl (Nat.le_of_ble_eq_true rfl) hl.1 dX8_copy_81 (fun H locs hW hS => ?_)
              refine lv_if_ne (pc := 84) (tgt := 90) hx hb dX8_copy_84 (by decide) (fun hc10 => ?_) (fun hc10 => ?_)
              · replace h := o_neg hc10 h
                refine lv_aload (pc := 90) hx hb dX8_copy_90 (lv_at hl 1 rfl) ?_
                refine gf_X4_0 (pc := 92) C hW ((ty_X8_sheetAt  hc0) q5 rfl) fl_X8_331 dX8_copy_92 ?_
                refine lv_iload_n (pc := 95) hx hb dX8_copy_95 rfl (lv_at hl 4 rfl) ?_
                refine lv_aload (pc := 96) hx hb dX8_copy_96 (lv_at hl 0 rfl) ?_
                refine gf_X4_0 (pc := 98) C hW ((ty_X8_sheetAt  hc2) q6 rfl) fl_X8_331 dX8_copy_98 ?_
                refine lv_iload (pc := 101) hx hb dX8_copy_101 (lv_at hl 6 rfl) ?_
                refine lv_iload (pc := 103) hx hb dX8_copy_103 (lv_at hl 7 rfl) ?_
                obtain ⟨hc11, h⟩ := o_chk h
                refine ia_copy (pc := 105) C hW hS (kd_snum ((ty_X8_sheetAt  hc0) q5 rfl)) (al_snum ((ty_X8_sheetAt  hc0) q5 rfl)) (kd_snum ((ty_X8_sheetAt  hc2) q6 rfl)) (al_snum ((ty_X8_sheetAt  hc2) q6 rfl)) hc11 hl.1 (hRoomC (by omega)) cp_X8_335 dX8_copy_105 (fun H locs hW hS => ?_)
                refine lv_iload (pc := 108) hx hb dX8_copy_108 (lv_at hl 7 rfl) ?_
                exact g_ret (pc := 110) C hW hS rfl dX8_copy_110 (congrArg (fun q => some (Value.int q)) (o_r h).1) (o_r h).2
              · replace h := o_pos hc10 h
                refine lv_bipush (pc := 87) (v := -12) hx hb dX8_copy_87 (by decide) ?_
                exact g_ret (pc := 89) C hW hS rfl dX8_copy_89 (congrArg (fun q => some (Value.int q)) (o_r h).1) (o_r h).2
          · replace h := o_neg hc8 h
            refine lv_bipush (pc := 61) (v := -13) hx hb dX8_copy_61 (by decide) ?_
            exact g_ret (pc := 63) C hW hS rfl dX8_copy_63 (congrArg (fun q => some (Value.int q)) (o_r h).1) (o_r h).2
        · replace h := o_pos hc7 h
          refine lv_bipush (pc := 45) (v := -11) hx hb dX8_copy_45 (by decide) ?_
          exact g_ret (pc := 47) C hW hS rfl dX8_copy_47 (congrArg (fun q => some (Value.int q)) (o_r h).1) (o_r h).2

theorem w_X8_menBy_b137 (C : CX cX8_menBy 9 RX8 (some .int) D ac p m c s args meth (z, aK, aV) (Ac z)) (hK : 1 ≤ K) {r : Int32} {σf : Mem}   (σ : Mem) (v3 : Int32) (v4 : Int32) (v5 : Nat) (v6 : Int32) (v7 : Int32) (s66 : Mem → Int32 → Int32 → Option (Int32 × Mem)) (hs66 : ∀ (σ : Mem) (v6 : Int32) (v7 : Int32) {H : Heap} {locs : List Loc} {ls : Array Slot} (_ : WC D ac z σ H) (_ : va_S (Ac z) s.heap H locs) (_ : lv_has ls 9 [(0, .ref (z + 0)), (3, .int v3), (4, .int v4), (5, .ref (z + v5)), (6, .int v6), (7, .int v7)]) (_ : s66 σ v6 v7 = some (r, σf)), W p l e (rma K 0 0) s m args below meth c H locs 0 0 (MQ below (QV D (Ec ac z) inC z (some (.int r)) σf (Ac z)) args s 0 0 (Ac z)) (F0 m 66 ls [])) {H : Heap} {locs : List Loc} {ls : Array Slot} (tv5 : kd v5 = 12) (hW : WC D ac z σ H) (hS : va_S (Ac z) s.heap H locs) (hl : lv_has ls 9 [(0, .ref (z + 0)), (3, .int v3), (4, .int v4), (5, .ref (z + v5)), (6, .int v6), (7, .int v7)]) (h : f_X8_menBy_b137 s66 σ v3 v4 v5 v6 v7 = some (r, σf)) : W p l e (rma K 0 0) s m args below meth c H locs 0 0 (MQ below (QV D (Ec ac z) inC z (some (.int r)) σf (Ac z)) args s 0 0 (Ac z)) (F0 m 137 ls []) := by
  have hx := C.1.1
  have hb := C.1.2.1
  unfold f_X8_menBy_b137 at h
  refine lv_iinc (pc := 137) (v := (v7 + 1)) (lv' := [(7, .int (v7 + 1)), (0, .ref (z + 0)), (3, .int v3), (4, .int v4), (5, .ref (z + v5)), (6, .int v6)]) hx hb dX8_menBy_137 hl (k := 5) rfl rfl (by decide) rfl (fun ls hl => ?_)
  refine lv_goto (pc := 140) (tgt := 66) hx hb dX8_menBy_140 (by decide) ?_
  exact hs66 σ v6 (v7 + 1) hW hS (lv_sub hl [1, 2, 3, 4, 5, 0] rfl) h

theorem w_X8_menBy_b66 (C : CX cX8_menBy 9 RX8 (some .int) D ac p m c s args meth (z, aK, aV) (Ac z)) (hK : 1 ≤ K) {r : Int32} {σf : Mem}   (v3 : Int32) (v4 : Int32) (v5 : Nat)  : ∀ (n : Nat) (σ : Mem) (v6 : Int32) (v7 : Int32) {H : Heap} {locs : List Loc} {ls : Array Slot} (tv5 : kd v5 = 12) (hW : WC D ac z σ H) (hS : va_S (Ac z) s.heap H locs) (hl : lv_has ls 9 [(0, .ref (z + 0)), (3, .int v3), (4, .int v4), (5, .ref (z + v5)), (6, .int v6), (7, .int v7)]) (h : f_X8_menBy_b66 v3 v4 v5 n σ v6 v7 = some (r, σf)), W p l e (rma K 0 0) s m args below meth c H locs 0 0 (MQ below (QV D (Ec ac z) inC z (some (.int r)) σf (Ac z)) args s 0 0 (Ac z)) (F0 m 66 ls []) := by
  have hx := C.1.1
  have hb := C.1.2.1
  intro n
  induction n with
  | zero =>
    intro σ v6 v7 H locs ls tv5 hW hS hl h
    cases h
  | succ n ih =>
    intro σ v6 v7 H locs ls tv5 hW hS hl h
    rw [f_X8_menBy_b66.eq_2] at h
    refine lv_iload (pc := 66) hx hb dX8_menBy_66 (lv_at hl 5 rfl) ?_
    refine lv_iload (pc := 68) hx hb dX8_menBy_68 (lv_at hl 2 rfl) ?_
    refine lv_icmp_ge (pc := 70) (tgt := 143) hx hb dX8_menBy_70 (by decide) (fun hc9 => ?_) (fun hc9 => ?_)
    · replace h := o_pos hc9 h
      refine lv_iload (pc := 143) hx hb dX8_menBy_143 (lv_at hl 4 rfl) ?_
      exact g_ret (pc := 145) C hW hS rfl dX8_menBy_145 (congrArg (fun q => some (Value.int q)) (o_r h).1) (o_r h).2
    · replace h := o_neg hc9 h
      refine lv_aload (pc := 73) hx hb dX8_menBy_73 (lv_at hl 3 rfl) ?_
      refine lv_iload_n (pc := 75) hx hb dX8_menBy_75 rfl (lv_at hl 1 rfl) ?_
      refine lv_iconst (pc := 76) (v := 3) hx hb dX8_menBy_76 (by decide) ?_
      refine lv_iload (pc := 77) hx hb dX8_menBy_77 (lv_at hl 5 rfl) ?_
      refine lv_imul (pc := 79) hx hb dX8_menBy_79 ?_
      refine lv_iconst (pc := 80) (v := 3) hx hb dX8_menBy_80 (by decide) ?_
      refine lv_iadd (pc := 81) hx hb dX8_menBy_81 ?_
      refine g_virt (pc := 82) (st2 := [.int (f_X4_holds σ v5 v3 (((3 : Int32) * v7) + (3 : Int32)))]) (rest := []) C hW hS (c_X4_holds (K := K - 1) (by omega) tv5 rfl) mw_X8_327 (kin_12 tv5) (Ek_12 tv5) rfl (hRoom (by omega) (by decide)) rfl rfl rfl (Nat.le_of_ble_eq_true rfl) hl.1 dX8_menBy_82 (fun H locs hW hS => ?_)
      refine lv_if_ne (pc := 85) (tgt := 91) hx hb dX8_menBy_85 (by decide) (fun hc10 => ?_) (fun hc10 => ?_)
      · replace h := o_neg hc10 h
        refine lv_iload_n (pc := 91) hx hb dX8_menBy_91 rfl (lv_at hl 1 rfl) ?_
        refine lv_iconst (pc := 92) (v := 3) hx hb dX8_menBy_92 (by decide) ?_
        refine lv_iload (pc := 93) hx hb dX8_menBy_93 (lv_at hl 5 rfl) ?_
        refine lv_imul (pc := 95) hx hb dX8_menBy_95 ?_
        refine lv_iadd (pc := 96) hx hb dX8_menBy_96 ?_
        refine lv_istore (pc := 97) (lv' := [(8, .int (v3 + ((3 : Int32) * v7))), (0, .ref (z + 0)), (3, .int v3), (4, .int v4), (5, .ref (z + v5)), (6, .int v6), (7, .int v7)]) hx hb dX8_menBy_97 hl (by decide) rfl (fun ls hl => ?_)
        refine lv_aload_n (pc := 99) hx hb dX8_menBy_99 rfl (lv_at hl 1 rfl) ?_
        refine gf_X8_2 (pc := 100) C hW kdc_0 fl_X8_28 dX8_menBy_100 ?_
        refine lv_aload (pc := 103) hx hb dX8_menBy_103 (lv_at hl 4 rfl) ?_
        refine lv_iload (pc := 105) hx hb dX8_menBy_105 (lv_at hl 0 rfl) ?_
        obtain ⟨r13, hc11, h⟩ := o_b h
        refine g_virt (pc := 107) (st2 := [.int r13, .ref (z + 15)]) (rest := [.ref (z + 15)]) C hW hS (c_X4_number (K := K - 1) (by omega) tv5 hc11) mw_X8_252 (kin_12 tv5) (Ek_12 tv5) rfl (hRoom (by omega) (by decide)) rfl rfl rfl (Nat.le_of_ble_eq_true rfl) hl.1 dX8_menBy_107 (fun H locs hW hS => ?_)
        refine lv_aload (pc := 110) hx hb dX8_menBy_110 (lv_at hl 4 rfl) ?_
        refine lv_iload (pc := 112) hx hb dX8_menBy_112 (lv_at hl 0 rfl) ?_
        refine lv_iconst (pc := 114) (v := 1) hx hb dX8_menBy_114 (by decide) ?_
        refine lv_iadd (pc := 115) hx hb dX8_menBy_115 ?_
        obtain ⟨r15, hc13, h⟩ := o_b h
        refine g_virt (pc := 116) (st2 := [.int r15, .int r13, .ref (z + 15)]) (rest := [.int r13, .ref (z + 15)]) C hW hS (c_X4_number (K := K - 1) (by omega) tv5 hc13) mw_X8_252 (kin_12 tv5) (Ek_12 tv5) rfl (hRoom (by omega) (by decide)) rfl rfl rfl (Nat.le_of_ble_eq_true rfl) hl.1 dX8_menBy_116 (fun H locs hW hS => ?_)
        refine lv_aload (pc := 119) hx hb dX8_menBy_119 (lv_at hl 4 rfl) ?_
        refine lv_iload (pc := 121) hx hb dX8_menBy_121 (lv_at hl 0 rfl) ?_
        refine lv_iconst (pc := 123) (v := 2) hx hb dX8_menBy_123 (by decide) ?_
        refine lv_iadd (pc := 124) hx hb dX8_menBy_124 ?_
        obtain ⟨r17, hc15, h⟩ := o_b h
        refine g_virt (pc := 125) (st2 := [.int r17, .int r15, .int r13, .ref (z + 15)]) (rest := [.int r15, .int r13, .ref (z + 15)]) C hW hS (c_X4_number (K := K - 1) (by omega) tv5 hc15) mw_X8_252 (kin_12 tv5) (Ek_12 tv5) rfl (hRoom (by omega) (by decide)) rfl rfl rfl (Nat.le_of_ble_eq_true rfl) hl.1 dX8_menBy_125 (fun H locs hW hS => ?_)
        obtain ⟨r19, σ20, hc17, h⟩ := o_b2 h
        refine g_virt (pc := 128) (st2 := [.int r19]) (rest := []) C hW hS (c_X6_addMan (K := K - 1) (by omega) kdc_15 hc17) mw_X8_121 (kin_6 kdc_15) (Ek_6 kdc_15) rfl (hRoom (by omega) (by decide)) rfl rfl rfl (Nat.le_of_ble_eq_true rfl) hl.1 dX8_menBy_128 (fun H locs hW hS => ?_)
        refine lv_if_lt (pc := 131) (tgt := 137) hx hb dX8_menBy_131 (by decide) (fun hc20 => ?_) (fun hc20 => ?_)
        · replace h := o_pos hc20 h
          exact w_X8_menBy_b137 C hK σ20 v3 v4 v5 v6 v7 (f_X8_menBy_b66 v3 v4 v5 n) (fun σ v6 v7 {H : Heap} {locs : List Loc} {ls : Array Slot}  hW hS hl h => ih σ v6 v7 tv5 hW hS hl h) tv5 hW hS (lv_sub hl [1, 2, 3, 4, 5, 6] rfl) h
        · replace h := o_neg hc20 h
          refine lv_iinc (pc := 134) (v := (v6 + 1)) (lv' := [(6, .int (v6 + 1)), (8, .int (v3 + ((3 : Int32) * v7))), (0, .ref (z + 0)), (3, .int v3), (4, .int v4), (5, .ref (z + v5)), (7, .int v7)]) hx hb dX8_menBy_134 hl (k := 5) rfl rfl (by decide) rfl (fun ls hl => ?_)
          exact w_X8_menBy_b137 C hK σ20 v3 v4 v5 (v6 + 1) v7 (f_X8_menBy_b66 v3 v4 v5 n) (fun σ v6 v7 {H : Heap} {locs : List Loc} {ls : Array Slot}  hW hS hl h => ih σ v6 v7 tv5 hW hS hl h) tv5 hW hS (lv_sub hl [2, 3, 4, 5, 0, 6] rfl) h
      · replace h := o_pos hc10 h
        refine lv_bipush (pc := 88) (v := -12) hx hb dX8_menBy_88 (by decide) ?_
        exact g_ret (pc := 90) C hW hS rfl dX8_menBy_90 (congrArg (fun q => some (Value.int q)) (o_r h).1) (o_r h).2

theorem c_X8_menBy {K : Nat}  (hK : 1 ≤ K) {σ : Mem} {σf : Mem} {v1 : Int32} {v2 : Int32} {v3 : Int32} {v4 : Int32} {r : Int32} (h : f_X8_menBy σ v1 v2 v3 v4 = some (r, σf)) : MC l D (Ec ac z) inC z ac (z, aK, aV) (Ac z) yX8_menBy cX8_menBy 9 (some .int) K [.ref (z + 0), .int v1, .int v2, .int v3, .int v4] σ (some (.int r)) σf := by
  refine MC.of (fun q hq => by have := hq.1; show z ≤ q; omega) (plainFor_of_name (by decide)) (Nat.le_of_ble_eq_true rfl) ?_
  intro p e s m below meth c args C hW ls hl
  replace hl : lv_has ls 9 [(0, .ref (z + 0)), (1, .int v1), (2, .int v2), (3, .int v3), (4, .int v4)] := hl
  have hS : va_S (Ac z) s.heap s.heap [] := va_S.rf
  have hx := C.1.1
  have hb := C.1.2.1
  unfold f_X8_menBy at h
  refine lv_aload_n (pc := 0) hx hb dX8_menBy_0 rfl (lv_at hl 0 rfl) ?_
  refine lv_iload_n (pc := 1) hx hb dX8_menBy_1 rfl (lv_at hl 1 rfl) ?_
  obtain ⟨r2, hc0, h⟩ := o_b h
  refine g_virt (pc := 2) (st2 := [rv z r2]) (rest := []) C hW hS (c_X8_sheetAt (K := K - 1) (by omega) hc0) mw_X8_220 (kin_0 kdc_0) (Ek_0 kdc_0) rfl (hRoom (by omega) (by decide)) rfl rfl rfl (Nat.le_of_ble_eq_true rfl) hl.1 dX8_menBy_2 (fun H locs hW hS => ?_)
  refine g_astoreq (pc := 5) (o := r2) (lv' := [(5, rv z r2), (0, .ref (z + 0)), (1, .int v1), (2, .int v2), (3, .int v3), (4, .int v4)]) C dX8_menBy_5 hl (by decide) rfl (fun ls hl => ?_)
  refine g_aloadq (pc := 7) (o := r2) C dX8_menBy_7 (lv_at hl 0 rfl) ?_
  refine g_ifnull (pc := 9) (o := r2) (tgt := 33) C dX8_menBy_9 (by decide) (fun hn => ?_) (fun q3 hn => ?_)
  · subst hn
    replace h := o_nn h
    replace hl : lv_has ls 9 [(5, .null), (0, .ref (z + 0)), (1, .int v1), (2, .int v2), (3, .int v3), (4, .int v4)] := hl
    refine lv_bipush (pc := 33) (v := -2) hx hb dX8_menBy_33 (by decide) ?_
    exact g_ret (pc := 35) C hW hS rfl dX8_menBy_35 (congrArg (fun q => some (Value.int q)) (o_r h).1) (o_r h).2
  · subst hn
    replace h := o_ns h
    replace hl : lv_has ls 9 [(5, .ref (z + q3)), (0, .ref (z + 0)), (1, .int v1), (2, .int v2), (3, .int v3), (4, .int v4)] := hl
    refine lv_iload_n (pc := 12) hx hb dX8_menBy_12 rfl (lv_at hl 3 rfl) ?_
    refine lv_if_lt (pc := 13) (tgt := 33) hx hb dX8_menBy_13 (by decide) (fun hc3 => ?_) (fun hc3 => ?_)
    · replace h := o_pos hc3 h
      refine lv_bipush (pc := 33) (v := -2) hx hb dX8_menBy_33 (by decide) ?_
      exact g_ret (pc := 35) C hW hS rfl dX8_menBy_35 (congrArg (fun q => some (Value.int q)) (o_r h).1) (o_r h).2
    · replace h := o_neg hc3 h
      refine lv_iload_n (pc := 16) hx hb dX8_menBy_16 rfl (lv_at hl 3 rfl) ?_
      refine lv_iconst (pc := 17) (v := 2) hx hb dX8_menBy_17 (by decide) ?_
      refine lv_icmp_gt (pc := 18) (tgt := 33) hx hb dX8_menBy_18 (by decide) (fun hc4 => ?_) (fun hc4 => ?_)
      · replace h := o_pos hc4 h
        refine lv_bipush (pc := 33) (v := -2) hx hb dX8_menBy_33 (by decide) ?_
        exact g_ret (pc := 35) C hW hS rfl dX8_menBy_35 (congrArg (fun q => some (Value.int q)) (o_r h).1) (o_r h).2
      · replace h := o_neg hc4 h
        refine lv_iload (pc := 21) hx hb dX8_menBy_21 (lv_at hl 5 rfl) ?_
        refine lv_if_lt (pc := 23) (tgt := 33) hx hb dX8_menBy_23 (by decide) (fun hc5 => ?_) (fun hc5 => ?_)
        · replace h := o_pos hc5 h
          refine lv_bipush (pc := 33) (v := -2) hx hb dX8_menBy_33 (by decide) ?_
          exact g_ret (pc := 35) C hW hS rfl dX8_menBy_35 (congrArg (fun q => some (Value.int q)) (o_r h).1) (o_r h).2
        · replace h := o_neg hc5 h
          refine lv_iload (pc := 26) hx hb dX8_menBy_26 (lv_at hl 5 rfl) ?_
          refine lv_bipush (pc := 28) (v := 6) hx hb dX8_menBy_28 (by decide) ?_
          refine lv_icmp_le (pc := 30) (tgt := 36) hx hb dX8_menBy_30 (by decide) (fun hc6 => ?_) (fun hc6 => ?_)
          · replace h := o_pos hc6 h
            refine lv_aload (pc := 36) hx hb dX8_menBy_36 (lv_at hl 0 rfl) ?_
            refine gf_X4_1 (pc := 38) C hW ((ty_X8_sheetAt  hc0) q3 rfl) fl_X8_224 dX8_menBy_38 ?_
            refine lv_iconst (pc := 41) (v := -1) hx hb dX8_menBy_41 (by decide) ?_
            refine lv_icmp_ne (pc := 42) (tgt := 48) hx hb dX8_menBy_42 (by decide) (fun hc7 => ?_) (fun hc7 => ?_)
            · replace h := o_neg hc7 h
              refine lv_aload (pc := 48) hx hb dX8_menBy_48 (lv_at hl 0 rfl) ?_
              refine gf_X4_1 (pc := 50) C hW ((ty_X8_sheetAt  hc0) q3 rfl) fl_X8_224 dX8_menBy_50 ?_
              refine lv_iload_n (pc := 53) hx hb dX8_menBy_53 rfl (lv_at hl 3 rfl) ?_
              refine lv_icmp_eq (pc := 54) (tgt := 60) hx hb dX8_menBy_54 (by decide) (fun hc8 => ?_) (fun hc8 => ?_)
              · replace h := o_pos hc8 h
                refine lv_iconst (pc := 60) (v := 0) hx hb dX8_menBy_60 (by decide) ?_
                refine lv_istore (pc := 61) (lv' := [(6, .int (0 : Int32)), (5, .ref (z + q3)), (0, .ref (z + 0)), (1, .int v1), (2, .int v2), (3, .int v3), (4, .int v4)]) hx hb dX8_menBy_61 hl (by decide) rfl (fun ls hl => ?_)
                refine lv_iconst (pc := 63) (v := 0) hx hb dX8_menBy_63 (by decide) ?_
                refine lv_istore (pc := 64) (lv' := [(7, .int (0 : Int32)), (6, .int (0 : Int32)), (5, .ref (z + q3)), (0, .ref (z + 0)), (1, .int v1), (2, .int v2), (3, .int v3), (4, .int v4)]) hx hb dX8_menBy_64 hl (by decide) rfl (fun ls hl => ?_)
                exact w_X8_menBy_b66 C hK v3 v4 q3 FU σ (0 : Int32) (0 : Int32) ((ty_X8_sheetAt  hc0) q3 rfl) hW hS (lv_sub hl [3, 6, 7, 2, 1, 0] rfl) h
              · replace h := o_neg hc8 h
                refine lv_bipush (pc := 57) (v := -13) hx hb dX8_menBy_57 (by decide) ?_
                exact g_ret (pc := 59) C hW hS rfl dX8_menBy_59 (congrArg (fun q => some (Value.int q)) (o_r h).1) (o_r h).2
            · replace h := o_pos hc7 h
              refine lv_bipush (pc := 45) (v := -11) hx hb dX8_menBy_45 (by decide) ?_
              exact g_ret (pc := 47) C hW hS rfl dX8_menBy_47 (congrArg (fun q => some (Value.int q)) (o_r h).1) (o_r h).2
          · replace h := o_neg hc6 h
            refine lv_bipush (pc := 33) (v := -2) hx hb dX8_menBy_33 (by decide) ?_
            exact g_ret (pc := 35) C hW hS rfl dX8_menBy_35 (congrArg (fun q => some (Value.int q)) (o_r h).1) (o_r h).2

theorem c_X8_taken {K : Nat}  (hK : 1 ≤ K) {σ : Mem} {v1 : Int32} {v2 : Int32} {r : Int32} (h : f_X8_taken σ v1 v2 = some r) : MC l D (Ec ac z) inC z ac (z, aK, aV) (Ac z) yX8_taken cX8_taken 5 (some .int) K [.ref (z + 0), .int v1, .int v2] σ (some (.int r)) σ := by
  refine MC.of (fun q hq => by have := hq.1; show z ≤ q; omega) (plainFor_of_name (by decide)) (Nat.le_of_ble_eq_true rfl) ?_
  intro p e s m below meth c args C hW ls hl
  replace hl : lv_has ls 5 [(0, .ref (z + 0)), (1, .int v1), (2, .int v2)] := hl
  have hS : va_S (Ac z) s.heap s.heap [] := va_S.rf
  have hx := C.1.1
  have hb := C.1.2.1
  unfold f_X8_taken at h
  refine lv_iload_n (pc := 0) hx hb dX8_taken_0 rfl (lv_at hl 2 rfl) ?_
  refine lv_if_lt (pc := 1) (tgt := 10) hx hb dX8_taken_1 (by decide) (fun hc0 => ?_) (fun hc0 => ?_)
  · replace h := o_pos hc0 h
    refine lv_bipush (pc := 10) (v := -2) hx hb dX8_taken_10 (by decide) ?_
    exact g_ret (pc := 12) C hW hS rfl dX8_taken_12 (congrArg (fun q => some (Value.int q)) (Option.some.inj h).symm) rfl
  · replace h := o_neg hc0 h
    refine lv_iload_n (pc := 4) hx hb dX8_taken_4 rfl (lv_at hl 2 rfl) ?_
    refine lv_bipush (pc := 5) (v := 6) hx hb dX8_taken_5 (by decide) ?_
    refine lv_icmp_le (pc := 7) (tgt := 13) hx hb dX8_taken_7 (by decide) (fun hc1 => ?_) (fun hc1 => ?_)
    · replace h := o_pos hc1 h
      refine lv_iload_n (pc := 13) hx hb dX8_taken_13 rfl (lv_at hl 1 rfl) ?_
      refine lv_if_lt (pc := 14) (tgt := 23) hx hb dX8_taken_14 (by decide) (fun hc2 => ?_) (fun hc2 => ?_)
      · replace h := o_pos hc2 h
        refine lv_bipush (pc := 23) (v := -12) hx hb dX8_taken_23 (by decide) ?_
        exact g_ret (pc := 25) C hW hS rfl dX8_taken_25 (congrArg (fun q => some (Value.int q)) (Option.some.inj h).symm) rfl
      · replace h := o_neg hc2 h
        refine lv_iload_n (pc := 17) hx hb dX8_taken_17 rfl (lv_at hl 1 rfl) ?_
        refine lv_bipush (pc := 18) (v := 14) hx hb dX8_taken_18 (by decide) ?_
        refine lv_icmp_lt (pc := 20) (tgt := 26) hx hb dX8_taken_20 (by decide) (fun hc3 => ?_) (fun hc3 => ?_)
        · replace h := o_pos hc3 h
          refine lv_aload_n (pc := 26) hx hb dX8_taken_26 rfl (lv_at hl 0 rfl) ?_
          refine gf_X8_2 (pc := 27) C hW kdc_0 fl_X8_28 dX8_taken_27 ?_
          refine lv_iload_n (pc := 30) hx hb dX8_taken_30 rfl (lv_at hl 1 rfl) ?_
          obtain ⟨r6, hc4, h⟩ := o_b h
          refine g_virt (pc := 31) (st2 := [rv z r6]) (rest := []) C hW hS (c_X6_manAt (K := K - 1) (by omega) kdc_15 hc4) mw_X8_109 (kin_6 kdc_15) (Ek_6 kdc_15) rfl (hRoom (by omega) (by decide)) rfl rfl rfl (Nat.le_of_ble_eq_true rfl) hl.1 dX8_taken_31 (fun H locs hW hS => ?_)
          refine g_astoreq_n (pc := 34) (o := r6) (lv' := [(3, rv z r6), (0, .ref (z + 0)), (1, .int v1), (2, .int v2)]) C dX8_taken_34 rfl hl (by decide) rfl (fun ls hl => ?_)
          refine lv_aload_n (pc := 35) hx hb dX8_taken_35 rfl (lv_at hl 1 rfl) ?_
          refine gf_X8_2 (pc := 36) C hW kdc_0 fl_X8_28 dX8_taken_36 ?_
          refine lv_iload_n (pc := 39) hx hb dX8_taken_39 rfl (lv_at hl 2 rfl) ?_
          refine lv_bipush (pc := 40) (v := 6) hx hb dX8_taken_40 (by decide) ?_
          refine lv_isub (pc := 42) hx hb dX8_taken_42 ?_
          obtain ⟨r8, hc6, h⟩ := o_b h
          refine g_virt (pc := 43) (st2 := [rv z r8]) (rest := []) C hW hS (c_X6_vowAt (K := K - 1) (by omega) kdc_15 hc6) mw_X8_153 (kin_6 kdc_15) (Ek_6 kdc_15) rfl (hRoom (by omega) (by decide)) rfl rfl rfl (Nat.le_of_ble_eq_true rfl) hl.1 dX8_taken_43 (fun H locs hW hS => ?_)
          refine g_astoreq (pc := 46) (o := r8) (lv' := [(4, rv z r8), (3, rv z r6), (0, .ref (z + 0)), (1, .int v1), (2, .int v2)]) C dX8_taken_46 hl (by decide) (by cases r6 <;> rfl) (fun ls hl => ?_)
          refine g_aloadq_n (pc := 48) (o := r6) C dX8_taken_48 rfl (lv_at hl 1 rfl) ?_
          refine g_ifnull (pc := 49) (o := r6) (tgt := 72) C dX8_taken_49 (by decide) (fun hn => ?_) (fun q9 hn => ?_)
          · subst hn
            replace h := o_nn h
            replace hl : lv_has ls 5 [(4, rv z r8), (3, .null), (0, .ref (z + 0)), (1, .int v1), (2, .int v2)] := hl
            refine g_aloadq (pc := 72) (o := r8) C dX8_taken_72 (lv_at hl 0 rfl) ?_
            refine g_ifnull (pc := 74) (o := r8) (tgt := 93) C dX8_taken_74 (by decide) (fun hn => ?_) (fun q10 hn => ?_)
            · subst hn
              replace h := o_nn h
              replace hl : lv_has ls 5 [(4, .null), (3, .null), (0, .ref (z + 0)), (1, .int v1), (2, .int v2)] := hl
              refine lv_bipush (pc := 93) (v := -11) hx hb dX8_taken_93 (by decide) ?_
              exact g_ret (pc := 95) C hW hS rfl dX8_taken_95 (congrArg (fun q => some (Value.int q)) (Option.some.inj h).symm) rfl
            · subst hn
              replace h := o_ns h
              replace hl : lv_has ls 5 [(4, .ref (z + q10)), (3, .null), (0, .ref (z + 0)), (1, .int v1), (2, .int v2)] := hl
              refine lv_iload_n (pc := 77) hx hb dX8_taken_77 rfl (lv_at hl 4 rfl) ?_
              refine lv_iconst (pc := 78) (v := 5) hx hb dX8_taken_78 (by decide) ?_
              refine lv_icmp_le (pc := 79) (tgt := 90) hx hb dX8_taken_79 (by decide) (fun hc10 => ?_) (fun hc10 => ?_)
              · replace h := o_pos hc10 h
                refine lv_bipush (pc := 90) (v := -13) hx hb dX8_taken_90 (by decide) ?_
                exact g_ret (pc := 92) C hW hS rfl dX8_taken_92 (congrArg (fun q => some (Value.int q)) (Option.some.inj h).symm) rfl
              · replace h := o_neg hc10 h
                refine lv_aload (pc := 82) hx hb dX8_taken_82 (lv_at hl 0 rfl) ?_
                refine gf_X7_2 (pc := 84) C hW ((ty_X6_vowAt kdc_15 hc6) q10 rfl) fl_X8_165 dX8_taken_84 ?_
                refine lv_goto (pc := 87) (tgt := 92) hx hb dX8_taken_87 (by decide) ?_
                exact g_ret (pc := 92) C hW hS rfl dX8_taken_92 (congrArg (fun q => some (Value.int q)) (Option.some.inj h).symm) rfl
          · subst hn
            replace h := o_ns h
            replace hl : lv_has ls 5 [(4, rv z r8), (3, .ref (z + q9)), (0, .ref (z + 0)), (1, .int v1), (2, .int v2)] := hl
            refine lv_iload_n (pc := 52) hx hb dX8_taken_52 rfl (lv_at hl 4 rfl) ?_
            refine lv_iconst (pc := 53) (v := 5) hx hb dX8_taken_53 (by decide) ?_
            refine lv_icmp_gt (pc := 54) (tgt := 69) hx hb dX8_taken_54 (by decide) (fun hc11 => ?_) (fun hc11 => ?_)
            · replace h := o_pos hc11 h
              refine lv_bipush (pc := 69) (v := -13) hx hb dX8_taken_69 (by decide) ?_
              exact g_ret (pc := 71) C hW hS rfl dX8_taken_71 (congrArg (fun q => some (Value.int q)) (Option.some.inj h).symm) rfl
            · replace h := o_neg hc11 h
              refine lv_aload_n (pc := 57) hx hb dX8_taken_57 rfl (lv_at hl 1 rfl) ?_
              refine lv_iload_n (pc := 58) hx hb dX8_taken_58 rfl (lv_at hl 4 rfl) ?_
              refine g_virt (pc := 59) (st2 := [.int (f_X1_isOne σ q9 v2)]) (rest := []) C hW hS (c_X1_isOne (K := K - 1) (by omega) ((ty_X6_manAt kdc_15 hc4) q9 rfl) rfl) mw_X8_341 (kin_9 ((ty_X6_manAt kdc_15 hc4) q9 rfl)) (Ek_9 ((ty_X6_manAt kdc_15 hc4) q9 rfl)) rfl (hRoom (by omega) (by decide)) rfl rfl rfl (Nat.le_of_ble_eq_true rfl) hl.1 dX8_taken_59 (fun H locs hW hS => ?_)
              refine lv_if_eq (pc := 62) (tgt := 69) hx hb dX8_taken_62 (by decide) (fun hc12 => ?_) (fun hc12 => ?_)
              · replace h := o_pos hc12 h
                refine lv_bipush (pc := 69) (v := -13) hx hb dX8_taken_69 (by decide) ?_
                exact g_ret (pc := 71) C hW hS rfl dX8_taken_71 (congrArg (fun q => some (Value.int q)) (Option.some.inj h).symm) rfl
              · replace h := o_neg hc12 h
                refine lv_iload_n (pc := 65) hx hb dX8_taken_65 rfl (lv_at hl 3 rfl) ?_
                refine lv_goto (pc := 66) (tgt := 71) hx hb dX8_taken_66 (by decide) ?_
                exact g_ret (pc := 71) C hW hS rfl dX8_taken_71 (congrArg (fun q => some (Value.int q)) (Option.some.inj h).symm) rfl
        · replace h := o_neg hc3 h
          refine lv_bipush (pc := 23) (v := -12) hx hb dX8_taken_23 (by decide) ?_
          exact g_ret (pc := 25) C hW hS rfl dX8_taken_25 (congrArg (fun q => some (Value.int q)) (Option.some.inj h).symm) rfl
    · replace h := o_neg hc1 h
      refine lv_bipush (pc := 10) (v := -2) hx hb dX8_taken_10 (by decide) ?_
      exact g_ret (pc := 12) C hW hS rfl dX8_taken_12 (congrArg (fun q => some (Value.int q)) (Option.some.inj h).symm) rfl

end
