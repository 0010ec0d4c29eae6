section
variable {p : Program} {l : Launch} {e : Env} {s : State} {m : MethodId} {args : Array Value} {below : List Frame} {meth : Method} {c : Code} {D : va_G} {ac : Nat → ClassId} {z : Nat} {aK aV : Nat → Nat} {K : Nat}

theorem c_X8_count {K : Nat}  (hK : 0 ≤ K) {σ : Mem} {v1 : Int32} {r : Int32} (h : f_X8_count σ v1 = r) : MC l D (Ec ac z) inC z ac (z, aK, aV) (Ac z) yX8_count cX8_count 2 (some .int) K [.ref (z + 0), .int v1] σ (some (.int r)) σ := by
  refine MC.of (fun q hq => by have := hq.1; show z ≤ q; omega) (plainFor_of_name (by decide)) (Nat.le_of_ble_eq_true rfl) ?_
  intro p e s m below meth c args C hW ls hl
  replace hl : lv_has ls 2 [(0, .ref (z + 0)), (1, .int v1)] := hl
  have hS : va_S (Ac z) s.heap s.heap [] := va_S.rf
  have hx := C.1.1
  have hb := C.1.2.1
  unfold f_X8_count at h
  refine lv_iload_n (pc := 0) hx hb dX8_count_0 rfl (lv_at hl 1 rfl) ?_
  by_cases hc0 : v1 = 0
  · replace h := o_pos hc0 h
    refine lv_tableIn (pc := 1) (off := 39) (tgt := 40) hx hb dX8_count_1 (by rw [hc0]; decide) (by rw [hc0]; decide) (by rw [hc0]; rfl) (by decide) ?_
    refine lv_aload_n (pc := 40) hx hb dX8_count_40 rfl (lv_at hl 0 rfl) ?_
    refine gf_X8_2 (pc := 41) C hW kdc_0 fl_X8_28 dX8_count_41 ?_
    refine gf_X6_3 (pc := 44) C hW kdc_15 fl_X8_66 dX8_count_44 ?_
    exact g_ret (pc := 47) C hW hS rfl dX8_count_47 (congrArg (fun q => some (Value.int q)) h.symm) rfl
  replace h := o_neg hc0 h
  by_cases hc1 : v1 = 1
  · replace h := o_pos hc1 h
    refine lv_tableIn (pc := 1) (off := 47) (tgt := 48) hx hb dX8_count_1 (by rw [hc1]; decide) (by rw [hc1]; decide) (by rw [hc1]; rfl) (by decide) ?_
    refine lv_aload_n (pc := 48) hx hb dX8_count_48 rfl (lv_at hl 0 rfl) ?_
    refine gf_X8_2 (pc := 49) C hW kdc_0 fl_X8_28 dX8_count_49 ?_
    refine gf_X6_4 (pc := 52) C hW kdc_15 fl_X8_70 dX8_count_52 ?_
    exact g_ret (pc := 55) C hW hS rfl dX8_count_55 (congrArg (fun q => some (Value.int q)) h.symm) rfl
  replace h := o_neg hc1 h
  by_cases hc2 : v1 = 2
  · replace h := o_pos hc2 h
    refine lv_tableIn (pc := 1) (off := 55) (tgt := 56) hx hb dX8_count_1 (by rw [hc2]; decide) (by rw [hc2]; decide) (by rw [hc2]; rfl) (by decide) ?_
    refine lv_aload_n (pc := 56) hx hb dX8_count_56 rfl (lv_at hl 0 rfl) ?_
    refine gf_X8_2 (pc := 57) C hW kdc_0 fl_X8_28 dX8_count_57 ?_
    refine gf_X6_5 (pc := 60) C hW kdc_15 fl_X8_73 dX8_count_60 ?_
    exact g_ret (pc := 63) C hW hS rfl dX8_count_63 (congrArg (fun q => some (Value.int q)) h.symm) rfl
  replace h := o_neg hc2 h
  by_cases hc3 : v1 = 3
  · replace h := o_pos hc3 h
    refine lv_tableIn (pc := 1) (off := 63) (tgt := 64) hx hb dX8_count_1 (by rw [hc3]; decide) (by rw [hc3]; decide) (by rw [hc3]; rfl) (by decide) ?_
    refine lv_aload_n (pc := 64) hx hb dX8_count_64 rfl (lv_at hl 0 rfl) ?_
    refine gf_X8_0 (pc := 65) C hW kdc_0 fl_X8_10 dX8_count_65 ?_
    refine gf_X3_1 (pc := 68) C hW kdc_1 fl_X8_76 dX8_count_68 ?_
    exact g_ret (pc := 71) C hW hS rfl dX8_count_71 (congrArg (fun q => some (Value.int q)) h.symm) rfl
  replace h := o_neg hc3 h
  by_cases hc4 : v1 = 4
  · replace h := o_pos hc4 h
    refine lv_tableIn (pc := 1) (off := 71) (tgt := 72) hx hb dX8_count_1 (by rw [hc4]; decide) (by rw [hc4]; decide) (by rw [hc4]; rfl) (by decide) ?_
    refine lv_aload_n (pc := 72) hx hb dX8_count_72 rfl (lv_at hl 0 rfl) ?_
    refine gf_X8_2 (pc := 73) C hW kdc_0 fl_X8_28 dX8_count_73 ?_
    refine gf_X6_6 (pc := 76) C hW kdc_15 fl_X8_79 dX8_count_76 ?_
    exact g_ret (pc := 79) C hW hS rfl dX8_count_79 (congrArg (fun q => some (Value.int q)) h.symm) rfl
  replace h := o_neg hc4 h
  by_cases hc5 : v1 = 5
  · replace h := o_pos hc5 h
    refine lv_tableIn (pc := 1) (off := 79) (tgt := 80) hx hb dX8_count_1 (by rw [hc5]; decide) (by rw [hc5]; decide) (by rw [hc5]; rfl) (by decide) ?_
    refine lv_aload_n (pc := 80) hx hb dX8_count_80 rfl (lv_at hl 0 rfl) ?_
    refine gf_X8_1 (pc := 81) C hW kdc_0 fl_X8_19 dX8_count_81 ?_
    refine gf_X2_1 (pc := 84) C hW kdc_9 fl_X8_82 dX8_count_84 ?_
    exact g_ret (pc := 87) C hW hS rfl dX8_count_87 (congrArg (fun q => some (Value.int q)) h.symm) rfl
  replace h := o_neg hc5 h
  have hzhc0 := lv_neT (k := 0) (a := 0) hc0 (by decide)
  have hzhc1 := lv_neT (k := 1) (a := 1) hc1 (by decide)
  have hzhc2 := lv_neT (k := 2) (a := 2) hc2 (by decide)
  have hzhc3 := lv_neT (k := 3) (a := 3) hc3 (by decide)
  have hzhc4 := lv_neT (k := 4) (a := 4) hc4 (by decide)
  have hzhc5 := lv_neT (k := 5) (a := 5) hc5 (by decide)
  refine lv_tableOut (pc := 1) (tgt := 88) hx hb dX8_count_1 (by omega) (by decide) ?_
  refine lv_bipush (pc := 88) (v := -2) hx hb dX8_count_88 (by decide) ?_
  exact g_ret (pc := 90) C hW hS rfl dX8_count_90 (congrArg (fun q => some (Value.int q)) h.symm) rfl

theorem c_X8_isByte {K : Nat}  (hK : 0 ≤ K) {σ : Mem} {v0 : Int32} {r : Int32} (h : f_X8_isByte v0 = r) : MC l D (Ec ac z) inC z ac (z, aK, aV) (Ac z) yX8_isByte cX8_isByte 1 (some .boolean) K [.int v0] σ (some (.int r)) σ := by
  refine MC.of (fun q hq => by have := hq.1; show z ≤ q; omega) (plainFor_of_name (by decide)) (Nat.le_of_ble_eq_true rfl) ?_
  intro p e s m below meth c args C hW ls hl
  replace hl : lv_has ls 1 [(0, .int v0)] := hl
  have hS : va_S (Ac z) s.heap s.heap [] := va_S.rf
  have hx := C.1.1
  have hb := C.1.2.1
  unfold f_X8_isByte at h
  refine lv_iload_n (pc := 0) hx hb dX8_isByte_0 rfl (lv_at hl 0 rfl) ?_
  refine lv_if_lt (pc := 1) (tgt := 15) hx hb dX8_isByte_1 (by decide) (fun hc0 => ?_) (fun hc0 => ?_)
  · replace h := o_pos hc0 h
    refine lv_iconst (pc := 15) (v := 0) hx hb dX8_isByte_15 (by decide) ?_
    exact g_ret (pc := 16) C hW hS rfl dX8_isByte_16 (congrArg (fun q => some (Value.int q)) h.symm) rfl
  · replace h := o_neg hc0 h
    refine lv_iload_n (pc := 4) hx hb dX8_isByte_4 rfl (lv_at hl 0 rfl) ?_
    refine lv_sipush (pc := 5) (v := 255) hx hb dX8_isByte_5 (by decide) ?_
    refine lv_icmp_gt (pc := 8) (tgt := 15) hx hb dX8_isByte_8 (by decide) (fun hc1 => ?_) (fun hc1 => ?_)
    · replace h := o_pos hc1 h
      refine lv_iconst (pc := 15) (v := 0) hx hb dX8_isByte_15 (by decide) ?_
      exact g_ret (pc := 16) C hW hS rfl dX8_isByte_16 (congrArg (fun q => some (Value.int q)) h.symm) rfl
    · replace h := o_neg hc1 h
      refine lv_iconst (pc := 11) (v := 1) hx hb dX8_isByte_11 (by decide) ?_
      refine lv_goto (pc := 12) (tgt := 16) hx hb dX8_isByte_12 (by decide) ?_
      exact g_ret (pc := 16) C hW hS rfl dX8_isByte_16 (congrArg (fun q => some (Value.int q)) h.symm) rfl

theorem w_X8_feed_b118 (C : CX cX8_feed 7 RX8 (some .int) D ac p m c s args meth (z, aK, aV) (Ac z)) (hK : 1 ≤ K) {r : Int32} {σf : Mem}   (σ : Mem) (v1 : Int32) (v6 : Int32)  {H : Heap} {locs : List Loc} {ls : Array Slot} (hW : WC D ac z σ H) (hS : va_S (Ac z) s.heap H locs) (hl : lv_has ls 7 [(0, .ref (z + 0)), (1, .int v1), (6, .int v6)]) (h : f_X8_feed_b118 σ v1 v6 = some (r, σf)) : W p l e (rma K 0 0) s m args below meth c H locs 0 0 (MQ below (QV D (Ec ac z) inC z (some (.int r)) σf (Ac z)) args s 0 0 (Ac z)) (F0 m 118 ls []) := by
  have hx := C.1.1
  have hb := C.1.2.1
  unfold f_X8_feed_b118 at h
  refine lv_iload_n (pc := 118) hx hb dX8_feed_118 rfl (lv_at hl 1 rfl) ?_
  refine lv_iconst (pc := 119) (v := 4) hx hb dX8_feed_119 (by decide) ?_
  refine lv_icmp_le (pc := 120) (tgt := 132) hx hb dX8_feed_120 (by decide) (fun hc19 => ?_) (fun hc19 => ?_)
  · replace h := o_pos hc19 h
    refine lv_aload_n (pc := 132) hx hb dX8_feed_132 rfl (lv_at hl 0 rfl) ?_
    refine gf_X8_1 (pc := 133) C hW kdc_0 fl_X8_19 dX8_feed_133 ?_
    refine gf_X2_1 (pc := 136) C hW kdc_9 fl_X8_82 dX8_feed_136 ?_
    exact g_ret (pc := 139) C hW hS rfl dX8_feed_139 (congrArg (fun q => some (Value.int q)) (o_r h).1) (o_r h).2
  · replace h := o_neg hc19 h
    refine lv_aload_n (pc := 123) hx hb dX8_feed_123 rfl (lv_at hl 0 rfl) ?_
    refine gf_X8_1 (pc := 124) C hW kdc_0 fl_X8_19 dX8_feed_124 ?_
    refine lv_iload (pc := 127) hx hb dX8_feed_127 (lv_at hl 2 rfl) ?_
    obtain ⟨σ22, hc20, h⟩ := o_b h
    refine g_virt (pc := 129) (st2 := []) (rest := []) C hW hS (c_X2_add (K := K - 1) (by omega) hc20) mw_X8_89 (kin_5 kdc_9) (Ek_5 kdc_9) rfl (hRoom (by omega) (by decide)) rfl rfl rfl (Nat.le_of_ble_eq_true rfl) hl.1 dX8_feed_129 (fun H locs hW hS => ?_)
    refine lv_aload_n (pc := 132) hx hb dX8_feed_132 rfl (lv_at hl 0 rfl) ?_
    refine gf_X8_1 (pc := 133) C hW kdc_0 fl_X8_19 dX8_feed_133 ?_
    refine gf_X2_1 (pc := 136) C hW kdc_9 fl_X8_82 dX8_feed_136 ?_
    exact g_ret (pc := 139) C hW hS rfl dX8_feed_139 (congrArg (fun q => some (Value.int q)) (o_r h).1) (o_r h).2

theorem w_X8_feed_b104 (C : CX cX8_feed 7 RX8 (some .int) D ac p m c s args meth (z, aK, aV) (Ac z)) (hK : 1 ≤ K) {r : Int32} {σf : Mem}   (σ : Mem) (v1 : Int32) (v5 : Int32) (v6 : Int32)  {H : Heap} {locs : List Loc} {ls : Array Slot} (hW : WC D ac z σ H) (hS : va_S (Ac z) s.heap H locs) (hl : lv_has ls 7 [(0, .ref (z + 0)), (1, .int v1), (5, .int v5), (6, .int v6)]) (h : f_X8_feed_b104 σ v1 v5 v6 = some (r, σf)) : W p l e (rma K 0 0) s m args below meth c H locs 0 0 (MQ below (QV D (Ec ac z) inC z (some (.int r)) σf (Ac z)) args s 0 0 (Ac z)) (F0 m 104 ls []) := by
  have hx := C.1.1
  have hb := C.1.2.1
  unfold f_X8_feed_b104 at h
  refine lv_iload_n (pc := 104) hx hb dX8_feed_104 rfl (lv_at hl 1 rfl) ?_
  refine lv_iconst (pc := 105) (v := 3) hx hb dX8_feed_105 (by decide) ?_
  refine lv_icmp_le (pc := 106) (tgt := 118) hx hb dX8_feed_106 (by decide) (fun hc16 => ?_) (fun hc16 => ?_)
  · replace h := o_pos hc16 h
    exact w_X8_feed_b118 C hK σ v1 v6 hW hS (lv_sub hl [0, 1, 3] rfl) h
  · replace h := o_neg hc16 h
    refine lv_aload_n (pc := 109) hx hb dX8_feed_109 rfl (lv_at hl 0 rfl) ?_
    refine gf_X8_1 (pc := 110) C hW kdc_0 fl_X8_19 dX8_feed_110 ?_
    refine lv_iload (pc := 113) hx hb dX8_feed_113 (lv_at hl 2 rfl) ?_
    obtain ⟨σ19, hc17, h⟩ := o_b h
    refine g_virt (pc := 115) (st2 := []) (rest := []) C hW hS (c_X2_add (K := K - 1) (by omega) hc17) mw_X8_89 (kin_5 kdc_9) (Ek_5 kdc_9) rfl (hRoom (by omega) (by decide)) rfl rfl rfl (Nat.le_of_ble_eq_true rfl) hl.1 dX8_feed_115 (fun H locs hW hS => ?_)
    exact w_X8_feed_b118 C hK σ19 v1 v6 hW hS (lv_sub hl [0, 1, 3] rfl) h

theorem w_X8_feed_b90 (C : CX cX8_feed 7 RX8 (some .int) D ac p m c s args meth (z, aK, aV) (Ac z)) (hK : 1 ≤ K) {r : Int32} {σf : Mem}   (σ : Mem) (v1 : Int32) (v4 : Int32) (v5 : Int32) (v6 : Int32)  {H : Heap} {locs : List Loc} {ls : Array Slot} (hW : WC D ac z σ H) (hS : va_S (Ac z) s.heap H locs) (hl : lv_has ls 7 [(0, .ref (z + 0)), (1, .int v1), (4, .int v4), (5, .int v5), (6, .int v6)]) (h : f_X8_feed_b90 σ v1 v4 v5 v6 = some (r, σf)) : W p l e (rma K 0 0) s m args below meth c H locs 0 0 (MQ below (QV D (Ec ac z) inC z (some (.int r)) σf (Ac z)) args s 0 0 (Ac z)) (F0 m 90 ls []) := by
  have hx := C.1.1
  have hb := C.1.2.1
  unfold f_X8_feed_b90 at h
  refine lv_iload_n (pc := 90) hx hb dX8_feed_90 rfl (lv_at hl 1 rfl) ?_
  refine lv_iconst (pc := 91) (v := 2) hx hb dX8_feed_91 (by decide) ?_
  refine lv_icmp_le (pc := 92) (tgt := 104) hx hb dX8_feed_92 (by decide) (fun hc13 => ?_) (fun hc13 => ?_)
  · replace h := o_pos hc13 h
    exact w_X8_feed_b104 C hK σ v1 v5 v6 hW hS (lv_sub hl [0, 1, 3, 4] rfl) h
  · replace h := o_neg hc13 h
    refine lv_aload_n (pc := 95) hx hb dX8_feed_95 rfl (lv_at hl 0 rfl) ?_
    refine gf_X8_1 (pc := 96) C hW kdc_0 fl_X8_19 dX8_feed_96 ?_
    refine lv_iload (pc := 99) hx hb dX8_feed_99 (lv_at hl 2 rfl) ?_
    obtain ⟨σ16, hc14, h⟩ := o_b h
    refine g_virt (pc := 101) (st2 := []) (rest := []) C hW hS (c_X2_add (K := K - 1) (by omega) hc14) mw_X8_89 (kin_5 kdc_9) (Ek_5 kdc_9) rfl (hRoom (by omega) (by decide)) rfl rfl rfl (Nat.le_of_ble_eq_true rfl) hl.1 dX8_feed_101 (fun H locs hW hS => ?_)
    exact w_X8_feed_b104 C hK σ16 v1 v5 v6 hW hS (lv_sub hl [0, 1, 3, 4] rfl) h

theorem c_X8_feed {K : Nat}  (hK : 1 ≤ K) {σ : Mem} {σf : Mem} {v1 : Int32} {v2 : Int32} {v3 : Int32} {v4 : Int32} {v5 : Int32} {v6 : Int32} {r : Int32} (h : f_X8_feed σ v1 v2 v3 v4 v5 v6 = some (r, σf)) : MC l D (Ec ac z) inC z ac (z, aK, aV) (Ac z) yX8_feed cX8_feed 7 (some .int) K [.ref (z + 0), .int v1, .int v2, .int v3, .int v4, .int v5, .int v6] σ (some (.int r)) σf := by
  refine MC.of (fun q hq => by have := hq.1; show z ≤ q; omega) (plainFor_of_name (by decide)) (Nat.le_of_ble_eq_true rfl) ?_
  intro p e s m below meth c args C hW ls hl
  replace hl : lv_has ls 7 [(0, .ref (z + 0)), (1, .int v1), (2, .int v2), (3, .int v3), (4, .int v4), (5, .int v5), (6, .int v6)] := hl
  have hS : va_S (Ac z) s.heap s.heap [] := va_S.rf
  have hx := C.1.1
  have hb := C.1.2.1
  unfold f_X8_feed at h
  refine lv_iload_n (pc := 0) hx hb dX8_feed_0 rfl (lv_at hl 1 rfl) ?_
  refine lv_iconst (pc := 1) (v := 1) hx hb dX8_feed_1 (by decide) ?_
  refine lv_icmp_lt (pc := 2) (tgt := 48) hx hb dX8_feed_2 (by decide) (fun hc0 => ?_) (fun hc0 => ?_)
  · replace h := o_pos hc0 h
    refine lv_bipush (pc := 48) (v := -2) hx hb dX8_feed_48 (by decide) ?_
    exact g_ret (pc := 50) C hW hS rfl dX8_feed_50 (congrArg (fun q => some (Value.int q)) (o_r h).1) (o_r h).2
  · replace h := o_neg hc0 h
    refine lv_iload_n (pc := 5) hx hb dX8_feed_5 rfl (lv_at hl 1 rfl) ?_
    refine lv_iconst (pc := 6) (v := 5) hx hb dX8_feed_6 (by decide) ?_
    refine lv_icmp_gt (pc := 7) (tgt := 48) hx hb dX8_feed_7 (by decide) (fun hc1 => ?_) (fun hc1 => ?_)
    · replace h := o_pos hc1 h
      refine lv_bipush (pc := 48) (v := -2) hx hb dX8_feed_48 (by decide) ?_
      exact g_ret (pc := 50) C hW hS rfl dX8_feed_50 (congrArg (fun q => some (Value.int q)) (o_r h).1) (o_r h).2
    · replace h := o_neg hc1 h
      refine lv_iload_n (pc := 10) hx hb dX8_feed_10 rfl (lv_at hl 2 rfl) ?_
      refine g_stat (pc := 11) (st2 := [.int (f_X8_isByte v2)]) (rest := []) C hW hS (c_X8_isByte (K := K - 1) (by omega) rfl) mw_X8_85 (hRoom (by omega) (by decide)) rfl rfl rfl (Nat.le_of_ble_eq_true rfl) hl.1 dX8_feed_11 (fun H locs hW hS => ?_)
      refine lv_if_eq (pc := 14) (tgt := 48) hx hb dX8_feed_14 (by decide) (fun hc2 => ?_) (fun hc2 => ?_)
      · replace h := o_pos hc2 h
        refine lv_bipush (pc := 48) (v := -2) hx hb dX8_feed_48 (by decide) ?_
        exact g_ret (pc := 50) C hW hS rfl dX8_feed_50 (congrArg (fun q => some (Value.int q)) (o_r h).1) (o_r h).2
      · replace h := o_neg hc2 h
        refine lv_iload_n (pc := 17) hx hb dX8_feed_17 rfl (lv_at hl 3 rfl) ?_
        refine g_stat (pc := 18) (st2 := [.int (f_X8_isByte v3)]) (rest := []) C hW hS (c_X8_isByte (K := K - 1) (by omega) rfl) mw_X8_85 (hRoom (by omega) (by decide)) rfl rfl rfl (Nat.le_of_ble_eq_true rfl) hl.1 dX8_feed_18 (fun H locs hW hS => ?_)
        refine lv_if_eq (pc := 21) (tgt := 48) hx hb dX8_feed_21 (by decide) (fun hc3 => ?_) (fun hc3 => ?_)
        · replace h := o_pos hc3 h
          refine lv_bipush (pc := 48) (v := -2) hx hb dX8_feed_48 (by decide) ?_
          exact g_ret (pc := 50) C hW hS rfl dX8_feed_50 (congrArg (fun q => some (Value.int q)) (o_r h).1) (o_r h).2
        · replace h := o_neg hc3 h
          refine lv_iload (pc := 24) hx hb dX8_feed_24 (lv_at hl 4 rfl) ?_
          refine g_stat (pc := 26) (st2 := [.int (f_X8_isByte v4)]) (rest := []) C hW hS (c_X8_isByte (K := K - 1) (by omega) rfl) mw_X8_85 (hRoom (by omega) (by decide)) rfl rfl rfl (Nat.le_of_ble_eq_true rfl) hl.1 dX8_feed_26 (fun H locs hW hS => ?_)
          refine lv_if_eq (pc := 29) (tgt := 48) hx hb dX8_feed_29 (by decide) (fun hc4 => ?_) (fun hc4 => ?_)
          · replace h := o_pos hc4 h
            refine lv_bipush (pc := 48) (v := -2) hx hb dX8_feed_48 (by decide) ?_
            exact g_ret (pc := 50) C hW hS rfl dX8_feed_50 (congrArg (fun q => some (Value.int q)) (o_r h).1) (o_r h).2
          · replace h := o_neg hc4 h
            refine lv_iload (pc := 32) hx hb dX8_feed_32 (lv_at hl 5 rfl) ?_
            refine g_stat (pc := 34) (st2 := [.int (f_X8_isByte v5)]) (rest := []) C hW hS (c_X8_isByte (K := K - 1) (by omega) rfl) mw_X8_85 (hRoom (by omega) (by decide)) rfl rfl rfl (Nat.le_of_ble_eq_true rfl) hl.1 dX8_feed_34 (fun H locs hW hS => ?_)
            refine lv_if_eq (pc := 37) (tgt := 48) hx hb dX8_feed_37 (by decide) (fun hc5 => ?_) (fun hc5 => ?_)
            · replace h := o_pos hc5 h
              refine lv_bipush (pc := 48) (v := -2) hx hb dX8_feed_48 (by decide) ?_
              exact g_ret (pc := 50) C hW hS rfl dX8_feed_50 (congrArg (fun q => some (Value.int q)) (o_r h).1) (o_r h).2
            · replace h := o_neg hc5 h
              refine lv_iload (pc := 40) hx hb dX8_feed_40 (lv_at hl 6 rfl) ?_
              refine g_stat (pc := 42) (st2 := [.int (f_X8_isByte v6)]) (rest := []) C hW hS (c_X8_isByte (K := K - 1) (by omega) rfl) mw_X8_85 (hRoom (by omega) (by decide)) rfl rfl rfl (Nat.le_of_ble_eq_true rfl) hl.1 dX8_feed_42 (fun H locs hW hS => ?_)
              refine lv_if_ne (pc := 45) (tgt := 51) hx hb dX8_feed_45 (by decide) (fun hc6 => ?_) (fun hc6 => ?_)
              · replace h := o_neg hc6 h
                refine lv_aload_n (pc := 51) hx hb dX8_feed_51 rfl (lv_at hl 0 rfl) ?_
                refine gf_X8_1 (pc := 52) C hW kdc_0 fl_X8_19 dX8_feed_52 ?_
                refine gf_X2_1 (pc := 55) C hW kdc_9 fl_X8_82 dX8_feed_55 ?_
                refine lv_iload_n (pc := 58) hx hb dX8_feed_58 rfl (lv_at hl 1 rfl) ?_
                refine lv_iadd (pc := 59) hx hb dX8_feed_59 ?_
                refine lv_sipush (pc := 60) (v := 160) hx hb dX8_feed_60 (by decide) ?_
                refine lv_icmp_le (pc := 63) (tgt := 69) hx hb dX8_feed_63 (by decide) (fun hc7 => ?_) (fun hc7 => ?_)
                · replace h := o_pos hc7 h
                  refine lv_aload_n (pc := 69) hx hb dX8_feed_69 rfl (lv_at hl 0 rfl) ?_
                  refine gf_X8_1 (pc := 70) C hW kdc_0 fl_X8_19 dX8_feed_70 ?_
                  refine lv_iload_n (pc := 73) hx hb dX8_feed_73 rfl (lv_at hl 2 rfl) ?_
                  obtain ⟨σ10, hc8, h⟩ := o_b h
                  refine g_virt (pc := 74) (st2 := []) (rest := []) C hW hS (c_X2_add (K := K - 1) (by omega) hc8) mw_X8_89 (kin_5 kdc_9) (Ek_5 kdc_9) rfl (hRoom (by omega) (by decide)) rfl rfl rfl (Nat.le_of_ble_eq_true rfl) hl.1 dX8_feed_74 (fun H locs hW hS => ?_)
                  refine lv_iload_n (pc := 77) hx hb dX8_feed_77 rfl (lv_at hl 1 rfl) ?_
                  refine lv_iconst (pc := 78) (v := 1) hx hb dX8_feed_78 (by decide) ?_
                  refine lv_icmp_le (pc := 79) (tgt := 90) hx hb dX8_feed_79 (by decide) (fun hc10 => ?_) (fun hc10 => ?_)
                  · replace h := o_pos hc10 h
                    exact w_X8_feed_b90 C hK σ10 v1 v4 v5 v6 hW hS (lv_sub hl [0, 1, 4, 5, 6] rfl) h
                  · replace h := o_neg hc10 h
                    refine lv_aload_n (pc := 82) hx hb dX8_feed_82 rfl (lv_at hl 0 rfl) ?_
                    refine gf_X8_1 (pc := 83) C hW kdc_0 fl_X8_19 dX8_feed_83 ?_
                    refine lv_iload_n (pc := 86) hx hb dX8_feed_86 rfl (lv_at hl 3 rfl) ?_
                    obtain ⟨σ13, hc11, h⟩ := o_b h
                    refine g_virt (pc := 87) (st2 := []) (rest := []) C hW hS (c_X2_add (K := K - 1) (by omega) hc11) mw_X8_89 (kin_5 kdc_9) (Ek_5 kdc_9) rfl (hRoom (by omega) (by decide)) rfl rfl rfl (Nat.le_of_ble_eq_true rfl) hl.1 dX8_feed_87 (fun H locs hW hS => ?_)
                    exact w_X8_feed_b90 C hK σ13 v1 v4 v5 v6 hW hS (lv_sub hl [0, 1, 4, 5, 6] rfl) h
                · replace h := o_neg hc7 h
                  refine lv_bipush (pc := 66) (v := -4) hx hb dX8_feed_66 (by decide) ?_
                  exact g_ret (pc := 68) C hW hS rfl dX8_feed_68 (congrArg (fun q => some (Value.int q)) (o_r h).1) (o_r h).2
              · replace h := o_pos hc6 h
                refine lv_bipush (pc := 48) (v := -2) hx hb dX8_feed_48 (by decide) ?_
                exact g_ret (pc := 50) C hW hS rfl dX8_feed_50 (congrArg (fun q => some (Value.int q)) (o_r h).1) (o_r h).2

theorem c_X8_force {K : Nat}  (hK : 0 ≤ K) {σ : Mem} {σf : Mem} {v1 : Int32} {r : Int32} (h : f_X8_force σ v1 = (r, σf)) : MC l D (Ec ac z) inC z ac (z, aK, aV) (Ac z) yX8_force cX8_force 3 (some .int) K [.ref (z + 0), .int v1] σ (some (.int r)) σf := by
  refine MC.of (fun q hq => by have := hq.1; show z ≤ q; omega) (plainFor_of_name (by decide)) (Nat.le_of_ble_eq_true rfl) ?_
  intro p e s m below meth c args C hW ls hl
  replace hl : lv_has ls 3 [(0, .ref (z + 0)), (1, .int v1)] := hl
  have hS : va_S (Ac z) s.heap s.heap [] := va_S.rf
  have hx := C.1.1
  have hb := C.1.2.1
  unfold f_X8_force at h
  refine lv_iload_n (pc := 0) hx hb dX8_force_0 rfl (lv_at hl 1 rfl) ?_
  refine lv_if_lt (pc := 1) (tgt := 15) hx hb dX8_force_1 (by decide) (fun hc0 => ?_) (fun hc0 => ?_)
  · replace h := o_pos hc0 h
    refine lv_bipush (pc := 15) (v := -2) hx hb dX8_force_15 (by decide) ?_
    exact g_ret (pc := 17) C hW hS rfl dX8_force_17 (congrArg (fun q => some (Value.int q)) (o_rt h).1) (o_rt h).2
  · replace h := o_neg hc0 h
    refine lv_iload_n (pc := 4) hx hb dX8_force_4 rfl (lv_at hl 1 rfl) ?_
    refine lv_aload_n (pc := 5) hx hb dX8_force_5 rfl (lv_at hl 0 rfl) ?_
    refine gf_X8_0 (pc := 6) C hW kdc_0 fl_X8_10 dX8_force_6 ?_
    refine gf_X3_1 (pc := 9) C hW kdc_1 fl_X8_76 dX8_force_9 ?_
    refine lv_icmp_lt (pc := 12) (tgt := 18) hx hb dX8_force_12 (by decide) (fun hc1 => ?_) (fun hc1 => ?_)
    · replace h := o_pos hc1 h
      refine lv_aload_n (pc := 18) hx hb dX8_force_18 rfl (lv_at hl 0 rfl) ?_
      refine gf_X8_2 (pc := 19) C hW kdc_0 fl_X8_28 dX8_force_19 ?_
      refine gf_X6_6 (pc := 22) C hW kdc_15 fl_X8_79 dX8_force_22 ?_
      refine lv_istore_n (pc := 25) (lv' := [(2, .int (σ 15 6)), (0, .ref (z + 0)), (1, .int v1)]) hx hb dX8_force_25 rfl hl (by decide) rfl (fun ls hl => ?_)
      refine lv_aload_n (pc := 26) hx hb dX8_force_26 rfl (lv_at hl 1 rfl) ?_
      refine gf_X8_2 (pc := 27) C hW kdc_0 fl_X8_28 dX8_force_27 ?_
      refine lv_iload_n (pc := 30) hx hb dX8_force_30 rfl (lv_at hl 2 rfl) ?_
      refine pf_X6_6 (pc := 31) C hW hS kdc_15 fl_X8_79 dX8_force_31 (fun H locs hW hS => ?_)
      refine lv_iload_n (pc := 34) hx hb dX8_force_34 rfl (lv_at hl 0 rfl) ?_
      exact g_ret (pc := 35) C hW hS rfl dX8_force_35 (congrArg (fun q => some (Value.int q)) (o_rt h).1) (o_rt h).2
    · replace h := o_neg hc1 h
      refine lv_bipush (pc := 15) (v := -2) hx hb dX8_force_15 (by decide) ?_
      exact g_ret (pc := 17) C hW hS rfl dX8_force_17 (congrArg (fun q => some (Value.int q)) (o_rt h).1) (o_rt h).2

theorem c_X8_asks {K : Nat}  (hK : 3 ≤ K) {σ : Mem} {σf : Mem} {v1 : Int32} {v2 : Int32} {v3 : Int32} {r : Int32} (h : f_X8_asks σ v1 v2 v3 = some (r, σf)) : MC l D (Ec ac z) inC z ac (z, aK, aV) (Ac z) yX8_asks cX8_asks 5 (some .int) K [.ref (z + 0), .int v1, .int v2, .int v3] σ (some (.int r)) σf := by
  refine MC.of (fun q hq => by have := hq.1; show z ≤ q; omega) (plainFor_of_name (by decide)) (Nat.le_of_ble_eq_true rfl) ?_
  intro p e s m below meth c args C hW ls hl
  replace hl : lv_has ls 5 [(0, .ref (z + 0)), (1, .int v1), (2, .int v2), (3, .int v3)] := hl
  have hS : va_S (Ac z) s.heap s.heap [] := va_S.rf
  have hx := C.1.1
  have hb := C.1.2.1
  unfold f_X8_asks at h
  refine lv_aload_n (pc := 0) hx hb dX8_asks_0 rfl (lv_at hl 0 rfl) ?_
  refine gf_X8_2 (pc := 1) C hW kdc_0 fl_X8_28 dX8_asks_1 ?_
  refine lv_iload_n (pc := 4) hx hb dX8_asks_4 rfl (lv_at hl 2 rfl) ?_
  obtain ⟨r2, hc0, h⟩ := o_b h
  refine g_virt (pc := 5) (st2 := [rv z r2]) (rest := []) C hW hS (c_X6_manAt (K := K - 1) (by omega) kdc_15 hc0) mw_X8_109 (kin_6 kdc_15) (Ek_6 kdc_15) rfl (hRoom (by omega) (by decide)) rfl rfl rfl (Nat.le_of_ble_eq_true rfl) hl.1 dX8_asks_5 (fun H locs hW hS => ?_)
  refine g_astoreq (pc := 8) (o := r2) (lv' := [(4, rv z r2), (0, .ref (z + 0)), (1, .int v1), (2, .int v2), (3, .int v3)]) C dX8_asks_8 hl (by decide) rfl (fun ls hl => ?_)
  refine lv_iload_n (pc := 10) hx hb dX8_asks_10 rfl (lv_at hl 2 rfl) ?_
  refine lv_if_lt (pc := 11) (tgt := 35) hx hb dX8_asks_11 (by decide) (fun hc2 => ?_) (fun hc2 => ?_)
  · replace h := o_pos hc2 h
    refine lv_bipush (pc := 35) (v := -2) hx hb dX8_asks_35 (by decide) ?_
    exact g_ret (pc := 37) C hW hS rfl dX8_asks_37 (congrArg (fun q => some (Value.int q)) (o_r h).1) (o_r h).2
  · replace h := o_neg hc2 h
    refine lv_iload_n (pc := 14) hx hb dX8_asks_14 rfl (lv_at hl 2 rfl) ?_
    refine lv_iconst (pc := 15) (v := 3) hx hb dX8_asks_15 (by decide) ?_
    refine lv_icmp_ge (pc := 16) (tgt := 35) hx hb dX8_asks_16 (by decide) (fun hc3 => ?_) (fun hc3 => ?_)
    · replace h := o_pos hc3 h
      refine lv_bipush (pc := 35) (v := -2) hx hb dX8_asks_35 (by decide) ?_
      exact g_ret (pc := 37) C hW hS rfl dX8_asks_37 (congrArg (fun q => some (Value.int q)) (o_r h).1) (o_r h).2
    · replace h := o_neg hc3 h
      refine g_aloadq (pc := 19) (o := r2) C dX8_asks_19 (lv_at hl 0 rfl) ?_
      refine g_ifnull (pc := 21) (o := r2) (tgt := 35) C dX8_asks_21 (by decide) (fun hn => ?_) (fun q5 hn => ?_)
      · subst hn
        replace h := o_nn h
        replace hl : lv_has ls 5 [(4, .null), (0, .ref (z + 0)), (1, .int v1), (2, .int v2), (3, .int v3)] := hl
        refine lv_bipush (pc := 35) (v := -2) hx hb dX8_asks_35 (by decide) ?_
        exact g_ret (pc := 37) C hW hS rfl dX8_asks_37 (congrArg (fun q => some (Value.int q)) (o_r h).1) (o_r h).2
      · subst hn
        replace h := o_ns h
        replace hl : lv_has ls 5 [(4, .ref (z + q5)), (0, .ref (z + 0)), (1, .int v1), (2, .int v2), (3, .int v3)] := hl
        refine lv_iload_n (pc := 24) hx hb dX8_asks_24 rfl (lv_at hl 4 rfl) ?_
        refine lv_if_lt (pc := 25) (tgt := 35) hx hb dX8_asks_25 (by decide) (fun hc5 => ?_) (fun hc5 => ?_)
        · replace h := o_pos hc5 h
          refine lv_bipush (pc := 35) (v := -2) hx hb dX8_asks_35 (by decide) ?_
          exact g_ret (pc := 37) C hW hS rfl dX8_asks_37 (congrArg (fun q => some (Value.int q)) (o_r h).1) (o_r h).2
        · replace h := o_neg hc5 h
          refine lv_iload_n (pc := 28) hx hb dX8_asks_28 rfl (lv_at hl 4 rfl) ?_
          refine lv_sipush (pc := 29) (v := 999) hx hb dX8_asks_29 (by decide) ?_
          refine lv_icmp_le (pc := 32) (tgt := 38) hx hb dX8_asks_32 (by decide) (fun hc6 => ?_) (fun hc6 => ?_)
          · replace h := o_pos hc6 h
            refine lv_aload_n (pc := 38) hx hb dX8_asks_38 rfl (lv_at hl 1 rfl) ?_
            refine gf_X8_0 (pc := 39) C hW kdc_0 fl_X8_10 dX8_asks_39 ?_
            refine lv_aload_n (pc := 42) hx hb dX8_asks_42 rfl (lv_at hl 1 rfl) ?_
            refine gf_X8_2 (pc := 43) C hW kdc_0 fl_X8_28 dX8_asks_43 ?_
            refine gf_X6_6 (pc := 46) C hW kdc_15 fl_X8_79 dX8_asks_46 ?_
            refine lv_iload_n (pc := 49) hx hb dX8_asks_49 rfl (lv_at hl 2 rfl) ?_
            refine lv_aload (pc := 50) hx hb dX8_asks_50 (lv_at hl 0 rfl) ?_
            refine lv_iload_n (pc := 52) hx hb dX8_asks_52 rfl (lv_at hl 4 rfl) ?_
            refine lv_aload_n (pc := 53) hx hb dX8_asks_53 rfl (lv_at hl 1 rfl) ?_
            refine gf_X8_2 (pc := 54) C hW kdc_0 fl_X8_28 dX8_asks_54 ?_
            refine lv_iload_n (pc := 57) hx hb dX8_asks_57 rfl (lv_at hl 3 rfl) ?_
            obtain ⟨r9, hc7, h⟩ := o_b h
            refine g_virt (pc := 58) (st2 := [.int r9, .int v3, .ref (z + q5), .int v1, .int (σ 15 6), .ref (z + 1)]) (rest := [.int v3, .ref (z + q5), .int v1, .int (σ 15 6), .ref (z + 1)]) C hW hS (c_X6_owed (K := K - 1) (by omega) kdc_15 hc7) mw_X8_113 (kin_6 kdc_15) (Ek_6 kdc_15) rfl (hRoom (by omega) (by decide)) rfl rfl rfl (Nat.le_of_ble_eq_true rfl) hl.1 dX8_asks_58 (fun H locs hW hS => ?_)
            obtain ⟨r11, σ12, hc9, h⟩ := o_b2 h
            refine g_virt (pc := 61) (st2 := [.int r11]) (rest := []) C hW hS (c_X3_says (K := K - 1) (by omega) ((ty_X6_manAt kdc_15 hc0) q5 rfl) hc9) mw_X8_117 (kin_1 kdc_1) (Ek_1 kdc_1) rfl (hRoom (by omega) (by decide)) rfl rfl rfl (Nat.le_of_ble_eq_true rfl) hl.1 dX8_asks_61 (fun H locs hW hS => ?_)
            exact g_ret (pc := 64) C hW hS rfl dX8_asks_64 (congrArg (fun q => some (Value.int q)) (o_r h).1) (o_r h).2
          · replace h := o_neg hc6 h
            refine lv_bipush (pc := 35) (v := -2) hx hb dX8_asks_35 (by decide) ?_
            exact g_ret (pc := 37) C hW hS rfl dX8_asks_37 (congrArg (fun q => some (Value.int q)) (o_r h).1) (o_r h).2

theorem c_X8_man {K : Nat}  (hK : 1 ≤ K) {σ : Mem} {σf : Mem} {v1 : Int32} {v2 : Int32} {v3 : Int32} {r : Int32} (h : f_X8_man σ v1 v2 v3 = some (r, σf)) : MC l D (Ec ac z) inC z ac (z, aK, aV) (Ac z) yX8_man cX8_man 4 (some .int) K [.ref (z + 0), .int v1, .int v2, .int v3] σ (some (.int r)) σf := by
  refine MC.of (fun q hq => by have := hq.1; show z ≤ q; omega) (plainFor_of_name (by decide)) (Nat.le_of_ble_eq_true rfl) ?_
  intro p e s m below meth c args C hW ls hl
  replace hl : lv_has ls 4 [(0, .ref (z + 0)), (1, .int v1), (2, .int v2), (3, .int v3)] := hl
  have hS : va_S (Ac z) s.heap s.heap [] := va_S.rf
  have hx := C.1.1
  have hb := C.1.2.1
  unfold f_X8_man at h
  refine lv_aload_n (pc := 0) hx hb dX8_man_0 rfl (lv_at hl 0 rfl) ?_
  refine gf_X8_2 (pc := 1) C hW kdc_0 fl_X8_28 dX8_man_1 ?_
  refine lv_iload_n (pc := 4) hx hb dX8_man_4 rfl (lv_at hl 1 rfl) ?_
  refine lv_iload_n (pc := 5) hx hb dX8_man_5 rfl (lv_at hl 2 rfl) ?_
  refine lv_iload_n (pc := 6) hx hb dX8_man_6 rfl (lv_at hl 3 rfl) ?_
  obtain ⟨r2, σ3, hc0, h⟩ := o_b2 h
  refine g_virt (pc := 7) (st2 := [.int r2]) (rest := []) C hW hS (c_X6_addMan (K := K - 1) (by omega) kdc_15 hc0) mw_X8_121 (kin_6 kdc_15) (Ek_6 kdc_15) rfl (hRoom (by omega) (by decide)) rfl rfl rfl (Nat.le_of_ble_eq_true rfl) hl.1 dX8_man_7 (fun H locs hW hS => ?_)
  exact g_ret (pc := 10) C hW hS rfl dX8_man_10 (congrArg (fun q => some (Value.int q)) (o_r h).1) (o_r h).2

theorem w_X8_set_b44 (C : CX cX8_set 6 RX8 (some .int) D ac p m c s args meth (z, aK, aV) (Ac z)) (hK : 1 ≤ K) {r : Int32} {σf : Mem}   (σ : Mem) (v2 : Int32) (v3 : Int32) (v4 : Nat) (k0 : Int32) (k1 : Int32)  {H : Heap} {locs : List Loc} {ls : Array Slot} (tv4 : kd v4 = 9) (hW : WC D ac z σ H) (hS : va_S (Ac z) s.heap H locs) (hl : lv_has ls 6 [(2, .int v2), (3, .int v3), (4, .ref (z + v4))]) (h : f_X8_set_b44 σ v2 v3 v4 k0 k1 = some (r, σf)) : W p l e (rma K 0 0) s m args below meth c H locs 0 0 (MQ below (QV D (Ec ac z) inC z (some (.int r)) σf (Ac z)) args s 0 0 (Ac z)) (F0 m 44 ls [.int k1, .int k0]) := by
  have hx := C.1.1
  have hb := C.1.2.1
  unfold f_X8_set_b44 at h
  refine lv_icmp_le (pc := 44) (tgt := 50) hx hb dX8_set_44 (by decide) (fun hc7 => ?_) (fun hc7 => ?_)
  · replace h := o_pos hc7 h
    refine lv_iload_n (pc := 50) hx hb dX8_set_50 rfl (lv_at hl 0 rfl) ?_
    refine lv_if_ne (pc := 51) (tgt := 70) hx hb dX8_set_51 (by decide) (fun hc8 => ?_) (fun hc8 => ?_)
    · replace h := o_neg hc8 h
      refine lv_iload_n (pc := 70) hx hb dX8_set_70 rfl (lv_at hl 0 rfl) ?_
      refine lv_iconst (pc := 71) (v := 1) hx hb dX8_set_71 (by decide) ?_
      refine lv_icmp_ne (pc := 72) (tgt := 91) hx hb dX8_set_72 (by decide) (fun hc9 => ?_) (fun hc9 => ?_)
      · replace h := o_neg hc9 h
        refine lv_aload (pc := 91) hx hb dX8_set_91 (lv_at hl 2 rfl) ?_
        refine gf_X1_4 (pc := 93) C hW tv4 fl_X8_131 dX8_set_93 ?_
        refine lv_istore (pc := 96) (lv' := [(5, .int (σ v4 4)), (2, .int v2), (3, .int v3), (4, .ref (z + v4))]) hx hb dX8_set_96 hl (by decide) rfl (fun ls hl => ?_)
        refine lv_aload (pc := 98) hx hb dX8_set_98 (lv_at hl 3 rfl) ?_
        refine lv_iload_n (pc := 100) hx hb dX8_set_100 rfl (lv_at hl 2 rfl) ?_
        refine pf_X1_4 (pc := 101) C hW hS tv4 fl_X8_131 dX8_set_101 (fun H locs hW hS => ?_)
        refine lv_iload (pc := 104) hx hb dX8_set_104 (lv_at hl 0 rfl) ?_
        exact g_ret (pc := 106) C hW hS rfl dX8_set_106 (congrArg (fun q => some (Value.int q)) (o_r h).1) (o_r h).2
      · replace h := o_pos hc9 h
        refine lv_aload (pc := 75) hx hb dX8_set_75 (lv_at hl 2 rfl) ?_
        refine gf_X1_3 (pc := 77) C hW tv4 fl_X8_128 dX8_set_77 ?_
        refine lv_istore (pc := 80) (lv' := [(5, .int (σ v4 3)), (2, .int v2), (3, .int v3), (4, .ref (z + v4))]) hx hb dX8_set_80 hl (by decide) rfl (fun ls hl => ?_)
        refine lv_aload (pc := 82) hx hb dX8_set_82 (lv_at hl 3 rfl) ?_
        refine lv_iload_n (pc := 84) hx hb dX8_set_84 rfl (lv_at hl 2 rfl) ?_
        refine pf_X1_3 (pc := 85) C hW hS tv4 fl_X8_128 dX8_set_85 (fun H locs hW hS => ?_)
        refine lv_goto (pc := 88) (tgt := 104) hx hb dX8_set_88 (by decide) ?_
        refine lv_iload (pc := 104) hx hb dX8_set_104 (lv_at hl 0 rfl) ?_
        exact g_ret (pc := 106) C hW hS rfl dX8_set_106 (congrArg (fun q => some (Value.int q)) (o_r h).1) (o_r h).2
    · replace h := o_pos hc8 h
      refine lv_aload (pc := 54) hx hb dX8_set_54 (lv_at hl 2 rfl) ?_
      refine gf_X1_2 (pc := 56) C hW tv4 fl_X8_125 dX8_set_56 ?_
      refine lv_istore (pc := 59) (lv' := [(5, .int (σ v4 2)), (2, .int v2), (3, .int v3), (4, .ref (z + v4))]) hx hb dX8_set_59 hl (by decide) rfl (fun ls hl => ?_)
      refine lv_aload (pc := 61) hx hb dX8_set_61 (lv_at hl 3 rfl) ?_
      refine lv_iload_n (pc := 63) hx hb dX8_set_63 rfl (lv_at hl 2 rfl) ?_
      refine pf_X1_2 (pc := 64) C hW hS tv4 fl_X8_125 dX8_set_64 (fun H locs hW hS => ?_)
      refine lv_goto (pc := 67) (tgt := 104) hx hb dX8_set_67 (by decide) ?_
      refine lv_iload (pc := 104) hx hb dX8_set_104 (lv_at hl 0 rfl) ?_
      exact g_ret (pc := 106) C hW hS rfl dX8_set_106 (congrArg (fun q => some (Value.int q)) (o_r h).1) (o_r h).2
  · replace h := o_neg hc7 h
    refine lv_bipush (pc := 47) (v := -7) hx hb dX8_set_47 (by decide) ?_
    exact g_ret (pc := 49) C hW hS rfl dX8_set_49 (congrArg (fun q => some (Value.int q)) (o_r h).1) (o_r h).2

theorem c_X8_set {K : Nat}  (hK : 1 ≤ K) {σ : Mem} {σf : Mem} {v1 : Int32} {v2 : Int32} {v3 : Int32} {r : Int32} (h : f_X8_set σ v1 v2 v3 = some (r, σf)) : MC l D (Ec ac z) inC z ac (z, aK, aV) (Ac z) yX8_set cX8_set 6 (some .int) K [.ref (z + 0), .int v1, .int v2, .int v3] σ (some (.int r)) σf := by
  refine MC.of (fun q hq => by have := hq.1; show z ≤ q; omega) (plainFor_of_name (by decide)) (Nat.le_of_ble_eq_true rfl) ?_
  intro p e s m below meth c args C hW ls hl
  replace hl : lv_has ls 6 [(0, .ref (z + 0)), (1, .int v1), (2, .int v2), (3, .int v3)] := hl
  have hS : va_S (Ac z) s.heap s.heap [] := va_S.rf
  have hx := C.1.1
  have hb := C.1.2.1
  unfold f_X8_set at h
  refine lv_aload_n (pc := 0) hx hb dX8_set_0 rfl (lv_at hl 0 rfl) ?_
  refine gf_X8_2 (pc := 1) C hW kdc_0 fl_X8_28 dX8_set_1 ?_
  refine lv_iload_n (pc := 4) hx hb dX8_set_4 rfl (lv_at hl 1 rfl) ?_
  obtain ⟨r2, hc0, h⟩ := o_b h
  refine g_virt (pc := 5) (st2 := [rv z r2]) (rest := []) C hW hS (c_X6_manAt (K := K - 1) (by omega) kdc_15 hc0) mw_X8_109 (kin_6 kdc_15) (Ek_6 kdc_15) rfl (hRoom (by omega) (by decide)) rfl rfl rfl (Nat.le_of_ble_eq_true rfl) hl.1 dX8_set_5 (fun H locs hW hS => ?_)
  refine g_astoreq (pc := 8) (o := r2) (lv' := [(4, rv z r2), (0, .ref (z + 0)), (1, .int v1), (2, .int v2), (3, .int v3)]) C dX8_set_8 hl (by decide) rfl (fun ls hl => ?_)
  refine g_aloadq (pc := 10) (o := r2) C dX8_set_10 (lv_at hl 0 rfl) ?_
  refine g_ifnonnull (pc := 12) (o := r2) (tgt := 18) C dX8_set_12 (by decide) (fun hn => ?_) (fun q3 hn => ?_)
  · subst hn
    replace h := o_nn h
    replace hl : lv_has ls 6 [(4, .null), (0, .ref (z + 0)), (1, .int v1), (2, .int v2), (3, .int v3)] := hl
    refine lv_bipush (pc := 15) (v := -5) hx hb dX8_set_15 (by decide) ?_
    exact g_ret (pc := 17) C hW hS rfl dX8_set_17 (congrArg (fun q => some (Value.int q)) (o_r h).1) (o_r h).2
  · subst hn
    replace h := o_ns h
    replace hl : lv_has ls 6 [(4, .ref (z + q3)), (0, .ref (z + 0)), (1, .int v1), (2, .int v2), (3, .int v3)] := hl
    refine lv_iload_n (pc := 18) hx hb dX8_set_18 rfl (lv_at hl 3 rfl) ?_
    refine lv_if_lt (pc := 19) (tgt := 47) hx hb dX8_set_19 (by decide) (fun hc3 => ?_) (fun hc3 => ?_)
    · replace h := o_pos hc3 h
      refine lv_bipush (pc := 47) (v := -7) hx hb dX8_set_47 (by decide) ?_
      exact g_ret (pc := 49) C hW hS rfl dX8_set_49 (congrArg (fun q => some (Value.int q)) (o_r h).1) (o_r h).2
    · replace h := o_neg hc3 h
      refine lv_iload_n (pc := 22) hx hb dX8_set_22 rfl (lv_at hl 3 rfl) ?_
      refine lv_iconst (pc := 23) (v := 2) hx hb dX8_set_23 (by decide) ?_
      refine lv_icmp_gt (pc := 24) (tgt := 47) hx hb dX8_set_24 (by decide) (fun hc4 => ?_) (fun hc4 => ?_)
      · replace h := o_pos hc4 h
        refine lv_bipush (pc := 47) (v := -7) hx hb dX8_set_47 (by decide) ?_
        exact g_ret (pc := 49) C hW hS rfl dX8_set_49 (congrArg (fun q => some (Value.int q)) (o_r h).1) (o_r h).2
      · replace h := o_neg hc4 h
        refine lv_iload_n (pc := 27) hx hb dX8_set_27 rfl (lv_at hl 4 rfl) ?_
        refine lv_if_lt (pc := 28) (tgt := 47) hx hb dX8_set_28 (by decide) (fun hc5 => ?_) (fun hc5 => ?_)
        · replace h := o_pos hc5 h
          refine lv_bipush (pc := 47) (v := -7) hx hb dX8_set_47 (by decide) ?_
          exact g_ret (pc := 49) C hW hS rfl dX8_set_49 (congrArg (fun q => some (Value.int q)) (o_r h).1) (o_r h).2
        · replace h := o_neg hc5 h
          refine lv_iload_n (pc := 31) hx hb dX8_set_31 rfl (lv_at hl 4 rfl) ?_
          refine lv_iload_n (pc := 32) hx hb dX8_set_32 rfl (lv_at hl 3 rfl) ?_
          refine lv_if_ne (pc := 33) (tgt := 42) hx hb dX8_set_33 (by decide) (fun hc6 => ?_) (fun hc6 => ?_)
          · replace h := o_neg hc6 h
            refine lv_bipush (pc := 42) (v := 9) hx hb dX8_set_42 (by decide) ?_
            exact w_X8_set_b44 C hK σ v2 v3 q3 v3 (9 : Int32) ((ty_X6_manAt kdc_15 hc0) q3 rfl) hW hS (lv_sub hl [3, 4, 0] rfl) h
          · replace h := o_pos hc6 h
            refine lv_sipush (pc := 36) (v := 999) hx hb dX8_set_36 (by decide) ?_
            refine lv_goto (pc := 39) (tgt := 44) hx hb dX8_set_39 (by decide) ?_
            exact w_X8_set_b44 C hK σ v2 v3 q3 v3 (999 : Int32) ((ty_X6_manAt kdc_15 hc0) q3 rfl) hW hS (lv_sub hl [3, 4, 0] rfl) h

theorem c_X8_told {K : Nat}  (hK : 2 ≤ K) {σ : Mem} {v1 : Int32} {v2 : Int32} {r : Int32} (h : f_X8_told σ v1 v2 = some r) : MC l D (Ec ac z) inC z ac (z, aK, aV) (Ac z) yX8_told cX8_told 4 (some .int) K [.ref (z + 0), .int v1, .int v2] σ (some (.int r)) σ := by
  refine MC.of (fun q hq => by have := hq.1; show z ≤ q; omega) (plainFor_of_name (by decide)) (Nat.le_of_ble_eq_true rfl) ?_
  intro p e s m below meth c args C hW ls hl
  replace hl : lv_has ls 4 [(0, .ref (z + 0)), (1, .int v1), (2, .int v2)] := hl
  have hS : va_S (Ac z) s.heap s.heap [] := va_S.rf
  have hx := C.1.1
  have hb := C.1.2.1
  unfold f_X8_told at h
  refine lv_aload_n (pc := 0) hx hb dX8_told_0 rfl (lv_at hl 0 rfl) ?_
  refine gf_X8_2 (pc := 1) C hW kdc_0 fl_X8_28 dX8_told_1 ?_
  refine lv_iload_n (pc := 4) hx hb dX8_told_4 rfl (lv_at hl 1 rfl) ?_
  obtain ⟨r2, hc0, h⟩ := o_b h
  refine g_virt (pc := 5) (st2 := [rv z r2]) (rest := []) C hW hS (c_X6_manAt (K := K - 1) (by omega) kdc_15 hc0) mw_X8_109 (kin_6 kdc_15) (Ek_6 kdc_15) rfl (hRoom (by omega) (by decide)) rfl rfl rfl (Nat.le_of_ble_eq_true rfl) hl.1 dX8_told_5 (fun H locs hW hS => ?_)
  refine g_astoreq_n (pc := 8) (o := r2) (lv' := [(3, rv z r2), (0, .ref (z + 0)), (1, .int v1), (2, .int v2)]) C dX8_told_8 rfl hl (by decide) rfl (fun ls hl => ?_)
  refine g_aloadq_n (pc := 9) (o := r2) C dX8_told_9 rfl (lv_at hl 0 rfl) ?_
  refine g_ifnonnull (pc := 10) (o := r2) (tgt := 16) C dX8_told_10 (by decide) (fun hn => ?_) (fun q3 hn => ?_)
  · subst hn
    replace h := o_nn h
    replace hl : lv_has ls 4 [(3, .null), (0, .ref (z + 0)), (1, .int v1), (2, .int v2)] := hl
    refine lv_bipush (pc := 13) (v := -5) hx hb dX8_told_13 (by decide) ?_
    exact g_ret (pc := 15) C hW hS rfl dX8_told_15 (congrArg (fun q => some (Value.int q)) (Option.some.inj h).symm) rfl
  · subst hn
    replace h := o_ns h
    replace hl : lv_has ls 4 [(3, .ref (z + q3)), (0, .ref (z + 0)), (1, .int v1), (2, .int v2)] := hl
    refine lv_iload_n (pc := 16) hx hb dX8_told_16 rfl (lv_at hl 3 rfl) ?_
    by_cases hc3 : v2 = 0
    · replace h := o_pos hc3 h
      refine lv_tableIn (pc := 17) (off := 51) (tgt := 68) hx hb dX8_told_17 (by rw [hc3]; decide) (by rw [hc3]; decide) (by rw [hc3]; rfl) (by decide) ?_
      refine lv_aload_n (pc := 68) hx hb dX8_told_68 rfl (lv_at hl 0 rfl) ?_
      refine gf_X1_0 (pc := 69) C hW ((ty_X6_manAt kdc_15 hc0) q3 rfl) fl_X8_134 dX8_told_69 ?_
      exact g_ret (pc := 72) C hW hS rfl dX8_told_72 (congrArg (fun q => some (Value.int q)) (Option.some.inj h).symm) rfl
    replace h := o_neg hc3 h
    by_cases hc4 : v2 = 1
    · replace h := o_pos hc4 h
      refine lv_tableIn (pc := 17) (off := 56) (tgt := 73) hx hb dX8_told_17 (by rw [hc4]; decide) (by rw [hc4]; decide) (by rw [hc4]; rfl) (by decide) ?_
      refine lv_aload_n (pc := 73) hx hb dX8_told_73 rfl (lv_at hl 0 rfl) ?_
      refine gf_X1_1 (pc := 74) C hW ((ty_X6_manAt kdc_15 hc0) q3 rfl) fl_X8_137 dX8_told_74 ?_
      exact g_ret (pc := 77) C hW hS rfl dX8_told_77 (congrArg (fun q => some (Value.int q)) (Option.some.inj h).symm) rfl
    replace h := o_neg hc4 h
    by_cases hc5 : v2 = 2
    · replace h := o_pos hc5 h
      refine lv_tableIn (pc := 17) (off := 61) (tgt := 78) hx hb dX8_told_17 (by rw [hc5]; decide) (by rw [hc5]; decide) (by rw [hc5]; rfl) (by decide) ?_
      refine lv_aload_n (pc := 78) hx hb dX8_told_78 rfl (lv_at hl 0 rfl) ?_
      refine gf_X1_2 (pc := 79) C hW ((ty_X6_manAt kdc_15 hc0) q3 rfl) fl_X8_125 dX8_told_79 ?_
      exact g_ret (pc := 82) C hW hS rfl dX8_told_82 (congrArg (fun q => some (Value.int q)) (Option.some.inj h).symm) rfl
    replace h := o_neg hc5 h
    by_cases hc6 : v2 = 3
    · replace h := o_pos hc6 h
      refine lv_tableIn (pc := 17) (off := 66) (tgt := 83) hx hb dX8_told_17 (by rw [hc6]; decide) (by rw [hc6]; decide) (by rw [hc6]; rfl) (by decide) ?_
      refine lv_aload_n (pc := 83) hx hb dX8_told_83 rfl (lv_at hl 0 rfl) ?_
      refine gf_X1_3 (pc := 84) C hW ((ty_X6_manAt kdc_15 hc0) q3 rfl) fl_X8_128 dX8_told_84 ?_
      exact g_ret (pc := 87) C hW hS rfl dX8_told_87 (congrArg (fun q => some (Value.int q)) (Option.some.inj h).symm) rfl
    replace h := o_neg hc6 h
    by_cases hc7 : v2 = 4
    · replace h := o_pos hc7 h
      refine lv_tableIn (pc := 17) (off := 71) (tgt := 88) hx hb dX8_told_17 (by rw [hc7]; decide) (by rw [hc7]; decide) (by rw [hc7]; rfl) (by decide) ?_
      refine lv_aload_n (pc := 88) hx hb dX8_told_88 rfl (lv_at hl 0 rfl) ?_
      refine gf_X1_4 (pc := 89) C hW ((ty_X6_manAt kdc_15 hc0) q3 rfl) fl_X8_131 dX8_told_89 ?_
      exact g_ret (pc := 92) C hW hS rfl dX8_told_92 (congrArg (fun q => some (Value.int q)) (Option.some.inj h).symm) rfl
    replace h := o_neg hc7 h
    by_cases hc8 : v2 = 5
    · replace h := o_pos hc8 h
      refine lv_tableIn (pc := 17) (off := 76) (tgt := 93) hx hb dX8_told_17 (by rw [hc8]; decide) (by rw [hc8]; decide) (by rw [hc8]; rfl) (by decide) ?_
      refine lv_aload_n (pc := 93) hx hb dX8_told_93 rfl (lv_at hl 0 rfl) ?_
      refine gf_X1_5 (pc := 94) C hW ((ty_X6_manAt kdc_15 hc0) q3 rfl) fl_X8_140 dX8_told_94 ?_
      refine lv_if_eq (pc := 97) (tgt := 104) hx hb dX8_told_97 (by decide) (fun hc9 => ?_) (fun hc9 => ?_)
      · replace h := o_pos hc9 h
        refine lv_iconst (pc := 104) (v := 0) hx hb dX8_told_104 (by decide) ?_
        exact g_ret (pc := 105) C hW hS rfl dX8_told_105 (congrArg (fun q => some (Value.int q)) (Option.some.inj h).symm) rfl
      · replace h := o_neg hc9 h
        refine lv_iconst (pc := 100) (v := 1) hx hb dX8_told_100 (by decide) ?_
        refine lv_goto (pc := 101) (tgt := 105) hx hb dX8_told_101 (by decide) ?_
        exact g_ret (pc := 105) C hW hS rfl dX8_told_105 (congrArg (fun q => some (Value.int q)) (Option.some.inj h).symm) rfl
    replace h := o_neg hc8 h
    by_cases hc10 : v2 = 6
    · replace h := o_pos hc10 h
      refine lv_tableIn (pc := 17) (off := 89) (tgt := 106) hx hb dX8_told_17 (by rw [hc10]; decide) (by rw [hc10]; decide) (by rw [hc10]; rfl) (by decide) ?_
      refine lv_aload_n (pc := 106) hx hb dX8_told_106 rfl (lv_at hl 0 rfl) ?_
      refine g_virt (pc := 107) (st2 := [.int (f_X1_counts σ q3)]) (rest := []) C hW hS (c_X1_counts (K := K - 1) (by omega) ((ty_X6_manAt kdc_15 hc0) q3 rfl) rfl) mw_X8_143 (kin_9 ((ty_X6_manAt kdc_15 hc0) q3 rfl)) (Ek_9 ((ty_X6_manAt kdc_15 hc0) q3 rfl)) rfl (hRoom (by omega) (by decide)) rfl rfl rfl (Nat.le_of_ble_eq_true rfl) hl.1 dX8_told_107 (fun H locs hW hS => ?_)
      exact g_ret (pc := 110) C hW hS rfl dX8_told_110 (congrArg (fun q => some (Value.int q)) (Option.some.inj h).symm) rfl
    replace h := o_neg hc10 h
    by_cases hc11 : v2 = 7
    · replace h := o_pos hc11 h
      refine lv_tableIn (pc := 17) (off := 94) (tgt := 111) hx hb dX8_told_17 (by rw [hc11]; decide) (by rw [hc11]; decide) (by rw [hc11]; rfl) (by decide) ?_
      refine lv_aload_n (pc := 111) hx hb dX8_told_111 rfl (lv_at hl 0 rfl) ?_
      refine g_virt (pc := 112) (st2 := [.int (f_X1_grace σ q3)]) (rest := []) C hW hS (c_X1_grace (K := K - 1) (by omega) ((ty_X6_manAt kdc_15 hc0) q3 rfl) rfl) mw_X8_146 (kin_9 ((ty_X6_manAt kdc_15 hc0) q3 rfl)) (Ek_9 ((ty_X6_manAt kdc_15 hc0) q3 rfl)) rfl (hRoom (by omega) (by decide)) rfl rfl rfl (Nat.le_of_ble_eq_true rfl) hl.1 dX8_told_112 (fun H locs hW hS => ?_)
      exact g_ret (pc := 115) C hW hS rfl dX8_told_115 (congrArg (fun q => some (Value.int q)) (Option.some.inj h).symm) rfl
    replace h := o_neg hc11 h
    by_cases hc12 : v2 = 8
    · replace h := o_pos hc12 h
      refine lv_tableIn (pc := 17) (off := 99) (tgt := 116) hx hb dX8_told_17 (by rw [hc12]; decide) (by rw [hc12]; decide) (by rw [hc12]; rfl) (by decide) ?_
      refine lv_aload_n (pc := 116) hx hb dX8_told_116 rfl (lv_at hl 1 rfl) ?_
      refine gf_X8_2 (pc := 117) C hW kdc_0 fl_X8_28 dX8_told_117 ?_
      refine lv_iload_n (pc := 120) hx hb dX8_told_120 rfl (lv_at hl 2 rfl) ?_
      obtain ⟨r15, hc13, h⟩ := o_b h
      refine g_virt (pc := 121) (st2 := [.int r15]) (rest := []) C hW hS (c_X6_owed (K := K - 1) (by omega) kdc_15 hc13) mw_X8_113 (kin_6 kdc_15) (Ek_6 kdc_15) rfl (hRoom (by omega) (by decide)) rfl rfl rfl (Nat.le_of_ble_eq_true rfl) hl.1 dX8_told_121 (fun H locs hW hS => ?_)
      exact g_ret (pc := 124) C hW hS rfl dX8_told_124 (congrArg (fun q => some (Value.int q)) (Option.some.inj h).symm) rfl
    replace h := o_neg hc12 h
    have hzhc3 := lv_neT (k := 0) (a := 0) hc3 (by decide)
    have hzhc4 := lv_neT (k := 1) (a := 1) hc4 (by decide)
    have hzhc5 := lv_neT (k := 2) (a := 2) hc5 (by decide)
    have hzhc6 := lv_neT (k := 3) (a := 3) hc6 (by decide)
    have hzhc7 := lv_neT (k := 4) (a := 4) hc7 (by decide)
    have hzhc8 := lv_neT (k := 5) (a := 5) hc8 (by decide)
    have hzhc10 := lv_neT (k := 6) (a := 6) hc10 (by decide)
    have hzhc11 := lv_neT (k := 7) (a := 7) hc11 (by decide)
    have hzhc12 := lv_neT (k := 8) (a := 8) hc12 (by decide)
    refine lv_tableOut (pc := 17) (tgt := 125) hx hb dX8_told_17 (by omega) (by decide) ?_
    refine lv_bipush (pc := 125) (v := -7) hx hb dX8_told_125 (by decide) ?_
    exact g_ret (pc := 127) C hW hS rfl dX8_told_127 (congrArg (fun q => some (Value.int q)) (Option.some.inj h).symm) rfl

theorem c_X8_vow {K : Nat}  (hK : 1 ≤ K) {σ : Mem} {σf : Mem} {v1 : Int32} {v2 : Int32} {v3 : Int32} {r : Int32} (h : f_X8_vow σ v1 v2 v3 = some (r, σf)) : MC l D (Ec ac z) inC z ac (z, aK, aV) (Ac z) yX8_vow cX8_vow 7 (some .int) K [.ref (z + 0), .int v1, .int v2, .int v3] σ (some (.int r)) σf := by
  refine MC.of (fun q hq => by have := hq.1; show z ≤ q; omega) (plainFor_of_name (by decide)) (Nat.le_of_ble_eq_true rfl) ?_
  intro p e s m below meth c args C hW ls hl
  replace hl : lv_has ls 7 [(0, .ref (z + 0)), (1, .int v1), (2, .int v2), (3, .int v3)] := hl
  have hS : va_S (Ac z) s.heap s.heap [] := va_S.rf
  have hx := C.1.1
  have hb := C.1.2.1
  unfold f_X8_vow at h
  refine lv_iload_n (pc := 0) hx hb dX8_vow_0 rfl (lv_at hl 1 rfl) ?_
  refine lv_bipush (pc := 1) (v := 10) hx hb dX8_vow_1 (by decide) ?_
  refine lv_idiv (pc := 3) hx hb dX8_vow_3 (by decide) ?_
  refine lv_istore (pc := 4) (lv' := [(4, .int (v1 / (10 : Int32))), (0, .ref (z + 0)), (1, .int v1), (2, .int v2), (3, .int v3)]) hx hb dX8_vow_4 hl (by decide) rfl (fun ls hl => ?_)
  refine lv_iload_n (pc := 6) hx hb dX8_vow_6 rfl (lv_at hl 2 rfl) ?_
  refine lv_bipush (pc := 7) (v := 10) hx hb dX8_vow_7 (by decide) ?_
  refine lv_irem (pc := 9) hx hb dX8_vow_9 (by decide) ?_
  refine lv_istore (pc := 10) (lv' := [(5, .int (irm v1 (10 : Int32))), (4, .int (v1 / (10 : Int32))), (0, .ref (z + 0)), (1, .int v1), (2, .int v2), (3, .int v3)]) hx hb dX8_vow_10 hl (by decide) rfl (fun ls hl => ?_)
  refine lv_aload_n (pc := 12) hx hb dX8_vow_12 rfl (lv_at hl 2 rfl) ?_
  refine gf_X8_2 (pc := 13) C hW kdc_0 fl_X8_28 dX8_vow_13 ?_
  refine lv_iload (pc := 16) hx hb dX8_vow_16 (lv_at hl 1 rfl) ?_
  obtain ⟨r2, hc0, h⟩ := o_b h
  refine g_virt (pc := 18) (st2 := [rv z r2]) (rest := []) C hW hS (c_X6_manAt (K := K - 1) (by omega) kdc_15 hc0) mw_X8_109 (kin_6 kdc_15) (Ek_6 kdc_15) rfl (hRoom (by omega) (by decide)) rfl rfl rfl (Nat.le_of_ble_eq_true rfl) hl.1 dX8_vow_18 (fun H locs hW hS => ?_)
  refine g_astoreq (pc := 21) (o := r2) (lv' := [(6, rv z r2), (5, .int (irm v1 (10 : Int32))), (4, .int (v1 / (10 : Int32))), (0, .ref (z + 0)), (1, .int v1), (2, .int v2), (3, .int v3)]) C dX8_vow_21 hl (by decide) rfl (fun ls hl => ?_)
  refine g_aloadq (pc := 23) (o := r2) C dX8_vow_23 (lv_at hl 0 rfl) ?_
  refine g_ifnull (pc := 25) (o := r2) (tgt := 47) C dX8_vow_25 (by decide) (fun hn => ?_) (fun q3 hn => ?_)
  · subst hn
    replace h := o_nn h
    replace hl : lv_has ls 7 [(6, .null), (5, .int (irm v1 (10 : Int32))), (4, .int (v1 / (10 : Int32))), (0, .ref (z + 0)), (1, .int v1), (2, .int v2), (3, .int v3)] := hl
    refine lv_bipush (pc := 47) (v := -2) hx hb dX8_vow_47 (by decide) ?_
    exact g_ret (pc := 49) C hW hS rfl dX8_vow_49 (congrArg (fun q => some (Value.int q)) (o_r h).1) (o_r h).2
  · subst hn
    replace h := o_ns h
    replace hl : lv_has ls 7 [(6, .ref (z + q3)), (5, .int (irm v1 (10 : Int32))), (4, .int (v1 / (10 : Int32))), (0, .ref (z + 0)), (1, .int v1), (2, .int v2), (3, .int v3)] := hl
    refine lv_aload_n (pc := 28) hx hb dX8_vow_28 rfl (lv_at hl 3 rfl) ?_
    refine gf_X8_2 (pc := 29) C hW kdc_0 fl_X8_28 dX8_vow_29 ?_
    refine lv_iload (pc := 32) hx hb dX8_vow_32 (lv_at hl 1 rfl) ?_
    obtain ⟨r5, hc3, h⟩ := o_b h
    refine g_virt (pc := 34) (st2 := [rv z r5]) (rest := []) C hW hS (c_X6_manAt (K := K - 1) (by omega) kdc_15 hc3) mw_X8_109 (kin_6 kdc_15) (Ek_6 kdc_15) rfl (hRoom (by omega) (by decide)) rfl rfl rfl (Nat.le_of_ble_eq_true rfl) hl.1 dX8_vow_34 (fun H locs hW hS => ?_)
    refine g_ifnull (pc := 37) (o := r5) (tgt := 47) C dX8_vow_37 (by decide) (fun hn => ?_) (fun q6 hn => ?_)
    · subst hn
      replace h := o_nn h
      replace hl : lv_has ls 7 [(6, .ref (z + q3)), (5, .int (irm v1 (10 : Int32))), (4, .int (v1 / (10 : Int32))), (0, .ref (z + 0)), (1, .int v1), (2, .int v2), (3, .int v3)] := hl
      refine lv_bipush (pc := 47) (v := -2) hx hb dX8_vow_47 (by decide) ?_
      exact g_ret (pc := 49) C hW hS rfl dX8_vow_49 (congrArg (fun q => some (Value.int q)) (o_r h).1) (o_r h).2
    · subst hn
      replace h := o_ns h
      replace hl : lv_has ls 7 [(6, .ref (z + q3)), (5, .int (irm v1 (10 : Int32))), (4, .int (v1 / (10 : Int32))), (0, .ref (z + 0)), (1, .int v1), (2, .int v2), (3, .int v3)] := hl
      refine lv_iload (pc := 40) hx hb dX8_vow_40 (lv_at hl 2 rfl) ?_
      refine lv_iload (pc := 42) hx hb dX8_vow_42 (lv_at hl 1 rfl) ?_
      refine lv_icmp_ne (pc := 44) (tgt := 50) hx hb dX8_vow_44 (by decide) (fun hc6 => ?_) (fun hc6 => ?_)
      · replace h := o_neg hc6 h
        refine lv_iload_n (pc := 50) hx hb dX8_vow_50 rfl (lv_at hl 5 rfl) ?_
        refine lv_iconst (pc := 51) (v := 1) hx hb dX8_vow_51 (by decide) ?_
        refine lv_icmp_lt (pc := 52) (tgt := 73) hx hb dX8_vow_52 (by decide) (fun hc7 => ?_) (fun hc7 => ?_)
        · replace h := o_pos hc7 h
          refine lv_bipush (pc := 73) (v := -2) hx hb dX8_vow_73 (by decide) ?_
          exact g_ret (pc := 75) C hW hS rfl dX8_vow_75 (congrArg (fun q => some (Value.int q)) (o_r h).1) (o_r h).2
        · replace h := o_neg hc7 h
          refine lv_iload_n (pc := 55) hx hb dX8_vow_55 rfl (lv_at hl 5 rfl) ?_
          refine lv_sipush (pc := 56) (v := 200) hx hb dX8_vow_56 (by decide) ?_
          refine lv_icmp_gt (pc := 59) (tgt := 73) hx hb dX8_vow_59 (by decide) (fun hc8 => ?_) (fun hc8 => ?_)
          · replace h := o_pos hc8 h
            refine lv_bipush (pc := 73) (v := -2) hx hb dX8_vow_73 (by decide) ?_
            exact g_ret (pc := 75) C hW hS rfl dX8_vow_75 (congrArg (fun q => some (Value.int q)) (o_r h).1) (o_r h).2
          · replace h := o_neg hc8 h
            refine lv_iload_n (pc := 62) hx hb dX8_vow_62 rfl (lv_at hl 6 rfl) ?_
            refine lv_if_lt (pc := 63) (tgt := 73) hx hb dX8_vow_63 (by decide) (fun hc9 => ?_) (fun hc9 => ?_)
            · replace h := o_pos hc9 h
              refine lv_bipush (pc := 73) (v := -2) hx hb dX8_vow_73 (by decide) ?_
              exact g_ret (pc := 75) C hW hS rfl dX8_vow_75 (congrArg (fun q => some (Value.int q)) (o_r h).1) (o_r h).2
            · replace h := o_neg hc9 h
              refine lv_iload_n (pc := 66) hx hb dX8_vow_66 rfl (lv_at hl 6 rfl) ?_
              refine lv_sipush (pc := 67) (v := 999) hx hb dX8_vow_67 (by decide) ?_
              refine lv_icmp_le (pc := 70) (tgt := 76) hx hb dX8_vow_70 (by decide) (fun hc10 => ?_) (fun hc10 => ?_)
              · replace h := o_pos hc10 h
                refine lv_aload (pc := 76) hx hb dX8_vow_76 (lv_at hl 0 rfl) ?_
                refine gf_X1_5 (pc := 78) C hW ((ty_X6_manAt kdc_15 hc0) q3 rfl) fl_X8_140 dX8_vow_78 ?_
                refine lv_if_ne (pc := 81) (tgt := 95) hx hb dX8_vow_81 (by decide) (fun hc11 => ?_) (fun hc11 => ?_)
                · replace h := o_neg hc11 h
                  refine lv_bipush (pc := 95) (v := -3) hx hb dX8_vow_95 (by decide) ?_
                  exact g_ret (pc := 97) C hW hS rfl dX8_vow_97 (congrArg (fun q => some (Value.int q)) (o_r h).1) (o_r h).2
                · replace h := o_pos hc11 h
                  refine lv_iload_n (pc := 84) hx hb dX8_vow_84 rfl (lv_at hl 6 rfl) ?_
                  refine lv_aload_n (pc := 85) hx hb dX8_vow_85 rfl (lv_at hl 3 rfl) ?_
                  refine gf_X8_2 (pc := 86) C hW kdc_0 fl_X8_28 dX8_vow_86 ?_
                  refine gf_X6_5 (pc := 89) C hW kdc_15 fl_X8_73 dX8_vow_89 ?_
                  refine lv_icmp_ge (pc := 92) (tgt := 98) hx hb dX8_vow_92 (by decide) (fun hc12 => ?_) (fun hc12 => ?_)
                  · replace h := o_pos hc12 h
                    refine lv_aload_n (pc := 98) hx hb dX8_vow_98 rfl (lv_at hl 3 rfl) ?_
                    refine gf_X8_2 (pc := 99) C hW kdc_0 fl_X8_28 dX8_vow_99 ?_
                    refine lv_iload (pc := 102) hx hb dX8_vow_102 (lv_at hl 2 rfl) ?_
                    refine lv_iload (pc := 104) hx hb dX8_vow_104 (lv_at hl 1 rfl) ?_
                    refine lv_iload_n (pc := 106) hx hb dX8_vow_106 rfl (lv_at hl 5 rfl) ?_
                    refine lv_iload_n (pc := 107) hx hb dX8_vow_107 rfl (lv_at hl 6 rfl) ?_
                    obtain ⟨r15, σ16, hc13, h⟩ := o_b2 h
                    refine g_virt (pc := 108) (st2 := [.int r15]) (rest := []) C hW hS (c_X6_addVow (K := K - 1) (by omega) kdc_15 hc13) mw_X8_149 (kin_6 kdc_15) (Ek_6 kdc_15) rfl (hRoom (by omega) (by decide)) rfl rfl rfl (Nat.le_of_ble_eq_true rfl) hl.1 dX8_vow_108 (fun H locs hW hS => ?_)
                    exact g_ret (pc := 111) C hW hS rfl dX8_vow_111 (congrArg (fun q => some (Value.int q)) (o_r h).1) (o_r h).2
                  · replace h := o_neg hc12 h
                    refine lv_bipush (pc := 95) (v := -3) hx hb dX8_vow_95 (by decide) ?_
                    exact g_ret (pc := 97) C hW hS rfl dX8_vow_97 (congrArg (fun q => some (Value.int q)) (o_r h).1) (o_r h).2
              · replace h := o_neg hc10 h
                refine lv_bipush (pc := 73) (v := -2) hx hb dX8_vow_73 (by decide) ?_
                exact g_ret (pc := 75) C hW hS rfl dX8_vow_75 (congrArg (fun q => some (Value.int q)) (o_r h).1) (o_r h).2
      · replace h := o_pos hc6 h
        refine lv_bipush (pc := 47) (v := -2) hx hb dX8_vow_47 (by decide) ?_
        exact g_ret (pc := 49) C hW hS rfl dX8_vow_49 (congrArg (fun q => some (Value.int q)) (o_r h).1) (o_r h).2

theorem c_X8_bond {K : Nat}  (hK : 2 ≤ K) {σ : Mem} {v1 : Int32} {v2 : Int32} {r : Int32} (h : f_X8_bond σ v1 v2 = some r) : MC l D (Ec ac z) inC z ac (z, aK, aV) (Ac z) yX8_bond cX8_bond 4 (some .int) K [.ref (z + 0), .int v1, .int v2] σ (some (.int r)) σ := by
  refine MC.of (fun q hq => by have := hq.1; show z ≤ q; omega) (plainFor_of_name (by decide)) (Nat.le_of_ble_eq_true rfl) ?_
  intro p e s m below meth c args C hW ls hl
  replace hl : lv_has ls 4 [(0, .ref (z + 0)), (1, .int v1), (2, .int v2)] := hl
  have hS : va_S (Ac z) s.heap s.heap [] := va_S.rf
  have hx := C.1.1
  have hb := C.1.2.1
  unfold f_X8_bond at h
  refine lv_aload_n (pc := 0) hx hb dX8_bond_0 rfl (lv_at hl 0 rfl) ?_
  refine gf_X8_2 (pc := 1) C hW kdc_0 fl_X8_28 dX8_bond_1 ?_
  refine lv_iload_n (pc := 4) hx hb dX8_bond_4 rfl (lv_at hl 1 rfl) ?_
  obtain ⟨r2, hc0, h⟩ := o_b h
  refine g_virt (pc := 5) (st2 := [rv z r2]) (rest := []) C hW hS (c_X6_vowAt (K := K - 1) (by omega) kdc_15 hc0) mw_X8_153 (kin_6 kdc_15) (Ek_6 kdc_15) rfl (hRoom (by omega) (by decide)) rfl rfl rfl (Nat.le_of_ble_eq_true rfl) hl.1 dX8_bond_5 (fun H locs hW hS => ?_)
  refine g_astoreq_n (pc := 8) (o := r2) (lv' := [(3, rv z r2), (0, .ref (z + 0)), (1, .int v1), (2, .int v2)]) C dX8_bond_8 rfl hl (by decide) rfl (fun ls hl => ?_)
  refine g_aloadq_n (pc := 9) (o := r2) C dX8_bond_9 rfl (lv_at hl 0 rfl) ?_
  refine g_ifnonnull (pc := 10) (o := r2) (tgt := 16) C dX8_bond_10 (by decide) (fun hn => ?_) (fun q3 hn => ?_)
  · subst hn
    replace h := o_nn h
    replace hl : lv_has ls 4 [(3, .null), (0, .ref (z + 0)), (1, .int v1), (2, .int v2)] := hl
    refine lv_bipush (pc := 13) (v := -6) hx hb dX8_bond_13 (by decide) ?_
    exact g_ret (pc := 15) C hW hS rfl dX8_bond_15 (congrArg (fun q => some (Value.int q)) (Option.some.inj h).symm) rfl
  · subst hn
    replace h := o_ns h
    replace hl : lv_has ls 4 [(3, .ref (z + q3)), (0, .ref (z + 0)), (1, .int v1), (2, .int v2)] := hl
    refine lv_iload_n (pc := 16) hx hb dX8_bond_16 rfl (lv_at hl 3 rfl) ?_
    by_cases hc3 : v2 = 0
    · replace h := o_pos hc3 h
      refine lv_tableIn (pc := 17) (off := 43) (tgt := 60) hx hb dX8_bond_17 (by rw [hc3]; decide) (by rw [hc3]; decide) (by rw [hc3]; rfl) (by decide) ?_
      refine lv_aload_n (pc := 60) hx hb dX8_bond_60 rfl (lv_at hl 0 rfl) ?_
      refine gf_X7_0 (pc := 61) C hW ((ty_X6_vowAt kdc_15 hc0) q3 rfl) fl_X8_157 dX8_bond_61 ?_
      exact g_ret (pc := 64) C hW hS rfl dX8_bond_64 (congrArg (fun q => some (Value.int q)) (Option.some.inj h).symm) rfl
    replace h := o_neg hc3 h
    by_cases hc4 : v2 = 1
    · replace h := o_pos hc4 h
      refine lv_tableIn (pc := 17) (off := 48) (tgt := 65) hx hb dX8_bond_17 (by rw [hc4]; decide) (by rw [hc4]; decide) (by rw [hc4]; rfl) (by decide) ?_
      refine lv_aload_n (pc := 65) hx hb dX8_bond_65 rfl (lv_at hl 0 rfl) ?_
      refine gf_X7_1 (pc := 66) C hW ((ty_X6_vowAt kdc_15 hc0) q3 rfl) fl_X8_162 dX8_bond_66 ?_
      exact g_ret (pc := 69) C hW hS rfl dX8_bond_69 (congrArg (fun q => some (Value.int q)) (Option.some.inj h).symm) rfl
    replace h := o_neg hc4 h
    by_cases hc5 : v2 = 2
    · replace h := o_pos hc5 h
      refine lv_tableIn (pc := 17) (off := 53) (tgt := 70) hx hb dX8_bond_17 (by rw [hc5]; decide) (by rw [hc5]; decide) (by rw [hc5]; rfl) (by decide) ?_
      refine lv_aload_n (pc := 70) hx hb dX8_bond_70 rfl (lv_at hl 0 rfl) ?_
      refine gf_X7_2 (pc := 71) C hW ((ty_X6_vowAt kdc_15 hc0) q3 rfl) fl_X8_165 dX8_bond_71 ?_
      exact g_ret (pc := 74) C hW hS rfl dX8_bond_74 (congrArg (fun q => some (Value.int q)) (Option.some.inj h).symm) rfl
    replace h := o_neg hc5 h
    by_cases hc6 : v2 = 3
    · replace h := o_pos hc6 h
      refine lv_tableIn (pc := 17) (off := 58) (tgt := 75) hx hb dX8_bond_17 (by rw [hc6]; decide) (by rw [hc6]; decide) (by rw [hc6]; rfl) (by decide) ?_
      refine lv_aload_n (pc := 75) hx hb dX8_bond_75 rfl (lv_at hl 0 rfl) ?_
      refine gf_X7_3 (pc := 76) C hW ((ty_X6_vowAt kdc_15 hc0) q3 rfl) fl_X8_168 dX8_bond_76 ?_
      exact g_ret (pc := 79) C hW hS rfl dX8_bond_79 (congrArg (fun q => some (Value.int q)) (Option.some.inj h).symm) rfl
    replace h := o_neg hc6 h
    by_cases hc7 : v2 = 4
    · replace h := o_pos hc7 h
      refine lv_tableIn (pc := 17) (off := 63) (tgt := 80) hx hb dX8_bond_17 (by rw [hc7]; decide) (by rw [hc7]; decide) (by rw [hc7]; rfl) (by decide) ?_
      refine lv_aload_n (pc := 80) hx hb dX8_bond_80 rfl (lv_at hl 0 rfl) ?_
      refine gf_X7_5 (pc := 81) C hW ((ty_X6_vowAt kdc_15 hc0) q3 rfl) fl_X8_171 dX8_bond_81 ?_
      exact g_ret (pc := 84) C hW hS rfl dX8_bond_84 (congrArg (fun q => some (Value.int q)) (Option.some.inj h).symm) rfl
    replace h := o_neg hc7 h
    by_cases hc8 : v2 = 5
    · replace h := o_pos hc8 h
      refine lv_tableIn (pc := 17) (off := 68) (tgt := 85) hx hb dX8_bond_17 (by rw [hc8]; decide) (by rw [hc8]; decide) (by rw [hc8]; rfl) (by decide) ?_
      refine lv_aload_n (pc := 85) hx hb dX8_bond_85 rfl (lv_at hl 0 rfl) ?_
      refine gf_X7_4 (pc := 86) C hW ((ty_X6_vowAt kdc_15 hc0) q3 rfl) fl_X8_174 dX8_bond_86 ?_
      exact g_ret (pc := 89) C hW hS rfl dX8_bond_89 (congrArg (fun q => some (Value.int q)) (Option.some.inj h).symm) rfl
    replace h := o_neg hc8 h
    by_cases hc9 : v2 = 6
    · replace h := o_pos hc9 h
      refine lv_tableIn (pc := 17) (off := 73) (tgt := 90) hx hb dX8_bond_17 (by rw [hc9]; decide) (by rw [hc9]; decide) (by rw [hc9]; rfl) (by decide) ?_
      refine lv_aload_n (pc := 90) hx hb dX8_bond_90 rfl (lv_at hl 1 rfl) ?_
      refine gf_X8_2 (pc := 91) C hW kdc_0 fl_X8_28 dX8_bond_91 ?_
      refine lv_aload_n (pc := 94) hx hb dX8_bond_94 rfl (lv_at hl 0 rfl) ?_
      obtain ⟨r12, hc10, h⟩ := o_b h
      refine g_virt (pc := 95) (st2 := [.int r12]) (rest := []) C hW hS (c_X6_matures (K := K - 1) (by omega) kdc_15 ((ty_X6_vowAt kdc_15 hc0) q3 rfl) hc10) mw_X8_177 (kin_6 kdc_15) (Ek_6 kdc_15) rfl (hRoom (by omega) (by decide)) rfl rfl rfl (Nat.le_of_ble_eq_true rfl) hl.1 dX8_bond_95 (fun H locs hW hS => ?_)
      exact g_ret (pc := 98) C hW hS rfl dX8_bond_98 (congrArg (fun q => some (Value.int q)) (Option.some.inj h).symm) rfl
    replace h := o_neg hc9 h
    have hzhc3 := lv_neT (k := 0) (a := 0) hc3 (by decide)
    have hzhc4 := lv_neT (k := 1) (a := 1) hc4 (by decide)
    have hzhc5 := lv_neT (k := 2) (a := 2) hc5 (by decide)
    have hzhc6 := lv_neT (k := 3) (a := 3) hc6 (by decide)
    have hzhc7 := lv_neT (k := 4) (a := 4) hc7 (by decide)
    have hzhc8 := lv_neT (k := 5) (a := 5) hc8 (by decide)
    have hzhc9 := lv_neT (k := 6) (a := 6) hc9 (by decide)
    refine lv_tableOut (pc := 17) (tgt := 99) hx hb dX8_bond_17 (by omega) (by decide) ?_
    refine lv_bipush (pc := 99) (v := -7) hx hb dX8_bond_99 (by decide) ?_
    exact g_ret (pc := 101) C hW hS rfl dX8_bond_101 (congrArg (fun q => some (Value.int q)) (Option.some.inj h).symm) rfl

theorem c_X8_plaits {K : Nat}  (hK : 2 ≤ K) {σ : Mem} {σf : Mem} {v1 : Int32} {v2 : Int32} {r : Int32} (h : f_X8_plaits σ v1 v2 = some (r, σf)) : MC l D (Ec ac z) inC z ac (z, aK, aV) (Ac z) yX8_plaits cX8_plaits 5 (some .int) K [.ref (z + 0), .int v1, .int v2] σ (some (.int r)) σf := by
  refine MC.of (fun q hq => by have := hq.1; show z ≤ q; omega) (plainFor_of_name (by decide)) (Nat.le_of_ble_eq_true rfl) ?_
  intro p e s m below meth c args C hW ls hl
  replace hl : lv_has ls 5 [(0, .ref (z + 0)), (1, .int v1), (2, .int v2)] := hl
  have hS : va_S (Ac z) s.heap s.heap [] := va_S.rf
  have hx := C.1.1
  have hb := C.1.2.1
  unfold f_X8_plaits at h
  refine lv_aload_n (pc := 0) hx hb dX8_plaits_0 rfl (lv_at hl 0 rfl) ?_
  refine gf_X8_2 (pc := 1) C hW kdc_0 fl_X8_28 dX8_plaits_1 ?_
  refine lv_iload_n (pc := 4) hx hb dX8_plaits_4 rfl (lv_at hl 1 rfl) ?_
  obtain ⟨r2, hc0, h⟩ := o_b h
  refine g_virt (pc := 5) (st2 := [rv z r2]) (rest := []) C hW hS (c_X6_vowAt (K := K - 1) (by omega) kdc_15 hc0) mw_X8_153 (kin_6 kdc_15) (Ek_6 kdc_15) rfl (hRoom (by omega) (by decide)) rfl rfl rfl (Nat.le_of_ble_eq_true rfl) hl.1 dX8_plaits_5 (fun H locs hW hS => ?_)
  refine g_astoreq_n (pc := 8) (o := r2) (lv' := [(3, rv z r2), (0, .ref (z + 0)), (1, .int v1), (2, .int v2)]) C dX8_plaits_8 rfl hl (by decide) rfl (fun ls hl => ?_)
  refine lv_aload_n (pc := 9) hx hb dX8_plaits_9 rfl (lv_at hl 1 rfl) ?_
  refine gf_X8_2 (pc := 10) C hW kdc_0 fl_X8_28 dX8_plaits_10 ?_
  refine lv_iload_n (pc := 13) hx hb dX8_plaits_13 rfl (lv_at hl 3 rfl) ?_
  obtain ⟨r4, hc2, h⟩ := o_b h
  refine g_virt (pc := 14) (st2 := [rv z r4]) (rest := []) C hW hS (c_X6_vowAt (K := K - 1) (by omega) kdc_15 hc2) mw_X8_153 (kin_6 kdc_15) (Ek_6 kdc_15) rfl (hRoom (by omega) (by decide)) rfl rfl rfl (Nat.le_of_ble_eq_true rfl) hl.1 dX8_plaits_14 (fun H locs hW hS => ?_)
  refine g_astoreq (pc := 17) (o := r4) (lv' := [(4, rv z r4), (3, rv z r2), (0, .ref (z + 0)), (1, .int v1), (2, .int v2)]) C dX8_plaits_17 hl (by decide) (by cases r2 <;> rfl) (fun ls hl => ?_)
  refine g_aloadq_n (pc := 19) (o := r2) C dX8_plaits_19 rfl (lv_at hl 1 rfl) ?_
  refine g_ifnull (pc := 20) (o := r2) (tgt := 33) C dX8_plaits_20 (by decide) (fun hn => ?_) (fun q5 hn => ?_)
  · subst hn
    replace h := o_nn h
    replace hl : lv_has ls 5 [(4, rv z r4), (3, .null), (0, .ref (z + 0)), (1, .int v1), (2, .int v2)] := hl
    refine lv_bipush (pc := 33) (v := -6) hx hb dX8_plaits_33 (by decide) ?_
    exact g_ret (pc := 35) C hW hS rfl dX8_plaits_35 (congrArg (fun q => some (Value.int q)) (o_r h).1) (o_r h).2
  · subst hn
    replace h := o_ns h
    replace hl : lv_has ls 5 [(4, rv z r4), (3, .ref (z + q5)), (0, .ref (z + 0)), (1, .int v1), (2, .int v2)] := hl
    refine g_aloadq (pc := 23) (o := r4) C dX8_plaits_23 (lv_at hl 0 rfl) ?_
    refine g_ifnull (pc := 25) (o := r4) (tgt := 33) C dX8_plaits_25 (by decide) (fun hn => ?_) (fun q6 hn => ?_)
    · subst hn
      replace h := o_nn h
      replace hl : lv_has ls 5 [(4, .null), (3, .ref (z + q5)), (0, .ref (z + 0)), (1, .int v1), (2, .int v2)] := hl
      refine lv_bipush (pc := 33) (v := -6) hx hb dX8_plaits_33 (by decide) ?_
      exact g_ret (pc := 35) C hW hS rfl dX8_plaits_35 (congrArg (fun q => some (Value.int q)) (o_r h).1) (o_r h).2
    · subst hn
      replace h := o_ns h
      replace hl : lv_has ls 5 [(4, .ref (z + q6)), (3, .ref (z + q5)), (0, .ref (z + 0)), (1, .int v1), (2, .int v2)] := hl
      refine lv_iload_n (pc := 28) hx hb dX8_plaits_28 rfl (lv_at hl 3 rfl) ?_
      refine lv_iload_n (pc := 29) hx hb dX8_plaits_29 rfl (lv_at hl 4 rfl) ?_
      refine lv_icmp_ne (pc := 30) (tgt := 36) hx hb dX8_plaits_30 (by decide) (fun hc6 => ?_) (fun hc6 => ?_)
      · replace h := o_neg hc6 h
        refine lv_aload_n (pc := 36) hx hb dX8_plaits_36 rfl (lv_at hl 1 rfl) ?_
        refine gf_X7_4 (pc := 37) C hW ((ty_X6_vowAt kdc_15 hc0) q5 rfl) fl_X8_174 dX8_plaits_37 ?_
        refine lv_if_ne (pc := 40) (tgt := 66) hx hb dX8_plaits_40 (by decide) (fun hc7 => ?_) (fun hc7 => ?_)
        · replace h := o_neg hc7 h
          refine lv_bipush (pc := 66) (v := -3) hx hb dX8_plaits_66 (by decide) ?_
          exact g_ret (pc := 68) C hW hS rfl dX8_plaits_68 (congrArg (fun q => some (Value.int q)) (o_r h).1) (o_r h).2
        · replace h := o_pos hc7 h
          refine lv_aload (pc := 43) hx hb dX8_plaits_43 (lv_at hl 0 rfl) ?_
          refine gf_X7_4 (pc := 45) C hW ((ty_X6_vowAt kdc_15 hc2) q6 rfl) fl_X8_174 dX8_plaits_45 ?_
          refine lv_if_ne (pc := 48) (tgt := 66) hx hb dX8_plaits_48 (by decide) (fun hc8 => ?_) (fun hc8 => ?_)
          · replace h := o_neg hc8 h
            refine lv_bipush (pc := 66) (v := -3) hx hb dX8_plaits_66 (by decide) ?_
            exact g_ret (pc := 68) C hW hS rfl dX8_plaits_68 (congrArg (fun q => some (Value.int q)) (o_r h).1) (o_r h).2
          · replace h := o_pos hc8 h
            refine lv_aload_n (pc := 51) hx hb dX8_plaits_51 rfl (lv_at hl 1 rfl) ?_
            refine gf_X7_5 (pc := 52) C hW ((ty_X6_vowAt kdc_15 hc0) q5 rfl) fl_X8_171 dX8_plaits_52 ?_
            refine lv_if_ge (pc := 55) (tgt := 66) hx hb dX8_plaits_55 (by decide) (fun hc9 => ?_) (fun hc9 => ?_)
            · replace h := o_pos hc9 h
              refine lv_bipush (pc := 66) (v := -3) hx hb dX8_plaits_66 (by decide) ?_
              exact g_ret (pc := 68) C hW hS rfl dX8_plaits_68 (congrArg (fun q => some (Value.int q)) (o_r h).1) (o_r h).2
            · replace h := o_neg hc9 h
              refine lv_aload (pc := 58) hx hb dX8_plaits_58 (lv_at hl 0 rfl) ?_
              refine gf_X7_5 (pc := 60) C hW ((ty_X6_vowAt kdc_15 hc2) q6 rfl) fl_X8_171 dX8_plaits_60 ?_
              refine lv_if_lt (pc := 63) (tgt := 69) hx hb dX8_plaits_63 (by decide) (fun hc10 => ?_) (fun hc10 => ?_)
              · replace h := o_pos hc10 h
                refine lv_aload_n (pc := 69) hx hb dX8_plaits_69 rfl (lv_at hl 1 rfl) ?_
                refine gf_X7_0 (pc := 70) C hW ((ty_X6_vowAt kdc_15 hc0) q5 rfl) fl_X8_157 dX8_plaits_70 ?_
                refine lv_aload (pc := 73) hx hb dX8_plaits_73 (lv_at hl 0 rfl) ?_
                refine gf_X7_0 (pc := 75) C hW ((ty_X6_vowAt kdc_15 hc2) q6 rfl) fl_X8_157 dX8_plaits_75 ?_
                refine lv_icmp_eq (pc := 78) (tgt := 84) hx hb dX8_plaits_78 (by decide) (fun hc11 => ?_) (fun hc11 => ?_)
                · replace h := o_pos hc11 h
                  refine lv_aload_n (pc := 84) hx hb dX8_plaits_84 rfl (lv_at hl 1 rfl) ?_
                  refine lv_iload_n (pc := 85) hx hb dX8_plaits_85 rfl (lv_at hl 4 rfl) ?_
                  refine pf_X7_5 (pc := 86) C hW hS ((ty_X6_vowAt kdc_15 hc0) q5 rfl) fl_X8_171 dX8_plaits_86 (fun H locs hW hS => ?_)
                  refine lv_aload (pc := 89) hx hb dX8_plaits_89 (lv_at hl 0 rfl) ?_
                  refine lv_iload_n (pc := 91) hx hb dX8_plaits_91 rfl (lv_at hl 3 rfl) ?_
                  refine pf_X7_5 (pc := 92) C hW hS ((ty_X6_vowAt kdc_15 hc2) q6 rfl) fl_X8_171 dX8_plaits_92 (fun H locs hW hS => ?_)
                  refine lv_aload_n (pc := 95) hx hb dX8_plaits_95 rfl (lv_at hl 2 rfl) ?_
                  refine gf_X8_2 (pc := 96) C hW kdc_0 fl_X8_28 dX8_plaits_96 ?_
                  refine lv_aload_n (pc := 99) hx hb dX8_plaits_99 rfl (lv_at hl 1 rfl) ?_
                  obtain ⟨r14, hc12, h⟩ := o_b h
                  refine g_virt (pc := 100) (st2 := [.int r14]) (rest := []) C hW hS (c_X6_matures (K := K - 1) (by omega) kdc_15 ((ty_X6_vowAt kdc_15 hc0) q5 rfl) hc12) mw_X8_177 (kin_6 kdc_15) (Ek_6 kdc_15) rfl (hRoom (by omega) (by decide)) rfl rfl rfl (Nat.le_of_ble_eq_true rfl) hl.1 dX8_plaits_100 (fun H locs hW hS => ?_)
                  exact g_ret (pc := 103) C hW hS rfl dX8_plaits_103 (congrArg (fun q => some (Value.int q)) (o_r h).1) (o_r h).2
                · replace h := o_neg hc11 h
                  refine lv_bipush (pc := 81) (v := -3) hx hb dX8_plaits_81 (by decide) ?_
                  exact g_ret (pc := 83) C hW hS rfl dX8_plaits_83 (congrArg (fun q => some (Value.int q)) (o_r h).1) (o_r h).2
              · replace h := o_neg hc10 h
                refine lv_bipush (pc := 66) (v := -3) hx hb dX8_plaits_66 (by decide) ?_
                exact g_ret (pc := 68) C hW hS rfl dX8_plaits_68 (congrArg (fun q => some (Value.int q)) (o_r h).1) (o_r h).2
      · replace h := o_pos hc6 h
        refine lv_bipush (pc := 33) (v := -6) hx hb dX8_plaits_33 (by decide) ?_
        exact g_ret (pc := 35) C hW hS rfl dX8_plaits_35 (congrArg (fun q => some (Value.int q)) (o_r h).1) (o_r h).2

theorem c_X8_pass {K : Nat}  (hK : 1 ≤ K) {σ : Mem} {σf : Mem} {v1 : Int32} {v2 : Int32} {r : Int32} (h : f_X8_pass σ v1 v2 = some (r, σf)) : MC l D (Ec ac z) inC z ac (z, aK, aV) (Ac z) yX8_pass cX8_pass 5 (some .int) K [.ref (z + 0), .int v1, .int v2] σ (some (.int r)) σf := by
  refine MC.of (fun q hq => by have := hq.1; show z ≤ q; omega) (plainFor_of_name (by decide)) (Nat.le_of_ble_eq_true rfl) ?_
  intro p e s m below meth c args C hW ls hl
  replace hl : lv_has ls 5 [(0, .ref (z + 0)), (1, .int v1), (2, .int v2)] := hl
  have hS : va_S (Ac z) s.heap s.heap [] := va_S.rf
  have hx := C.1.1
  have hb := C.1.2.1
  unfold f_X8_pass at h
  refine lv_aload_n (pc := 0) hx hb dX8_pass_0 rfl (lv_at hl 0 rfl) ?_
  refine gf_X8_2 (pc := 1) C hW kdc_0 fl_X8_28 dX8_pass_1 ?_
  refine lv_iload_n (pc := 4) hx hb dX8_pass_4 rfl (lv_at hl 1 rfl) ?_
  obtain ⟨r2, hc0, h⟩ := o_b h
  refine g_virt (pc := 5) (st2 := [rv z r2]) (rest := []) C hW hS (c_X6_vowAt (K := K - 1) (by omega) kdc_15 hc0) mw_X8_153 (kin_6 kdc_15) (Ek_6 kdc_15) rfl (hRoom (by omega) (by decide)) rfl rfl rfl (Nat.le_of_ble_eq_true rfl) hl.1 dX8_pass_5 (fun H locs hW hS => ?_)
  refine g_astoreq_n (pc := 8) (o := r2) (lv' := [(3, rv z r2), (0, .ref (z + 0)), (1, .int v1), (2, .int v2)]) C dX8_pass_8 rfl hl (by decide) rfl (fun ls hl => ?_)
  refine g_aloadq_n (pc := 9) (o := r2) C dX8_pass_9 rfl (lv_at hl 0 rfl) ?_
  refine g_ifnonnull (pc := 10) (o := r2) (tgt := 16) C dX8_pass_10 (by decide) (fun hn => ?_) (fun q3 hn => ?_)
  · subst hn
    replace h := o_nn h
    replace hl : lv_has ls 5 [(3, .null), (0, .ref (z + 0)), (1, .int v1), (2, .int v2)] := hl
    refine lv_bipush (pc := 13) (v := -6) hx hb dX8_pass_13 (by decide) ?_
    exact g_ret (pc := 15) C hW hS rfl dX8_pass_15 (congrArg (fun q => some (Value.int q)) (o_r h).1) (o_r h).2
  · subst hn
    replace h := o_ns h
    replace hl : lv_has ls 5 [(3, .ref (z + q3)), (0, .ref (z + 0)), (1, .int v1), (2, .int v2)] := hl
    refine lv_aload_n (pc := 16) hx hb dX8_pass_16 rfl (lv_at hl 1 rfl) ?_
    refine gf_X8_2 (pc := 17) C hW kdc_0 fl_X8_28 dX8_pass_17 ?_
    refine lv_iload_n (pc := 20) hx hb dX8_pass_20 rfl (lv_at hl 3 rfl) ?_
    obtain ⟨r5, hc3, h⟩ := o_b h
    refine g_virt (pc := 21) (st2 := [rv z r5]) (rest := []) C hW hS (c_X6_manAt (K := K - 1) (by omega) kdc_15 hc3) mw_X8_109 (kin_6 kdc_15) (Ek_6 kdc_15) rfl (hRoom (by omega) (by decide)) rfl rfl rfl (Nat.le_of_ble_eq_true rfl) hl.1 dX8_pass_21 (fun H locs hW hS => ?_)
    refine g_ifnull (pc := 24) (o := r5) (tgt := 35) C dX8_pass_24 (by decide) (fun hn => ?_) (fun q6 hn => ?_)
    · subst hn
      replace h := o_nn h
      replace hl : lv_has ls 5 [(3, .ref (z + q3)), (0, .ref (z + 0)), (1, .int v1), (2, .int v2)] := hl
      refine lv_bipush (pc := 35) (v := -5) hx hb dX8_pass_35 (by decide) ?_
      exact g_ret (pc := 37) C hW hS rfl dX8_pass_37 (congrArg (fun q => some (Value.int q)) (o_r h).1) (o_r h).2
    · subst hn
      replace h := o_ns h
      replace hl : lv_has ls 5 [(3, .ref (z + q3)), (0, .ref (z + 0)), (1, .int v1), (2, .int v2)] := hl
      refine lv_aload_n (pc := 27) hx hb dX8_pass_27 rfl (lv_at hl 0 rfl) ?_
      refine gf_X7_0 (pc := 28) C hW ((ty_X6_vowAt kdc_15 hc0) q3 rfl) fl_X8_157 dX8_pass_28 ?_
      refine lv_iload_n (pc := 31) hx hb dX8_pass_31 rfl (lv_at hl 3 rfl) ?_
      refine lv_icmp_ne (pc := 32) (tgt := 38) hx hb dX8_pass_32 (by decide) (fun hc6 => ?_) (fun hc6 => ?_)
      · replace h := o_neg hc6 h
        refine lv_aload_n (pc := 38) hx hb dX8_pass_38 rfl (lv_at hl 0 rfl) ?_
        refine gf_X7_4 (pc := 39) C hW ((ty_X6_vowAt kdc_15 hc0) q3 rfl) fl_X8_174 dX8_pass_39 ?_
        refine lv_if_eq (pc := 42) (tgt := 48) hx hb dX8_pass_42 (by decide) (fun hc7 => ?_) (fun hc7 => ?_)
        · replace h := o_pos hc7 h
          refine lv_aload_n (pc := 48) hx hb dX8_pass_48 rfl (lv_at hl 0 rfl) ?_
          refine gf_X7_1 (pc := 49) C hW ((ty_X6_vowAt kdc_15 hc0) q3 rfl) fl_X8_162 dX8_pass_49 ?_
          refine lv_istore (pc := 52) (lv' := [(4, .int (σ q3 1)), (3, .ref (z + q3)), (0, .ref (z + 0)), (1, .int v1), (2, .int v2)]) hx hb dX8_pass_52 hl (by decide) rfl (fun ls hl => ?_)
          refine lv_aload_n (pc := 54) hx hb dX8_pass_54 rfl (lv_at hl 1 rfl) ?_
          refine lv_iload_n (pc := 55) hx hb dX8_pass_55 rfl (lv_at hl 4 rfl) ?_
          refine pf_X7_1 (pc := 56) C hW hS ((ty_X6_vowAt kdc_15 hc0) q3 rfl) fl_X8_162 dX8_pass_56 (fun H locs hW hS => ?_)
          refine lv_iload (pc := 59) hx hb dX8_pass_59 (lv_at hl 0 rfl) ?_
          exact g_ret (pc := 61) C hW hS rfl dX8_pass_61 (congrArg (fun q => some (Value.int q)) (o_r h).1) (o_r h).2
        · replace h := o_neg hc7 h
          refine lv_bipush (pc := 45) (v := -3) hx hb dX8_pass_45 (by decide) ?_
          exact g_ret (pc := 47) C hW hS rfl dX8_pass_47 (congrArg (fun q => some (Value.int q)) (o_r h).1) (o_r h).2
      · replace h := o_pos hc6 h
        refine lv_bipush (pc := 35) (v := -5) hx hb dX8_pass_35 (by decide) ?_
        exact g_ret (pc := 37) C hW hS rfl dX8_pass_37 (congrArg (fun q => some (Value.int q)) (o_r h).1) (o_r h).2

theorem c_X8_live {K : Nat}  (hK : 5 ≤ K) {σ : Mem} {σf : Mem} {r : Int32} (h : f_X8_live σ = some (r, σf)) : MC l D (Ec ac z) inC z ac (z, aK, aV) (Ac z) yX8_live cX8_live 1 (some .int) K [.ref (z + 0)] σ (some (.int r)) σf := by
  refine MC.of (fun q hq => by have := hq.1; show z ≤ q; omega) (plainFor_of_name (by decide)) (Nat.le_of_ble_eq_true rfl) ?_
  intro p e s m below meth c args C hW ls hl
  replace hl : lv_has ls 1 [(0, .ref (z + 0))] := hl
  have hS : va_S (Ac z) s.heap s.heap [] := va_S.rf
  have hx := C.1.1
  have hb := C.1.2.1
  unfold f_X8_live at h
  refine lv_aload_n (pc := 0) hx hb dX8_live_0 rfl (lv_at hl 0 rfl) ?_
  refine gf_X8_2 (pc := 1) C hW kdc_0 fl_X8_28 dX8_live_1 ?_
  refine gf_X6_5 (pc := 4) C hW kdc_15 fl_X8_73 dX8_live_4 ?_
  refine lv_sipush (pc := 7) (v := 999) hx hb dX8_live_7 (by decide) ?_
  refine lv_icmp_lt (pc := 10) (tgt := 16) hx hb dX8_live_10 (by decide) (fun hc0 => ?_) (fun hc0 => ?_)
  · replace h := o_pos hc0 h
    refine lv_aload_n (pc := 16) hx hb dX8_live_16 rfl (lv_at hl 0 rfl) ?_
    refine gf_X8_2 (pc := 17) C hW kdc_0 fl_X8_28 dX8_live_17 ?_
    refine g_virt (pc := 20) (st2 := []) (rest := []) C hW hS (c_X6_startTally (K := K - 1) (by omega) kdc_15 rfl) mw_X8_181 (kin_6 kdc_15) (Ek_6 kdc_15) rfl (hRoom (by omega) (by decide)) rfl rfl rfl (Nat.le_of_ble_eq_true rfl) hl.1 dX8_live_20 (fun H locs hW hS => ?_)
    obtain ⟨σ2, hσ2, h⟩ := o_d h
    replace hW : WC D ac z σ2 H := by rw [← hσ2]; exact hW
    refine lv_aload_n (pc := 23) hx hb dX8_live_23 rfl (lv_at hl 0 rfl) ?_
    refine gf_X8_2 (pc := 24) C hW kdc_0 fl_X8_28 dX8_live_24 ?_
    refine lv_iconst (pc := 27) (v := 0) hx hb dX8_live_27 (by decide) ?_
    obtain ⟨σ4, hc2, h⟩ := o_b h
    refine g_virt (pc := 28) (st2 := []) (rest := []) C hW hS (c_X6_liveWeek (K := K - 1) (by omega) kdc_15 hc2) mw_X8_184 (kin_6 kdc_15) (Ek_6 kdc_15) rfl (hRoom (by omega) (by decide)) rfl rfl rfl (Nat.le_of_ble_eq_true rfl) hl.1 dX8_live_28 (fun H locs hW hS => ?_)
    refine lv_aload_n (pc := 31) hx hb dX8_live_31 rfl (lv_at hl 0 rfl) ?_
    refine gf_X8_2 (pc := 32) C hW kdc_0 fl_X8_28 dX8_live_32 ?_
    refine gf_X6_7 (pc := 35) C hW kdc_15 fl_X8_187 dX8_live_35 ?_
    exact g_ret (pc := 38) C hW hS rfl dX8_live_38 (congrArg (fun q => some (Value.int q)) (o_r h).1) (o_r h).2
  · replace h := o_neg hc0 h
    refine lv_bipush (pc := 13) (v := -4) hx hb dX8_live_13 (by decide) ?_
    exact g_ret (pc := 15) C hW hS rfl dX8_live_15 (congrArg (fun q => some (Value.int q)) (o_r h).1) (o_r h).2

theorem c_X8_ofSeason {K : Nat}  (hK : 1 ≤ K) {σ : Mem} {v1 : Int32} {r : Int32} (h : f_X8_ofSeason σ v1 = some r) : MC l D (Ec ac z) inC z ac (z, aK, aV) (Ac z) yX8_ofSeason cX8_ofSeason 4 (some .int) K [.ref (z + 0), .int v1] σ (some (.int r)) σ := by
  refine MC.of (fun q hq => by have := hq.1; show z ≤ q; omega) (plainFor_of_name (by decide)) (Nat.le_of_ble_eq_true rfl) ?_
  intro p e s m below meth c args C hW ls hl
  replace hl : lv_has ls 4 [(0, .ref (z + 0)), (1, .int v1)] := hl
  have hS : va_S (Ac z) s.heap s.heap [] := va_S.rf
  have hx := C.1.1
  have hb := C.1.2.1
  unfold f_X8_ofSeason at h
  refine lv_iload_n (pc := 0) hx hb dX8_ofSeason_0 rfl (lv_at hl 1 rfl) ?_
  by_cases hc0 : v1 = 0
  · replace h := o_pos hc0 h
    refine lv_tableIn (pc := 1) (off := 35) (tgt := 36) hx hb dX8_ofSeason_1 (by rw [hc0]; decide) (by rw [hc0]; decide) (by rw [hc0]; rfl) (by decide) ?_
    refine lv_aload_n (pc := 36) hx hb dX8_ofSeason_36 rfl (lv_at hl 0 rfl) ?_
    refine gf_X8_3 (pc := 37) C hW kdc_0 fl_X8_32 dX8_ofSeason_37 ?_
    refine gf_X6_7 (pc := 40) C hW kdc_32 fl_X8_187 dX8_ofSeason_40 ?_
    exact g_ret (pc := 43) C hW hS rfl dX8_ofSeason_43 (congrArg (fun q => some (Value.int q)) (Option.some.inj h).symm) rfl
  replace h := o_neg hc0 h
  by_cases hc1 : v1 = 1
  · replace h := o_pos hc1 h
    refine lv_tableIn (pc := 1) (off := 43) (tgt := 44) hx hb dX8_ofSeason_1 (by rw [hc1]; decide) (by rw [hc1]; decide) (by rw [hc1]; rfl) (by decide) ?_
    refine lv_aload_n (pc := 44) hx hb dX8_ofSeason_44 rfl (lv_at hl 0 rfl) ?_
    refine gf_X8_3 (pc := 45) C hW kdc_0 fl_X8_32 dX8_ofSeason_45 ?_
    refine gf_X6_8 (pc := 48) C hW kdc_32 fl_X8_197 dX8_ofSeason_48 ?_
    exact g_ret (pc := 51) C hW hS rfl dX8_ofSeason_51 (congrArg (fun q => some (Value.int q)) (Option.some.inj h).symm) rfl
  replace h := o_neg hc1 h
  by_cases hc2 : v1 = 2
  · replace h := o_pos hc2 h
    refine lv_tableIn (pc := 1) (off := 51) (tgt := 52) hx hb dX8_ofSeason_1 (by rw [hc2]; decide) (by rw [hc2]; decide) (by rw [hc2]; rfl) (by decide) ?_
    refine lv_aload_n (pc := 52) hx hb dX8_ofSeason_52 rfl (lv_at hl 0 rfl) ?_
    refine gf_X8_3 (pc := 53) C hW kdc_0 fl_X8_32 dX8_ofSeason_53 ?_
    refine gf_X6_9 (pc := 56) C hW kdc_32 fl_X8_200 dX8_ofSeason_56 ?_
    exact g_ret (pc := 59) C hW hS rfl dX8_ofSeason_59 (congrArg (fun q => some (Value.int q)) (Option.some.inj h).symm) rfl
  replace h := o_neg hc2 h
  by_cases hc3 : v1 = 3
  · replace h := o_pos hc3 h
    refine lv_tableIn (pc := 1) (off := 59) (tgt := 60) hx hb dX8_ofSeason_1 (by rw [hc3]; decide) (by rw [hc3]; decide) (by rw [hc3]; rfl) (by decide) ?_
    refine lv_aload_n (pc := 60) hx hb dX8_ofSeason_60 rfl (lv_at hl 0 rfl) ?_
    refine gf_X8_3 (pc := 61) C hW kdc_0 fl_X8_32 dX8_ofSeason_61 ?_
    refine gf_X6_10 (pc := 64) C hW kdc_32 fl_X8_203 dX8_ofSeason_64 ?_
    exact g_ret (pc := 67) C hW hS rfl dX8_ofSeason_67 (congrArg (fun q => some (Value.int q)) (Option.some.inj h).symm) rfl
  replace h := o_neg hc3 h
  by_cases hc4 : v1 = 4
  · replace h := o_pos hc4 h
    refine lv_tableIn (pc := 1) (off := 67) (tgt := 68) hx hb dX8_ofSeason_1 (by rw [hc4]; decide) (by rw [hc4]; decide) (by rw [hc4]; rfl) (by decide) ?_
    refine lv_aload_n (pc := 68) hx hb dX8_ofSeason_68 rfl (lv_at hl 0 rfl) ?_
    refine gf_X8_3 (pc := 69) C hW kdc_0 fl_X8_32 dX8_ofSeason_69 ?_
    refine gf_X6_11 (pc := 72) C hW kdc_32 fl_X8_206 dX8_ofSeason_72 ?_
    exact g_ret (pc := 75) C hW hS rfl dX8_ofSeason_75 (congrArg (fun q => some (Value.int q)) (Option.some.inj h).symm) rfl
  replace h := o_neg hc4 h
  have hzhc0 := lv_neT (k := 0) (a := 0) hc0 (by decide)
  have hzhc1 := lv_neT (k := 1) (a := 1) hc1 (by decide)
  have hzhc2 := lv_neT (k := 2) (a := 2) hc2 (by decide)
  have hzhc3 := lv_neT (k := 3) (a := 3) hc3 (by decide)
  have hzhc4 := lv_neT (k := 4) (a := 4) hc4 (by decide)
  refine lv_tableOut (pc := 1) (tgt := 76) hx hb dX8_ofSeason_1 (by omega) (by decide) ?_
  refine lv_aload_n (pc := 76) hx hb dX8_ofSeason_76 rfl (lv_at hl 0 rfl) ?_
  refine gf_X8_3 (pc := 77) C hW kdc_0 fl_X8_32 dX8_ofSeason_77 ?_
  refine lv_iload_n (pc := 80) hx hb dX8_ofSeason_80 rfl (lv_at hl 1 rfl) ?_
  refine lv_bipush (pc := 81) (v := 10) hx hb dX8_ofSeason_81 (by decide) ?_
  refine lv_isub (pc := 83) hx hb dX8_ofSeason_83 ?_
  obtain ⟨r7, hc5, h⟩ := o_b h
  refine g_virt (pc := 84) (st2 := [rv z r7]) (rest := []) C hW hS (c_X6_manAt (K := K - 1) (by omega) kdc_32 hc5) mw_X8_109 (kin_6 kdc_32) (Ek_6 kdc_32) rfl (hRoom (by omega) (by decide)) rfl rfl rfl (Nat.le_of_ble_eq_true rfl) hl.1 dX8_ofSeason_84 (fun H locs hW hS => ?_)
  refine g_astoreq_n (pc := 87) (o := r7) (lv' := [(2, rv z r7), (0, .ref (z + 0)), (1, .int v1)]) C dX8_ofSeason_87 rfl hl (by decide) rfl (fun ls hl => ?_)
  refine g_aloadq_n (pc := 88) (o := r7) C dX8_ofSeason_88 rfl (lv_at hl 0 rfl) ?_
  refine g_ifnull (pc := 89) (o := r7) (tgt := 97) C dX8_ofSeason_89 (by decide) (fun hn => ?_) (fun q8 hn => ?_)
  · subst hn
    replace h := o_nn h
    replace hl : lv_has ls 4 [(2, .null), (0, .ref (z + 0)), (1, .int v1)] := hl
    refine lv_aload_n (pc := 97) hx hb dX8_ofSeason_97 rfl (lv_at hl 1 rfl) ?_
    refine gf_X8_3 (pc := 98) C hW kdc_0 fl_X8_32 dX8_ofSeason_98 ?_
    refine lv_iload_n (pc := 101) hx hb dX8_ofSeason_101 rfl (lv_at hl 2 rfl) ?_
    refine lv_bipush (pc := 102) (v := 20) hx hb dX8_ofSeason_102 (by decide) ?_
    refine lv_isub (pc := 104) hx hb dX8_ofSeason_104 ?_
    obtain ⟨r10, hc8, h⟩ := o_b h
    refine g_virt (pc := 105) (st2 := [rv z r10]) (rest := []) C hW hS (c_X6_vowAt (K := K - 1) (by omega) kdc_32 hc8) mw_X8_153 (kin_6 kdc_32) (Ek_6 kdc_32) rfl (hRoom (by omega) (by decide)) rfl rfl rfl (Nat.le_of_ble_eq_true rfl) hl.1 dX8_ofSeason_105 (fun H locs hW hS => ?_)
    refine g_astoreq_n (pc := 108) (o := r10) (lv' := [(3, rv z r10), (2, .null), (0, .ref (z + 0)), (1, .int v1)]) C dX8_ofSeason_108 rfl hl (by decide) rfl (fun ls hl => ?_)
    refine g_aloadq_n (pc := 109) (o := r10) C dX8_ofSeason_109 rfl (lv_at hl 0 rfl) ?_
    refine g_ifnonnull (pc := 110) (o := r10) (tgt := 118) C dX8_ofSeason_110 (by decide) (fun hn => ?_) (fun q11 hn => ?_)
    · subst hn
      replace h := o_nn h
      replace hl : lv_has ls 4 [(3, .null), (2, .null), (0, .ref (z + 0)), (1, .int v1)] := hl
      refine lv_bipush (pc := 113) (v := -7) hx hb dX8_ofSeason_113 (by decide) ?_
      refine lv_goto (pc := 115) (tgt := 122) hx hb dX8_ofSeason_115 (by decide) ?_
      exact g_ret (pc := 122) C hW hS rfl dX8_ofSeason_122 (congrArg (fun q => some (Value.int q)) (Option.some.inj h).symm) rfl
    · subst hn
      replace h := o_ns h
      replace hl : lv_has ls 4 [(3, .ref (z + q11)), (2, .null), (0, .ref (z + 0)), (1, .int v1)] := hl
      refine lv_aload_n (pc := 118) hx hb dX8_ofSeason_118 rfl (lv_at hl 0 rfl) ?_
      refine gf_X7_4 (pc := 119) C hW ((ty_X6_vowAt kdc_32 hc8) q11 rfl) fl_X8_174 dX8_ofSeason_119 ?_
      exact g_ret (pc := 122) C hW hS rfl dX8_ofSeason_122 (congrArg (fun q => some (Value.int q)) (Option.some.inj h).symm) rfl
  · subst hn
    replace h := o_ns h
    replace hl : lv_has ls 4 [(2, .ref (z + q8)), (0, .ref (z + 0)), (1, .int v1)] := hl
    refine lv_aload_n (pc := 92) hx hb dX8_ofSeason_92 rfl (lv_at hl 0 rfl) ?_
    refine gf_X1_2 (pc := 93) C hW ((ty_X6_manAt kdc_32 hc5) q8 rfl) fl_X8_125 dX8_ofSeason_93 ?_
    exact g_ret (pc := 96) C hW hS rfl dX8_ofSeason_96 (congrArg (fun q => some (Value.int q)) (Option.some.inj h).symm) rfl

theorem w_X8_run_b33 (C : CX cX8_run 4 RX8 (some .int) D ac p m c s args meth (z, aK, aV) (Ac z)) (hK : 5 ≤ K) {r : Int32} {σf : Mem}   (v1 : Int32) (v2 : Int32)  : ∀ (n : Nat) (σ : Mem) (v3 : Int32) {H : Heap} {locs : List Loc} {ls : Array Slot} (hW : WC D ac z σ H) (hS : va_S (Ac z) s.heap H locs) (hl : lv_has ls 4 [(0, .ref (z + 0)), (1, .int v1), (2, .int v2), (3, .int v3)]) (h : f_X8_run_b33 v1 v2 n σ v3 = some (r, σf)), W p l e (rma K 0 0) s m args below meth c H locs 0 0 (MQ below (QV D (Ec ac z) inC z (some (.int r)) σf (Ac z)) args s 0 0 (Ac z)) (F0 m 33 ls []) := by
  have hx := C.1.1
  have hb := C.1.2.1
  intro n
  induction n with
  | zero =>
    intro σ v3 H locs ls  hW hS hl h
    cases h
  | succ n ih =>
    intro σ v3 H locs ls  hW hS hl h
    rw [f_X8_run_b33.eq_2] at h
    refine lv_iload_n (pc := 33) hx hb dX8_run_33 rfl (lv_at hl 3 rfl) ?_
    refine lv_iload_n (pc := 34) hx hb dX8_run_34 rfl (lv_at hl 1 rfl) ?_
    refine lv_icmp_ge (pc := 35) (tgt := 52) hx hb dX8_run_35 (by decide) (fun hc5 => ?_) (fun hc5 => ?_)
    · replace h := o_pos hc5 h
      refine lv_aload_n (pc := 52) hx hb dX8_run_52 rfl (lv_at hl 0 rfl) ?_
      refine lv_iload_n (pc := 53) hx hb dX8_run_53 rfl (lv_at hl 2 rfl) ?_
      obtain ⟨r8, hc6, h⟩ := o_b h
      refine g_virt (pc := 54) (st2 := [.int r8]) (rest := []) C hW hS (c_X8_ofSeason (K := K - 1) (by omega) hc6) mw_X8_194 (kin_0 kdc_0) (Ek_0 kdc_0) rfl (hRoom (by omega) (by decide)) rfl rfl rfl (Nat.le_of_ble_eq_true rfl) hl.1 dX8_run_54 (fun H locs hW hS => ?_)
      exact g_ret (pc := 57) C hW hS rfl dX8_run_57 (congrArg (fun q => some (Value.int q)) (o_r h).1) (o_r h).2
    · replace h := o_neg hc5 h
      refine lv_aload_n (pc := 38) hx hb dX8_run_38 rfl (lv_at hl 0 rfl) ?_
      refine gf_X8_3 (pc := 39) C hW kdc_0 fl_X8_32 dX8_run_39 ?_
      refine lv_iload_n (pc := 42) hx hb dX8_run_42 rfl (lv_at hl 3 rfl) ?_
      obtain ⟨σ10, hc8, h⟩ := o_b h
      refine g_virt (pc := 43) (st2 := []) (rest := []) C hW hS (c_X6_liveWeek (K := K - 1) (by omega) kdc_32 hc8) mw_X8_184 (kin_6 kdc_32) (Ek_6 kdc_32) rfl (hRoom (by omega) (by decide)) rfl rfl rfl (Nat.le_of_ble_eq_true rfl) hl.1 dX8_run_43 (fun H locs hW hS => ?_)
      refine lv_iinc (pc := 46) (v := (v3 + 1)) (lv' := [(3, .int (v3 + 1)), (0, .ref (z + 0)), (1, .int v1), (2, .int v2)]) hx hb dX8_run_46 hl (k := 3) rfl rfl (by decide) rfl (fun ls hl => ?_)
      refine lv_goto (pc := 49) (tgt := 33) hx hb dX8_run_49 (by decide) ?_
      exact ih σ10 (v3 + 1) hW hS (lv_sub hl [1, 2, 3, 0] rfl) h

theorem c_X8_run {K : Nat}  (hK : 5 ≤ K) {σ : Mem} {σf : Mem} {v1 : Int32} {v2 : Int32} {r : Int32} (h : f_X8_run σ v1 v2 = some (r, σf)) : MC l D (Ec ac z) inC z ac (z, aK, aV) (Ac z) yX8_run cX8_run 4 (some .int) K [.ref (z + 0), .int v1, .int v2] σ (some (.int r)) σf := by
  refine MC.of (fun q hq => by have := hq.1; show z ≤ q; omega) (plainFor_of_name (by decide)) (Nat.le_of_ble_eq_true rfl) ?_
  intro p e s m below meth c args C hW ls hl
  replace hl : lv_has ls 4 [(0, .ref (z + 0)), (1, .int v1), (2, .int v2)] := hl
  have hS : va_S (Ac z) s.heap s.heap [] := va_S.rf
  have hx := C.1.1
  have hb := C.1.2.1
  unfold f_X8_run at h
  refine lv_iload_n (pc := 0) hx hb dX8_run_0 rfl (lv_at hl 1 rfl) ?_
  refine lv_if_lt (pc := 1) (tgt := 10) hx hb dX8_run_1 (by decide) (fun hc0 => ?_) (fun hc0 => ?_)
  · replace h := o_pos hc0 h
    refine lv_bipush (pc := 10) (v := -2) hx hb dX8_run_10 (by decide) ?_
    exact g_ret (pc := 12) C hW hS rfl dX8_run_12 (congrArg (fun q => some (Value.int q)) (o_r h).1) (o_r h).2
  · replace h := o_neg hc0 h
    refine lv_iload_n (pc := 4) hx hb dX8_run_4 rfl (lv_at hl 1 rfl) ?_
    refine lv_bipush (pc := 5) (v := 60) hx hb dX8_run_5 (by decide) ?_
    refine lv_icmp_le (pc := 7) (tgt := 13) hx hb dX8_run_7 (by decide) (fun hc1 => ?_) (fun hc1 => ?_)
    · replace h := o_pos hc1 h
      refine lv_aload_n (pc := 13) hx hb dX8_run_13 rfl (lv_at hl 0 rfl) ?_
      refine gf_X8_3 (pc := 14) C hW kdc_0 fl_X8_32 dX8_run_14 ?_
      refine lv_aload_n (pc := 17) hx hb dX8_run_17 rfl (lv_at hl 0 rfl) ?_
      refine gf_X8_2 (pc := 18) C hW kdc_0 fl_X8_28 dX8_run_18 ?_
      obtain ⟨σ4, hc2, h⟩ := o_b h
      refine g_virt (pc := 21) (st2 := []) (rest := []) C hW hS (c_X6_become (K := K - 1) (by omega) kdc_32 kdc_15 hc2) mw_X8_190 (kin_6 kdc_32) (Ek_6 kdc_32) rfl (hRoom (by omega) (by decide)) rfl rfl rfl (Nat.le_of_ble_eq_true rfl) hl.1 dX8_run_21 (fun H locs hW hS => ?_)
      refine lv_aload_n (pc := 24) hx hb dX8_run_24 rfl (lv_at hl 0 rfl) ?_
      refine gf_X8_3 (pc := 25) C hW kdc_0 fl_X8_32 dX8_run_25 ?_
      refine g_virt (pc := 28) (st2 := []) (rest := []) C hW hS (c_X6_startTally (K := K - 1) (by omega) kdc_32 rfl) mw_X8_181 (kin_6 kdc_32) (Ek_6 kdc_32) rfl (hRoom (by omega) (by decide)) rfl rfl rfl (Nat.le_of_ble_eq_true rfl) hl.1 dX8_run_28 (fun H locs hW hS => ?_)
      obtain ⟨σ5, hσ5, h⟩ := o_d h
      replace hW : WC D ac z σ5 H := by rw [← hσ5]; exact hW
      refine lv_iconst (pc := 31) (v := 0) hx hb dX8_run_31 (by decide) ?_
      refine lv_istore_n (pc := 32) (lv' := [(3, .int (0 : Int32)), (0, .ref (z + 0)), (1, .int v1), (2, .int v2)]) hx hb dX8_run_32 rfl hl (by decide) rfl (fun ls hl => ?_)
      exact w_X8_run_b33 C hK v1 v2 FU σ5 (0 : Int32) hW hS (lv_sub hl [1, 2, 3, 0] rfl) h
    · replace h := o_neg hc1 h
      refine lv_bipush (pc := 10) (v := -2) hx hb dX8_run_10 (by decide) ?_
      exact g_ret (pc := 12) C hW hS rfl dX8_run_12 (congrArg (fun q => some (Value.int q)) (o_r h).1) (o_r h).2

theorem w_X8_ripeWeek_b11 (C : CX cX8_ripeWeek 5 RX8 (some .int) D ac p m c s args meth (z, aK, aV) (Ac z)) (hK : 4 ≤ K) {r : Int32} {σf : Mem}   (v2 : Int32) (v3 : Int32)  : ∀ (n : Nat) (σ : Mem) (v4 : Int32) {H : Heap} {locs : List Loc} {ls : Array Slot} (hW : WC D ac z σ H) (hS : va_S (Ac z) s.heap H locs) (hl : lv_has ls 5 [(0, .ref (z + 0)), (2, .int v2), (3, .int v3), (4, .int v4)]) (h : f_X8_ripeWeek_b11 v2 v3 n σ v4 = some (r, σf)), W p l e (rma K 0 0) s m args below meth c H locs 0 0 (MQ below (QV D (Ec ac z) inC z (some (.int r)) σf (Ac z)) args s 0 0 (Ac z)) (F0 m 11 ls []) := by
  have hx := C.1.1
  have hb := C.1.2.1
  intro n
  induction n with
  | zero =>
    intro σ v4 H locs ls  hW hS hl h
    cases h
  | succ n ih =>
    intro σ v4 H locs ls  hW hS hl h
    rw [f_X8_ripeWeek_b11.eq_2] at h
    refine lv_iload (pc := 11) hx hb dX8_ripeWeek_11 (lv_at hl 3 rfl) ?_
    refine lv_bipush (pc := 13) (v := 60) hx hb dX8_ripeWeek_13 (by decide) ?_
    refine lv_icmp_ge (pc := 15) (tgt := 74) hx hb dX8_ripeWeek_15 (by decide) (fun hc2 => ?_) (fun hc2 => ?_)
    · replace h := o_pos hc2 h
      refine lv_iconst (pc := 74) (v := -1) hx hb dX8_ripeWeek_74 (by decide) ?_
      exact g_ret (pc := 75) C hW hS rfl dX8_ripeWeek_75 (congrArg (fun q => some (Value.int q)) (o_r h).1) (o_r h).2
    · replace h := o_neg hc2 h
      refine lv_aload_n (pc := 18) hx hb dX8_ripeWeek_18 rfl (lv_at hl 0 rfl) ?_
      refine gf_X8_7 (pc := 19) C hW kdc_0 fl_X8_52 dX8_ripeWeek_19 ?_
      refine lv_aload_n (pc := 22) hx hb dX8_ripeWeek_22 rfl (lv_at hl 0 rfl) ?_
      refine gf_X8_0 (pc := 23) C hW kdc_0 fl_X8_10 dX8_ripeWeek_23 ?_
      refine lv_aload_n (pc := 26) hx hb dX8_ripeWeek_26 rfl (lv_at hl 0 rfl) ?_
      refine gf_X8_2 (pc := 27) C hW kdc_0 fl_X8_28 dX8_ripeWeek_27 ?_
      refine gf_X6_6 (pc := 30) C hW kdc_15 fl_X8_79 dX8_ripeWeek_30 ?_
      refine lv_aload_n (pc := 33) hx hb dX8_ripeWeek_33 rfl (lv_at hl 0 rfl) ?_
      refine gf_X8_7 (pc := 34) C hW kdc_0 fl_X8_52 dX8_ripeWeek_34 ?_
      refine lv_aload_n (pc := 37) hx hb dX8_ripeWeek_37 rfl (lv_at hl 0 rfl) ?_
      refine gf_X8_2 (pc := 38) C hW kdc_0 fl_X8_28 dX8_ripeWeek_38 ?_
      refine gf_X6_5 (pc := 41) C hW kdc_15 fl_X8_73 dX8_ripeWeek_41 ?_
      refine lv_iload (pc := 44) hx hb dX8_ripeWeek_44 (lv_at hl 3 rfl) ?_
      refine lv_iadd (pc := 46) hx hb dX8_ripeWeek_46 ?_
      refine lv_iload_n (pc := 47) hx hb dX8_ripeWeek_47 rfl (lv_at hl 2 rfl) ?_
      obtain ⟨r5, σ6, hc3, h⟩ := o_b2 h
      refine g_virt (pc := 48) (st2 := [.int r5, .ref (z + 75)]) (rest := [.ref (z + 75)]) C hW hS (c_X3_grown (K := K - 1) (by omega) kdc_75 hc3) mw_X8_216 (kin_1 kdc_1) (Ek_1 kdc_1) rfl (hRoom (by omega) (by decide)) rfl rfl rfl (Nat.le_of_ble_eq_true rfl) hl.1 dX8_ripeWeek_48 (fun H locs hW hS => ?_)
      refine pf_X1_2 (pc := 51) C hW hS kdc_75 fl_X8_125 dX8_ripeWeek_51 (fun H locs hW hS => ?_)
      refine lv_aload_n (pc := 54) hx hb dX8_ripeWeek_54 rfl (lv_at hl 0 rfl) ?_
      refine gf_X8_7 (pc := 55) C hW kdc_0 fl_X8_52 dX8_ripeWeek_55 ?_
      refine g_virt (pc := 58) (st2 := [.int (f_X1_counts (ms σ6 75 2 r5) 75)]) (rest := []) C hW hS (c_X1_counts (K := K - 1) (by omega) kdc_75 rfl) mw_X8_143 (kin_9 kdc_75) (Ek_9 kdc_75) rfl (hRoom (by omega) (by decide)) rfl rfl rfl (Nat.le_of_ble_eq_true rfl) hl.1 dX8_ripeWeek_58 (fun H locs hW hS => ?_)
      refine lv_iload_n (pc := 61) hx hb dX8_ripeWeek_61 rfl (lv_at hl 1 rfl) ?_
      refine lv_icmp_lt (pc := 62) (tgt := 68) hx hb dX8_ripeWeek_62 (by decide) (fun hc6 => ?_) (fun hc6 => ?_)
      · replace h := o_pos hc6 h
        refine lv_iinc (pc := 68) (v := (v4 + 1)) (lv' := [(4, .int (v4 + 1)), (0, .ref (z + 0)), (2, .int v2), (3, .int v3)]) hx hb dX8_ripeWeek_68 hl (k := 3) rfl rfl (by decide) rfl (fun ls hl => ?_)
        refine lv_goto (pc := 71) (tgt := 11) hx hb dX8_ripeWeek_71 (by decide) ?_
        exact ih (ms σ6 75 2 r5) (v4 + 1) hW hS (lv_sub hl [1, 2, 3, 0] rfl) h
      · replace h := o_neg hc6 h
        refine lv_iload (pc := 65) hx hb dX8_ripeWeek_65 (lv_at hl 3 rfl) ?_
        exact g_ret (pc := 67) C hW hS rfl dX8_ripeWeek_67 (congrArg (fun q => some (Value.int q)) (o_r h).1) (o_r h).2

theorem c_X8_ripeWeek {K : Nat}  (hK : 4 ≤ K) {σ : Mem} {σf : Mem} {v1 : Nat} {v2 : Int32} {v3 : Int32} {r : Int32} (hk1 : kd v1 = 9) (h : f_X8_ripeWeek σ v1 v2 v3 = some (r, σf)) : MC l D (Ec ac z) inC z ac (z, aK, aV) (Ac z) yX8_ripeWeek cX8_ripeWeek 5 (some .int) K [.ref (z + 0), .ref (z + v1), .int v2, .int v3] σ (some (.int r)) σf := by
  refine MC.of (fun q hq => by have := hq.1; show z ≤ q; omega) (plainFor_of_name (by decide)) (Nat.le_of_ble_eq_true rfl) ?_
  intro p e s m below meth c args C hW ls hl
  replace hl : lv_has ls 5 [(0, .ref (z + 0)), (1, .ref (z + v1)), (2, .int v2), (3, .int v3)] := hl
  have hS : va_S (Ac z) s.heap s.heap [] := va_S.rf
  have hx := C.1.1
  have hb := C.1.2.1
  unfold f_X8_ripeWeek at h
  refine lv_aload_n (pc := 0) hx hb dX8_ripeWeek_0 rfl (lv_at hl 0 rfl) ?_
  refine gf_X8_7 (pc := 1) C hW kdc_0 fl_X8_52 dX8_ripeWeek_1 ?_
  refine lv_aload_n (pc := 4) hx hb dX8_ripeWeek_4 rfl (lv_at hl 1 rfl) ?_
  obtain ⟨σ2, hc0, h⟩ := o_b h
  refine g_virt (pc := 5) (st2 := []) (rest := []) C hW hS (c_X1_become (K := K - 1) (by omega) kdc_75 (fun k hk => by cases hk; exact hk1) hc0) mw_X8_213 (kin_9 kdc_75) (Ek_9 kdc_75) rfl (hRoom (by omega) (by decide)) rfl rfl rfl (Nat.le_of_ble_eq_true rfl) hl.1 dX8_ripeWeek_5 (fun H locs hW hS => ?_)
  refine lv_iconst (pc := 8) (v := 0) hx hb dX8_ripeWeek_8 (by decide) ?_
  refine lv_istore (pc := 9) (lv' := [(4, .int (0 : Int32)), (0, .ref (z + 0)), (1, .ref (z + v1)), (2, .int v2), (3, .int v3)]) hx hb dX8_ripeWeek_9 hl (by decide) rfl (fun ls hl => ?_)
  exact w_X8_ripeWeek_b11 C hK v2 v3 FU σ2 (0 : Int32) hW hS (lv_sub hl [1, 3, 4, 0] rfl) h

theorem c_X8_ripe {K : Nat}  (hK : 5 ≤ K) {σ : Mem} {σf : Mem} {v1 : Int32} {v2 : Int32} {r : Int32} (h : f_X8_ripe σ v1 v2 = some (r, σf)) : MC l D (Ec ac z) inC z ac (z, aK, aV) (Ac z) yX8_ripe cX8_ripe 4 (some .int) K [.ref (z + 0), .int v1, .int v2] σ (some (.int r)) σf := by
  refine MC.of (fun q hq => by have := hq.1; show z ≤ q; omega) (plainFor_of_name (by decide)) (Nat.le_of_ble_eq_true rfl) ?_
  intro p e s m below meth c args C hW ls hl
  replace hl : lv_has ls 4 [(0, .ref (z + 0)), (1, .int v1), (2, .int v2)] := hl
  have hS : va_S (Ac z) s.heap s.heap [] := va_S.rf
  have hx := C.1.1
  have hb := C.1.2.1
  unfold f_X8_ripe at h
  refine lv_aload_n (pc := 0) hx hb dX8_ripe_0 rfl (lv_at hl 0 rfl) ?_
  refine gf_X8_2 (pc := 1) C hW kdc_0 fl_X8_28 dX8_ripe_1 ?_
  refine lv_iload_n (pc := 4) hx hb dX8_ripe_4 rfl (lv_at hl 1 rfl) ?_
  obtain ⟨r2, hc0, h⟩ := o_b h
  refine g_virt (pc := 5) (st2 := [rv z r2]) (rest := []) C hW hS (c_X6_manAt (K := K - 1) (by omega) kdc_15 hc0) mw_X8_109 (kin_6 kdc_15) (Ek_6 kdc_15) rfl (hRoom (by omega) (by decide)) rfl rfl rfl (Nat.le_of_ble_eq_true rfl) hl.1 dX8_ripe_5 (fun H locs hW hS => ?_)
  refine g_astoreq_n (pc := 8) (o := r2) (lv' := [(3, rv z r2), (0, .ref (z + 0)), (1, .int v1), (2, .int v2)]) C dX8_ripe_8 rfl hl (by decide) rfl (fun ls hl => ?_)
  refine g_aloadq_n (pc := 9) (o := r2) C dX8_ripe_9 rfl (lv_at hl 0 rfl) ?_
  refine g_ifnonnull (pc := 10) (o := r2) (tgt := 16) C dX8_ripe_10 (by decide) (fun hn => ?_) (fun q3 hn => ?_)
  · subst hn
    replace h := o_nn h
    replace hl : lv_has ls 4 [(3, .null), (0, .ref (z + 0)), (1, .int v1), (2, .int v2)] := hl
    refine lv_bipush (pc := 13) (v := -5) hx hb dX8_ripe_13 (by decide) ?_
    exact g_ret (pc := 15) C hW hS rfl dX8_ripe_15 (congrArg (fun q => some (Value.int q)) (o_r h).1) (o_r h).2
  · subst hn
    replace h := o_ns h
    replace hl : lv_has ls 4 [(3, .ref (z + q3)), (0, .ref (z + 0)), (1, .int v1), (2, .int v2)] := hl
    refine lv_iload_n (pc := 16) hx hb dX8_ripe_16 rfl (lv_at hl 3 rfl) ?_
    refine lv_if_lt (pc := 17) (tgt := 27) hx hb dX8_ripe_17 (by decide) (fun hc3 => ?_) (fun hc3 => ?_)
    · replace h := o_pos hc3 h
      refine lv_bipush (pc := 27) (v := -7) hx hb dX8_ripe_27 (by decide) ?_
      exact g_ret (pc := 29) C hW hS rfl dX8_ripe_29 (congrArg (fun q => some (Value.int q)) (o_r h).1) (o_r h).2
    · replace h := o_neg hc3 h
      refine lv_iload_n (pc := 20) hx hb dX8_ripe_20 rfl (lv_at hl 3 rfl) ?_
      refine lv_sipush (pc := 21) (v := 1998) hx hb dX8_ripe_21 (by decide) ?_
      refine lv_icmp_le (pc := 24) (tgt := 30) hx hb dX8_ripe_24 (by decide) (fun hc4 => ?_) (fun hc4 => ?_)
      · replace h := o_pos hc4 h
        refine lv_aload_n (pc := 30) hx hb dX8_ripe_30 rfl (lv_at hl 1 rfl) ?_
        refine lv_aload_n (pc := 31) hx hb dX8_ripe_31 rfl (lv_at hl 0 rfl) ?_
        refine lv_iload_n (pc := 32) hx hb dX8_ripe_32 rfl (lv_at hl 3 rfl) ?_
        refine lv_aload_n (pc := 33) hx hb dX8_ripe_33 rfl (lv_at hl 1 rfl) ?_
        refine gf_X8_2 (pc := 34) C hW kdc_0 fl_X8_28 dX8_ripe_34 ?_
        refine lv_iload_n (pc := 37) hx hb dX8_ripe_37 rfl (lv_at hl 2 rfl) ?_
        obtain ⟨r7, hc5, h⟩ := o_b h
        refine g_virt (pc := 38) (st2 := [.int r7, .int v2, .ref (z + q3), .ref (z + 0)]) (rest := [.int v2, .ref (z + q3), .ref (z + 0)]) C hW hS (c_X6_owed (K := K - 1) (by omega) kdc_15 hc5) mw_X8_113 (kin_6 kdc_15) (Ek_6 kdc_15) rfl (hRoom (by omega) (by decide)) rfl rfl rfl (Nat.le_of_ble_eq_true rfl) hl.1 dX8_ripe_38 (fun H locs hW hS => ?_)
        obtain ⟨r9, σ10, hc7, h⟩ := o_b2 h
        refine g_virt (pc := 41) (st2 := [.int r9]) (rest := []) C hW hS (c_X8_ripeWeek (K := K - 1) (by omega) ((ty_X6_manAt kdc_15 hc0) q3 rfl) hc7) mw_X8_209 (kin_0 kdc_0) (Ek_0 kdc_0) rfl (hRoom (by omega) (by decide)) rfl rfl rfl (Nat.le_of_ble_eq_true rfl) hl.1 dX8_ripe_41 (fun H locs hW hS => ?_)
        exact g_ret (pc := 44) C hW hS rfl dX8_ripe_44 (congrArg (fun q => some (Value.int q)) (o_r h).1) (o_r h).2
      · replace h := o_neg hc4 h
        refine lv_bipush (pc := 27) (v := -7) hx hb dX8_ripe_27 (by decide) ?_
        exact g_ret (pc := 29) C hW hS rfl dX8_ripe_29 (congrArg (fun q => some (Value.int q)) (o_r h).1) (o_r h).2

theorem c_X8_soonest {K : Nat}  (hK : 5 ≤ K) {σ : Mem} {σf : Mem} {v1 : Int32} {v2 : Int32} {r : Int32} (h : f_X8_soonest σ v1 v2 = some (r, σf)) : MC l D (Ec ac z) inC z ac (z, aK, aV) (Ac z) yX8_soonest cX8_soonest 4 (some .int) K [.ref (z + 0), .int v1, .int v2] σ (some (.int r)) σf := by
  refine MC.of (fun q hq => by have := hq.1; show z ≤ q; omega) (plainFor_of_name (by decide)) (Nat.le_of_ble_eq_true rfl) ?_
  intro p e s m below meth c args C hW ls hl
  replace hl : lv_has ls 4 [(0, .ref (z + 0)), (1, .int v1), (2, .int v2)] := hl
  have hS : va_S (Ac z) s.heap s.heap [] := va_S.rf
  have hx := C.1.1
  have hb := C.1.2.1
  unfold f_X8_soonest at h
  refine lv_aload_n (pc := 0) hx hb dX8_soonest_0 rfl (lv_at hl 0 rfl) ?_
  refine gf_X8_2 (pc := 1) C hW kdc_0 fl_X8_28 dX8_soonest_1 ?_
  refine lv_iload_n (pc := 4) hx hb dX8_soonest_4 rfl (lv_at hl 1 rfl) ?_
  obtain ⟨r2, hc0, h⟩ := o_b h
  refine g_virt (pc := 5) (st2 := [rv z r2]) (rest := []) C hW hS (c_X6_manAt (K := K - 1) (by omega) kdc_15 hc0) mw_X8_109 (kin_6 kdc_15) (Ek_6 kdc_15) rfl (hRoom (by omega) (by decide)) rfl rfl rfl (Nat.le_of_ble_eq_true rfl) hl.1 dX8_soonest_5 (fun H locs hW hS => ?_)
  refine g_astoreq_n (pc := 8) (o := r2) (lv' := [(3, rv z r2), (0, .ref (z + 0)), (1, .int v1), (2, .int v2)]) C dX8_soonest_8 rfl hl (by decide) rfl (fun ls hl => ?_)
  refine g_aloadq_n (pc := 9) (o := r2) C dX8_soonest_9 rfl (lv_at hl 0 rfl) ?_
  refine g_ifnonnull (pc := 10) (o := r2) (tgt := 16) C dX8_soonest_10 (by decide) (fun hn => ?_) (fun q3 hn => ?_)
  · subst hn
    replace h := o_nn h
    replace hl : lv_has ls 4 [(3, .null), (0, .ref (z + 0)), (1, .int v1), (2, .int v2)] := hl
    refine lv_bipush (pc := 13) (v := -5) hx hb dX8_soonest_13 (by decide) ?_
    exact g_ret (pc := 15) C hW hS rfl dX8_soonest_15 (congrArg (fun q => some (Value.int q)) (o_r h).1) (o_r h).2
  · subst hn
    replace h := o_ns h
    replace hl : lv_has ls 4 [(3, .ref (z + q3)), (0, .ref (z + 0)), (1, .int v1), (2, .int v2)] := hl
    refine lv_iload_n (pc := 16) hx hb dX8_soonest_16 rfl (lv_at hl 3 rfl) ?_
    refine lv_iconst (pc := 17) (v := 1) hx hb dX8_soonest_17 (by decide) ?_
    refine lv_icmp_lt (pc := 18) (tgt := 28) hx hb dX8_soonest_18 (by decide) (fun hc3 => ?_) (fun hc3 => ?_)
    · replace h := o_pos hc3 h
      refine lv_bipush (pc := 28) (v := -7) hx hb dX8_soonest_28 (by decide) ?_
      exact g_ret (pc := 30) C hW hS rfl dX8_soonest_30 (congrArg (fun q => some (Value.int q)) (o_r h).1) (o_r h).2
    · replace h := o_neg hc3 h
      refine lv_iload_n (pc := 21) hx hb dX8_soonest_21 rfl (lv_at hl 3 rfl) ?_
      refine lv_sipush (pc := 22) (v := 200) hx hb dX8_soonest_22 (by decide) ?_
      refine lv_icmp_le (pc := 25) (tgt := 31) hx hb dX8_soonest_25 (by decide) (fun hc4 => ?_) (fun hc4 => ?_)
      · replace h := o_pos hc4 h
        refine lv_aload_n (pc := 31) hx hb dX8_soonest_31 rfl (lv_at hl 0 rfl) ?_
        refine gf_X1_5 (pc := 32) C hW ((ty_X6_manAt kdc_15 hc0) q3 rfl) fl_X8_140 dX8_soonest_32 ?_
        refine lv_if_eq (pc := 35) (tgt := 42) hx hb dX8_soonest_35 (by decide) (fun hc5 => ?_) (fun hc5 => ?_)
        · replace h := o_pos hc5 h
          refine lv_aload_n (pc := 42) hx hb dX8_soonest_42 rfl (lv_at hl 1 rfl) ?_
          refine lv_aload_n (pc := 43) hx hb dX8_soonest_43 rfl (lv_at hl 0 rfl) ?_
          refine lv_iload_n (pc := 44) hx hb dX8_soonest_44 rfl (lv_at hl 3 rfl) ?_
          refine lv_aload_n (pc := 45) hx hb dX8_soonest_45 rfl (lv_at hl 1 rfl) ?_
          refine gf_X8_2 (pc := 46) C hW kdc_0 fl_X8_28 dX8_soonest_46 ?_
          refine lv_iload_n (pc := 49) hx hb dX8_soonest_49 rfl (lv_at hl 2 rfl) ?_
          obtain ⟨r8, hc6, h⟩ := o_b h
          refine g_virt (pc := 50) (st2 := [.int r8, .int v2, .ref (z + q3), .ref (z + 0)]) (rest := [.int v2, .ref (z + q3), .ref (z + 0)]) C hW hS (c_X6_owed (K := K - 1) (by omega) kdc_15 hc6) mw_X8_113 (kin_6 kdc_15) (Ek_6 kdc_15) rfl (hRoom (by omega) (by decide)) rfl rfl rfl (Nat.le_of_ble_eq_true rfl) hl.1 dX8_soonest_50 (fun H locs hW hS => ?_)
          obtain ⟨r10, σ11, hc8, h⟩ := o_b2 h
          refine g_virt (pc := 53) (st2 := [.int r10]) (rest := []) C hW hS (c_X8_ripeWeek (K := K - 1) (by omega) ((ty_X6_manAt kdc_15 hc0) q3 rfl) hc8) mw_X8_209 (kin_0 kdc_0) (Ek_0 kdc_0) rfl (hRoom (by omega) (by decide)) rfl rfl rfl (Nat.le_of_ble_eq_true rfl) hl.1 dX8_soonest_53 (fun H locs hW hS => ?_)
          exact g_ret (pc := 56) C hW hS rfl dX8_soonest_56 (congrArg (fun q => some (Value.int q)) (o_r h).1) (o_r h).2
        · replace h := o_neg hc5 h
          refine lv_iconst (pc := 38) (v := -1) hx hb dX8_soonest_38 (by decide) ?_
          refine lv_goto (pc := 39) (tgt := 56) hx hb dX8_soonest_39 (by decide) ?_
          exact g_ret (pc := 56) C hW hS rfl dX8_soonest_56 (congrArg (fun q => some (Value.int q)) (o_r h).1) (o_r h).2
      · replace h := o_neg hc4 h
        refine lv_bipush (pc := 28) (v := -7) hx hb dX8_soonest_28 (by decide) ?_
        exact g_ret (pc := 30) C hW hS rfl dX8_soonest_30 (congrArg (fun q => some (Value.int q)) (o_r h).1) (o_r h).2

theorem c_X8_sheetAt {K : Nat}  (hK : 0 ≤ K) {σ : Mem} {v1 : Int32} {r : Option Nat} (h : f_X8_sheetAt σ v1 = some r) : MC l D (Ec ac z) inC z ac (z, aK, aV) (Ac z) yX8_sheetAt cX8_sheetAt 2 (some (.object "BeardsAreBonds$Sheet")) K [.ref (z + 0), .int v1] σ (some (rv z r)) σ := by
  refine MC.of (fun q hq => by have := hq.1; show z ≤ q; omega) (plainFor_of_name (by decide)) (Nat.le_of_ble_eq_true rfl) ?_
  intro p e s m below meth c args C hW ls hl
  replace hl : lv_has ls 2 [(0, .ref (z + 0)), (1, .int v1)] := hl
  have hS : va_S (Ac z) s.heap s.heap [] := va_S.rf
  have hx := C.1.1
  have hb := C.1.2.1
  unfold f_X8_sheetAt at h
  refine lv_iload_n (pc := 0) hx hb dX8_sheetAt_0 rfl (lv_at hl 1 rfl) ?_
  refine lv_if_lt (pc := 1) (tgt := 22) hx hb dX8_sheetAt_1 (by decide) (fun hc0 => ?_) (fun hc0 => ?_)
  · replace h := o_pos hc0 h
    refine lv_null (pc := 22) hx hb dX8_sheetAt_22 ?_
    exact g_aret (pc := 23) C (Or.inl ⟨_, rfl⟩) hW hS none rfl dX8_sheetAt_23 (congrArg (fun q => some (rv z q)) (Option.some.inj h).symm) rfl
  · replace h := o_neg hc0 h
    refine lv_iload_n (pc := 4) hx hb dX8_sheetAt_4 rfl (lv_at hl 1 rfl) ?_
    refine lv_aload_n (pc := 5) hx hb dX8_sheetAt_5 rfl (lv_at hl 0 rfl) ?_
    refine gf_X8_6 (pc := 6) C hW kdc_0 fl_X8_44 dX8_sheetAt_6 ?_
    refine ra_sheetslen (pc := 9) C hW dX8_sheetAt_9 ?_
    refine lv_icmp_ge (pc := 10) (tgt := 22) hx hb dX8_sheetAt_10 (by decide) (fun hc1 => ?_) (fun hc1 => ?_)
    · replace h := o_pos hc1 h
      refine lv_null (pc := 22) hx hb dX8_sheetAt_22 ?_
      exact g_aret (pc := 23) C (Or.inl ⟨_, rfl⟩) hW hS none rfl dX8_sheetAt_23 (congrArg (fun q => some (rv z q)) (Option.some.inj h).symm) rfl
    · replace h := o_neg hc1 h
      refine lv_aload_n (pc := 13) hx hb dX8_sheetAt_13 rfl (lv_at hl 0 rfl) ?_
      refine gf_X8_6 (pc := 14) C hW kdc_0 fl_X8_44 dX8_sheetAt_14 ?_
      refine lv_iload_n (pc := 17) hx hb dX8_sheetAt_17 rfl (lv_at hl 1 rfl) ?_
      obtain ⟨hc2, h⟩ := o_chk h
      refine ra_sheets (pc := 18) C hW hc2 dX8_sheetAt_18 ?_
      refine lv_goto (pc := 19) (tgt := 23) hx hb dX8_sheetAt_19 (by decide) ?_
      exact g_aret (pc := 23) C (Or.inl ⟨_, rfl⟩) hW hS (some (67 + 2 * v1.toNatClampNeg)) rfl dX8_sheetAt_23 (congrArg (fun q => some (rv z q)) (Option.some.inj h).symm) rfl

theorem w_X8_canTake_b167 (C : CX cX8_canTake 10 RX8 (some .boolean) D ac p m c s args meth (z, aK, aV) (Ac z)) (hK : 4 ≤ K) {r : Int32} {σf : Mem}   (σ : Mem) (v1 : Nat) (v2 : Int32) (v4 : Int32) (v5 : Int32) (v6 : Int32) (v7 : Int32) (v8 : Int32) (s18 : Mem → Int32 → Option (Int32 × Mem)) (hs18 : ∀ (σ : Mem) (v6 : Int32) {H : Heap} {locs : List Loc} {ls : Array Slot} (_ : WC D ac z σ H) (_ : va_S (Ac z) s.heap H locs) (_ : lv_has ls 10 [(0, .ref (z + 0)), (1, .ref (z + v1)), (2, .int v2), (4, .int v4), (5, .int v5), (6, .int v6)]) (_ : s18 σ v6 = some (r, σf)), W p l e (rma K 0 0) s m args below meth c H locs 0 0 (MQ below (QV D (Ec ac z) inC z (some (.int r)) σf (Ac z)) args s 0 0 (Ac z)) (F0 m 18 ls [])) (s76 : Mem → Int32 → Option (Int32 × Mem)) (hs76 : ∀ (σ : Mem) (v8 : Int32) {H : Heap} {locs : List Loc} {ls : Array Slot} (_ : WC D ac z σ H) (_ : va_S (Ac z) s.heap H locs) (_ : lv_has ls 10 [(0, .ref (z + 0)), (1, .ref (z + v1)), (2, .int v2), (4, .int v4), (5, .int v5), (6, .int v6), (7, .int v7), (8, .int v8)]) (_ : s76 σ v8 = some (r, σf)), W p l e (rma K 0 0) s m args below meth c H locs 0 0 (MQ below (QV D (Ec ac z) inC z (some (.int r)) σf (Ac z)) args s 0 0 (Ac z)) (F0 m 76 ls [])) {H : Heap} {locs : List Loc} {ls : Array Slot} (tv1 : kd v1 = 12) (hW : WC D ac z σ H) (hS : va_S (Ac z) s.heap H locs) (hl : lv_has ls 10 [(0, .ref (z + 0)), (1, .ref (z + v1)), (2, .int v2), (4, .int v4), (5, .int v5), (6, .int v6), (7, .int v7), (8, .int v8)]) (h : f_X8_canTake_b167 s18 s76 σ v1 v2 v4 v5 v6 v7 v8 = some (r, σf)) : W p l e (rma K 0 0) s m args below meth c H locs 0 0 (MQ below (QV D (Ec ac z) inC z (some (.int r)) σf (Ac z)) args s 0 0 (Ac z)) (F0 m 167 ls []) := by
  have hx := C.1.1
  have hb := C.1.2.1
  unfold f_X8_canTake_b167 at h
  refine lv_iinc (pc := 167) (v := (v8 + 1)) (lv' := [(8, .int (v8 + 1)), (0, .ref (z + 0)), (1, .ref (z + v1)), (2, .int v2), (4, .int v4), (5, .int v5), (6, .int v6), (7, .int v7)]) hx hb dX8_canTake_167 hl (k := 7) rfl rfl (by decide) rfl (fun ls hl => ?_)
  refine lv_goto (pc := 170) (tgt := 76) hx hb dX8_canTake_170 (by decide) ?_
  exact hs76 σ (v8 + 1) hW hS (lv_sub hl [1, 2, 3, 4, 5, 6, 7, 0] rfl) h

theorem w_X8_canTake_b76 (C : CX cX8_canTake 10 RX8 (some .boolean) D ac p m c s args meth (z, aK, aV) (Ac z)) (hK : 4 ≤ K) {r : Int32} {σf : Mem}   (v1 : Nat) (v2 : Int32) (v4 : Int32) (v5 : Int32) (v6 : Int32) (v7 : Int32) (s18 : Mem → Int32 → Option (Int32 × Mem)) (hs18 : ∀ (σ : Mem) (v6 : Int32) {H : Heap} {locs : List Loc} {ls : Array Slot} (_ : WC D ac z σ H) (_ : va_S (Ac z) s.heap H locs) (_ : lv_has ls 10 [(0, .ref (z + 0)), (1, .ref (z + v1)), (2, .int v2), (4, .int v4), (5, .int v5), (6, .int v6)]) (_ : s18 σ v6 = some (r, σf)), W p l e (rma K 0 0) s m args below meth c H locs 0 0 (MQ below (QV D (Ec ac z) inC z (some (.int r)) σf (Ac z)) args s 0 0 (Ac z)) (F0 m 18 ls [])) : ∀ (n : Nat) (σ : Mem) (v8 : Int32) {H : Heap} {locs : List Loc} {ls : Array Slot} (tv1 : kd v1 = 12) (hW : WC D ac z σ H) (hS : va_S (Ac z) s.heap H locs) (hl : lv_has ls 10 [(0, .ref (z + 0)), (1, .ref (z + v1)), (2, .int v2), (4, .int v4), (5, .int v5), (6, .int v6), (7, .int v7), (8, .int v8)]) (h : f_X8_canTake_b76 s18 v1 v2 v4 v5 v6 v7 n σ v8 = some (r, σf)), W p l e (rma K 0 0) s m args below meth c H locs 0 0 (MQ below (QV D (Ec ac z) inC z (some (.int r)) σf (Ac z)) args s 0 0 (Ac z)) (F0 m 76 ls []) := by
  have hx := C.1.1
  have hb := C.1.2.1
  intro n
  induction n with
  | zero =>
    intro σ v8 H locs ls tv1 hW hS hl h
    cases h
  | succ n ih =>
    intro σ v8 H locs ls tv1 hW hS hl h
    rw [f_X8_canTake_b76.eq_2] at h
    refine lv_iload (pc := 76) hx hb dX8_canTake_76 (lv_at hl 7 rfl) ?_
    refine lv_bipush (pc := 78) (v := 6) hx hb dX8_canTake_78 (by decide) ?_
    refine lv_icmp_ge (pc := 80) (tgt := 173) hx hb dX8_canTake_80 (by decide) (fun hc9 => ?_) (fun hc9 => ?_)
    · replace h := o_pos hc9 h
      refine lv_iinc (pc := 173) (v := (v6 + 1)) (lv' := [(6, .int (v6 + 1)), (0, .ref (z + 0)), (1, .ref (z + v1)), (2, .int v2), (4, .int v4), (5, .int v5), (7, .int v7), (8, .int v8)]) hx hb dX8_canTake_173 hl (k := 5) rfl rfl (by decide) rfl (fun ls hl => ?_)
      refine lv_goto (pc := 176) (tgt := 18) hx hb dX8_canTake_176 (by decide) ?_
      exact hs18 σ (v6 + 1) hW hS (lv_sub hl [1, 2, 3, 4, 5, 0] rfl) h
    · replace h := o_neg hc9 h
      refine lv_iload_n (pc := 83) hx hb dX8_canTake_83 rfl (lv_at hl 2 rfl) ?_
      refine lv_iload (pc := 84) hx hb dX8_canTake_84 (lv_at hl 7 rfl) ?_
      refine lv_ishr (pc := 86) hx hb dX8_canTake_86 ?_
      refine lv_iconst (pc := 87) (v := 1) hx hb dX8_canTake_87 (by decide) ?_
      refine lv_iand (pc := 88) hx hb dX8_canTake_88 ?_
      refine lv_if_eq (pc := 89) (tgt := 167) hx hb dX8_canTake_89 (by decide) (fun hc10 => ?_) (fun hc10 => ?_)
      · replace h := o_pos hc10 h
        exact w_X8_canTake_b167 C hK σ v1 v2 v4 v5 v6 v7 v8 s18 hs18 (f_X8_canTake_b76 s18 v1 v2 v4 v5 v6 v7 n) (fun σ v8 {H : Heap} {locs : List Loc} {ls : Array Slot}  hW hS hl h => ih σ v8 tv1 hW hS hl h) tv1 hW hS (lv_sub hl [0, 1, 2, 3, 4, 5, 6, 7] rfl) h
      · replace h := o_neg hc10 h
        refine lv_aload_n (pc := 92) hx hb dX8_canTake_92 rfl (lv_at hl 1 rfl) ?_
        refine lv_iconst (pc := 93) (v := 2) hx hb dX8_canTake_93 (by decide) ?_
        refine lv_iload (pc := 94) hx hb dX8_canTake_94 (lv_at hl 7 rfl) ?_
        refine lv_imul (pc := 96) hx hb dX8_canTake_96 ?_
        refine lv_iconst (pc := 97) (v := 1) hx hb dX8_canTake_97 (by decide) ?_
        refine lv_iadd (pc := 98) hx hb dX8_canTake_98 ?_
        obtain ⟨r13, hc11, h⟩ := o_b h
        refine g_virt (pc := 99) (st2 := [.int r13]) (rest := []) C hW hS (c_X4_number (K := K - 1) (by omega) tv1 hc11) mw_X8_252 (kin_12 tv1) (Ek_12 tv1) rfl (hRoom (by omega) (by decide)) rfl rfl rfl (Nat.le_of_ble_eq_true rfl) hl.1 dX8_canTake_99 (fun H locs hW hS => ?_)
        refine lv_iload (pc := 102) hx hb dX8_canTake_102 (lv_at hl 5 rfl) ?_
        refine lv_icmp_eq (pc := 104) (tgt := 110) hx hb dX8_canTake_104 (by decide) (fun hc13 => ?_) (fun hc13 => ?_)
        · replace h := o_pos hc13 h
          refine lv_aload_n (pc := 110) hx hb dX8_canTake_110 rfl (lv_at hl 1 rfl) ?_
          refine lv_iconst (pc := 111) (v := 2) hx hb dX8_canTake_111 (by decide) ?_
          refine lv_iload (pc := 112) hx hb dX8_canTake_112 (lv_at hl 7 rfl) ?_
          refine lv_imul (pc := 114) hx hb dX8_canTake_114 ?_
          obtain ⟨r16, hc14, h⟩ := o_b h
          refine g_virt (pc := 115) (st2 := [.int r16]) (rest := []) C hW hS (c_X4_number (K := K - 1) (by omega) tv1 hc14) mw_X8_252 (kin_12 tv1) (Ek_12 tv1) rfl (hRoom (by omega) (by decide)) rfl rfl rfl (Nat.le_of_ble_eq_true rfl) hl.1 dX8_canTake_115 (fun H locs hW hS => ?_)
          refine lv_istore (pc := 118) (lv' := [(9, .int r16), (0, .ref (z + 0)), (1, .ref (z + v1)), (2, .int v2), (4, .int v4), (5, .int v5), (6, .int v6), (7, .int v7), (8, .int v8)]) hx hb dX8_canTake_118 hl (by decide) rfl (fun ls hl => ?_)
          refine lv_aload_n (pc := 120) hx hb dX8_canTake_120 rfl (lv_at hl 1 rfl) ?_
          refine gf_X8_7 (pc := 121) C hW kdc_0 fl_X8_52 dX8_canTake_121 ?_
          refine g_virt (pc := 124) (st2 := [.int (f_X1_counts σ 75)]) (rest := []) C hW hS (c_X1_counts (K := K - 1) (by omega) kdc_75 rfl) mw_X8_143 (kin_9 kdc_75) (Ek_9 kdc_75) rfl (hRoom (by omega) (by decide)) rfl rfl rfl (Nat.le_of_ble_eq_true rfl) hl.1 dX8_canTake_124 (fun H locs hW hS => ?_)
          refine lv_iload (pc := 127) hx hb dX8_canTake_127 (lv_at hl 0 rfl) ?_
          refine lv_icmp_ge (pc := 129) (tgt := 134) hx hb dX8_canTake_129 (by decide) (fun hc16 => ?_) (fun hc16 => ?_)
          · replace h := o_pos hc16 h
            refine lv_aload_n (pc := 134) hx hb dX8_canTake_134 rfl (lv_at hl 1 rfl) ?_
            refine gf_X8_7 (pc := 135) C hW kdc_0 fl_X8_52 dX8_canTake_135 ?_
            refine lv_iload (pc := 138) hx hb dX8_canTake_138 (lv_at hl 0 rfl) ?_
            refine lv_aload_n (pc := 140) hx hb dX8_canTake_140 rfl (lv_at hl 1 rfl) ?_
            refine gf_X8_0 (pc := 141) C hW kdc_0 fl_X8_10 dX8_canTake_141 ?_
            refine lv_aload_n (pc := 144) hx hb dX8_canTake_144 rfl (lv_at hl 1 rfl) ?_
            refine gf_X8_2 (pc := 145) C hW kdc_0 fl_X8_28 dX8_canTake_145 ?_
            refine gf_X6_6 (pc := 148) C hW kdc_15 fl_X8_79 dX8_canTake_148 ?_
            refine lv_iconst (pc := 151) (v := 1) hx hb dX8_canTake_151 (by decide) ?_
            refine lv_aload_n (pc := 152) hx hb dX8_canTake_152 rfl (lv_at hl 1 rfl) ?_
            refine gf_X8_7 (pc := 153) C hW kdc_0 fl_X8_52 dX8_canTake_153 ?_
            refine lv_iload (pc := 156) hx hb dX8_canTake_156 (lv_at hl 7 rfl) ?_
            refine lv_iload (pc := 158) hx hb dX8_canTake_158 (lv_at hl 4 rfl) ?_
            obtain ⟨r19, σ20, hc17, h⟩ := o_b2 h
            refine g_virt (pc := 160) (st2 := [.int r19, .int r16, .ref (z + 75)]) (rest := [.int r16, .ref (z + 75)]) C hW hS (c_X3_says (K := K - 1) (by omega) kdc_75 hc17) mw_X8_117 (kin_1 kdc_1) (Ek_1 kdc_1) rfl (hRoom (by omega) (by decide)) rfl rfl rfl (Nat.le_of_ble_eq_true rfl) hl.1 dX8_canTake_160 (fun H locs hW hS => ?_)
            refine lv_iadd (pc := 163) hx hb dX8_canTake_163 ?_
            refine g_virt (pc := 164) (st2 := []) (rest := []) C hW hS (c_X1_cut (K := K - 1) (by omega) kdc_75 rfl) mw_X8_255 (kin_9 kdc_75) (Ek_9 kdc_75) rfl (hRoom (by omega) (by decide)) rfl rfl rfl (Nat.le_of_ble_eq_true rfl) hl.1 dX8_canTake_164 (fun H locs hW hS => ?_)
            obtain ⟨σ21, hσ21, h⟩ := o_d h
            replace hW : WC D ac z σ21 H := by rw [← hσ21]; exact hW
            exact w_X8_canTake_b167 C hK σ21 v1 v2 v4 v5 v6 v7 v8 s18 hs18 (f_X8_canTake_b76 s18 v1 v2 v4 v5 v6 v7 n) (fun σ v8 {H : Heap} {locs : List Loc} {ls : Array Slot}  hW hS hl h => ih σ v8 tv1 hW hS hl h) tv1 hW hS (lv_sub hl [1, 2, 3, 4, 5, 6, 7, 8] rfl) h
          · replace h := o_neg hc16 h
            refine lv_iconst (pc := 132) (v := 0) hx hb dX8_canTake_132 (by decide) ?_
            exact g_ret (pc := 133) C hW hS rfl dX8_canTake_133 (congrArg (fun q => some (Value.int q)) (o_r h).1) (o_r h).2
        · replace h := o_neg hc13 h
          refine lv_goto (pc := 107) (tgt := 167) hx hb dX8_canTake_107 (by decide) ?_
          exact w_X8_canTake_b167 C hK σ v1 v2 v4 v5 v6 v7 v8 s18 hs18 (f_X8_canTake_b76 s18 v1 v2 v4 v5 v6 v7 n) (fun σ v8 {H : Heap} {locs : List Loc} {ls : Array Slot}  hW hS hl h => ih σ v8 tv1 hW hS hl h) tv1 hW hS (lv_sub hl [0, 1, 2, 3, 4, 5, 6, 7] rfl) h

theorem w_X8_canTake_b18 (C : CX cX8_canTake 10 RX8 (some .boolean) D ac p m c s args meth (z, aK, aV) (Ac z)) (hK : 4 ≤ K) {r : Int32} {σf : Mem}   (v1 : Nat) (v2 : Int32) (v4 : Int32) (v5 : Int32)  : ∀ (n : Nat) (σ : Mem) (v6 : Int32) {H : Heap} {locs : List Loc} {ls : Array Slot} (tv1 : kd v1 = 12) (hW : WC D ac z σ H) (hS : va_S (Ac z) s.heap H locs) (hl : lv_has ls 10 [(0, .ref (z + 0)), (1, .ref (z + v1)), (2, .int v2), (4, .int v4), (5, .int v5), (6, .int v6)]) (h : f_X8_canTake_b18 v1 v2 v4 v5 n σ v6 = some (r, σf)), W p l e (rma K 0 0) s m args below meth c H locs 0 0 (MQ below (QV D (Ec ac z) inC z (some (.int r)) σf (Ac z)) args s 0 0 (Ac z)) (F0 m 18 ls []) := by
  have hx := C.1.1
  have hb := C.1.2.1
  intro n
  induction n with
  | zero =>
    intro σ v6 H locs ls tv1 hW hS hl h
    cases h
  | succ n ih =>
    intro σ v6 H locs ls tv1 hW hS hl h
    rw [f_X8_canTake_b18.eq_2] at h
    refine lv_iload (pc := 18) hx hb dX8_canTake_18 (lv_at hl 5 rfl) ?_
    refine lv_iload (pc := 20) hx hb dX8_canTake_20 (lv_at hl 4 rfl) ?_
    refine lv_icmp_gt (pc := 22) (tgt := 179) hx hb dX8_canTake_22 (by decide) (fun hc4 => ?_) (fun hc4 => ?_)
    · replace h := o_pos hc4 h
      refine lv_iconst (pc := 179) (v := 1) hx hb dX8_canTake_179 (by decide) ?_
      exact g_ret (pc := 180) C hW hS rfl dX8_canTake_180 (congrArg (fun q => some (Value.int q)) (o_r h).1) (o_r h).2
    · replace h := o_neg hc4 h
      refine lv_iload (pc := 25) hx hb dX8_canTake_25 (lv_at hl 5 rfl) ?_
      refine lv_bipush (pc := 27) (v := 60) hx hb dX8_canTake_27 (by decide) ?_
      refine lv_icmp_ge (pc := 29) (tgt := 179) hx hb dX8_canTake_29 (by decide) (fun hc5 => ?_) (fun hc5 => ?_)
      · replace h := o_pos hc5 h
        refine lv_iconst (pc := 179) (v := 1) hx hb dX8_canTake_179 (by decide) ?_
        exact g_ret (pc := 180) C hW hS rfl dX8_canTake_180 (congrArg (fun q => some (Value.int q)) (o_r h).1) (o_r h).2
      · replace h := o_neg hc5 h
        refine lv_aload_n (pc := 32) hx hb dX8_canTake_32 rfl (lv_at hl 0 rfl) ?_
        refine gf_X8_2 (pc := 33) C hW kdc_0 fl_X8_28 dX8_canTake_33 ?_
        refine gf_X6_5 (pc := 36) C hW kdc_15 fl_X8_73 dX8_canTake_36 ?_
        refine lv_iload (pc := 39) hx hb dX8_canTake_39 (lv_at hl 5 rfl) ?_
        refine lv_iadd (pc := 41) hx hb dX8_canTake_41 ?_
        refine lv_istore (pc := 42) (lv' := [(7, .int ((σ 15 5) + v6)), (0, .ref (z + 0)), (1, .ref (z + v1)), (2, .int v2), (4, .int v4), (5, .int v5), (6, .int v6)]) hx hb dX8_canTake_42 hl (by decide) rfl (fun ls hl => ?_)
        refine lv_aload_n (pc := 44) hx hb dX8_canTake_44 rfl (lv_at hl 1 rfl) ?_
        refine gf_X8_7 (pc := 45) C hW kdc_0 fl_X8_52 dX8_canTake_45 ?_
        refine lv_aload_n (pc := 48) hx hb dX8_canTake_48 rfl (lv_at hl 1 rfl) ?_
        refine gf_X8_0 (pc := 49) C hW kdc_0 fl_X8_10 dX8_canTake_49 ?_
        refine lv_aload_n (pc := 52) hx hb dX8_canTake_52 rfl (lv_at hl 1 rfl) ?_
        refine gf_X8_2 (pc := 53) C hW kdc_0 fl_X8_28 dX8_canTake_53 ?_
        refine gf_X6_6 (pc := 56) C hW kdc_15 fl_X8_79 dX8_canTake_56 ?_
        refine lv_aload_n (pc := 59) hx hb dX8_canTake_59 rfl (lv_at hl 1 rfl) ?_
        refine gf_X8_7 (pc := 60) C hW kdc_0 fl_X8_52 dX8_canTake_60 ?_
        refine lv_iload (pc := 63) hx hb dX8_canTake_63 (lv_at hl 0 rfl) ?_
        refine lv_iload (pc := 65) hx hb dX8_canTake_65 (lv_at hl 4 rfl) ?_
        obtain ⟨r8, σ9, hc6, h⟩ := o_b2 h
        refine g_virt (pc := 67) (st2 := [.int r8, .ref (z + 75)]) (rest := [.ref (z + 75)]) C hW hS (c_X3_grown (K := K - 1) (by omega) kdc_75 hc6) mw_X8_216 (kin_1 kdc_1) (Ek_1 kdc_1) rfl (hRoom (by omega) (by decide)) rfl rfl rfl (Nat.le_of_ble_eq_true rfl) hl.1 dX8_canTake_67 (fun H locs hW hS => ?_)
        refine pf_X1_2 (pc := 70) C hW hS kdc_75 fl_X8_125 dX8_canTake_70 (fun H locs hW hS => ?_)
        refine lv_iconst (pc := 73) (v := 0) hx hb dX8_canTake_73 (by decide) ?_
        refine lv_istore (pc := 74) (lv' := [(8, .int (0 : Int32)), (7, .int ((σ 15 5) + v6)), (0, .ref (z + 0)), (1, .ref (z + v1)), (2, .int v2), (4, .int v4), (5, .int v5), (6, .int v6)]) hx hb dX8_canTake_74 hl (by decide) rfl (fun ls hl => ?_)
        exact w_X8_canTake_b76 C hK v1 v2 v4 v5 v6 ((σ 15 5) + v6) (f_X8_canTake_b18 v1 v2 v4 v5 n) (fun σ v6 {H : Heap} {locs : List Loc} {ls : Array Slot}  hW hS hl h => ih σ v6 tv1 hW hS hl h) FU (ms σ9 75 2 r8) (0 : Int32) tv1 hW hS (lv_sub hl [2, 3, 4, 5, 6, 7, 1, 0] rfl) h

theorem c_X8_canTake {K : Nat}  (hK : 4 ≤ K) {σ : Mem} {σf : Mem} {v1 : Nat} {v2 : Int32} {v3 : Nat} {v4 : Int32} {r : Int32} (hk1 : kd v1 = 12) (hk3 : kd v3 = 9) (h : f_X8_canTake σ v1 v2 v3 v4 = some (r, σf)) : MC l D (Ec ac z) inC z ac (z, aK, aV) (Ac z) yX8_canTake cX8_canTake 10 (some .boolean) K [.ref (z + 0), .ref (z + v1), .int v2, .ref (z + v3), .int v4] σ (some (.int r)) σf := by
  refine MC.of (fun q hq => by have := hq.1; show z ≤ q; omega) (plainFor_of_name (by decide)) (Nat.le_of_ble_eq_true rfl) ?_
  intro p e s m below meth c args C hW ls hl
  replace hl : lv_has ls 10 [(0, .ref (z + 0)), (1, .ref (z + v1)), (2, .int v2), (3, .ref (z + v3)), (4, .int v4)] := hl
  have hS : va_S (Ac z) s.heap s.heap [] := va_S.rf
  have hx := C.1.1
  have hb := C.1.2.1
  unfold f_X8_canTake at h
  refine lv_aload_n (pc := 0) hx hb dX8_canTake_0 rfl (lv_at hl 0 rfl) ?_
  refine gf_X8_7 (pc := 1) C hW kdc_0 fl_X8_52 dX8_canTake_1 ?_
  refine lv_aload_n (pc := 4) hx hb dX8_canTake_4 rfl (lv_at hl 3 rfl) ?_
  obtain ⟨σ2, hc0, h⟩ := o_b h
  refine g_virt (pc := 5) (st2 := []) (rest := []) C hW hS (c_X1_become (K := K - 1) (by omega) kdc_75 (fun k hk => by cases hk; exact hk3) hc0) mw_X8_213 (kin_9 kdc_75) (Ek_9 kdc_75) rfl (hRoom (by omega) (by decide)) rfl rfl rfl (Nat.le_of_ble_eq_true rfl) hl.1 dX8_canTake_5 (fun H locs hW hS => ?_)
  refine lv_aload_n (pc := 8) hx hb dX8_canTake_8 rfl (lv_at hl 1 rfl) ?_
  refine lv_iload_n (pc := 9) hx hb dX8_canTake_9 rfl (lv_at hl 2 rfl) ?_
  obtain ⟨r4, hc2, h⟩ := o_b h
  refine g_virt (pc := 10) (st2 := [.int r4]) (rest := []) C hW hS (c_X4_lastWeekOf (K := K - 1) (by omega) hk1 hc2) mw_X8_249 (kin_12 hk1) (Ek_12 hk1) rfl (hRoom (by omega) (by decide)) rfl rfl rfl (Nat.le_of_ble_eq_true rfl) hl.1 dX8_canTake_10 (fun H locs hW hS => ?_)
  refine lv_istore (pc := 13) (lv' := [(5, .int r4), (0, .ref (z + 0)), (1, .ref (z + v1)), (2, .int v2), (3, .ref (z + v3)), (4, .int v4)]) hx hb dX8_canTake_13 hl (by decide) rfl (fun ls hl => ?_)
  refine lv_iconst (pc := 15) (v := 0) hx hb dX8_canTake_15 (by decide) ?_
  refine lv_istore (pc := 16) (lv' := [(6, .int (0 : Int32)), (5, .int r4), (0, .ref (z + 0)), (1, .ref (z + v1)), (2, .int v2), (3, .ref (z + v3)), (4, .int v4)]) hx hb dX8_canTake_16 hl (by decide) rfl (fun ls hl => ?_)
  exact w_X8_canTake_b18 C hK v1 v2 v4 r4 FU σ2 (0 : Int32) hk1 hW hS (lv_sub hl [2, 3, 4, 6, 1, 0] rfl) h

theorem w_X8_bestOffers_b66 (C : CX cX8_bestOffers 10 RX8 (some .int) D ac p m c s args meth (z, aK, aV) (Ac z)) (hK : 5 ≤ K) {r : Int32} {σf : Mem}   (σ : Mem) (v1 : Nat) (v2 : Nat) (v3 : Int32) (v4 : Int32) (v5 : Int32) (v6 : Int32) (v7 : Int32) (v8 : Int32) (s24 : Mem → Int32 → Int32 → Int32 → Option (Int32 × Mem)) (hs24 : ∀ (σ : Mem) (v5 : Int32) (v6 : Int32) (v8 : Int32) {H : Heap} {locs : List Loc} {ls : Array Slot} (_ : WC D ac z σ H) (_ : va_S (Ac z) s.heap H locs) (_ : lv_has ls 10 [(0, .ref (z + 0)), (1, .ref (z + v1)), (2, .ref (z + v2)), (3, .int v3), (4, .int v4), (5, .int v5), (6, .int v6), (7, .int v7), (8, .int v8)]) (_ : s24 σ v5 v6 v8 = some (r, σf)), W p l e (rma K 0 0) s m args below meth c H locs 0 0 (MQ below (QV D (Ec ac z) inC z (some (.int r)) σf (Ac z)) args s 0 0 (Ac z)) (F0 m 24 ls [])) {H : Heap} {locs : List Loc} {ls : Array Slot} (tv1 : kd v1 = 12) (tv2 : kd v2 = 9) (hW : WC D ac z σ H) (hS : va_S (Ac z) s.heap H locs) (hl : lv_has ls 10 [(0, .ref (z + 0)), (1, .ref (z + v1)), (2, .ref (z + v2)), (3, .int v3), (4, .int v4), (5, .int v5), (6, .int v6), (7, .int v7), (8, .int v8)]) (h : f_X8_bestOffers_b66 s24 σ v1 v2 v3 v4 v5 v6 v7 v8 = some (r, σf)) : W p l e (rma K 0 0) s m args below meth c H locs 0 0 (MQ below (QV D (Ec ac z) inC z (some (.int r)) σf (Ac z)) args s 0 0 (Ac z)) (F0 m 66 ls []) := by
  have hx := C.1.1
  have hb := C.1.2.1
  unfold f_X8_bestOffers_b66 at h
  refine lv_iinc (pc := 66) (v := (v8 + 1)) (lv' := [(8, .int (v8 + 1)), (0, .ref (z + 0)), (1, .ref (z + v1)), (2, .ref (z + v2)), (3, .int v3), (4, .int v4), (5, .int v5), (6, .int v6), (7, .int v7)]) hx hb dX8_bestOffers_66 hl (k := 8) rfl rfl (by decide) rfl (fun ls hl => ?_)
  refine lv_goto (pc := 69) (tgt := 24) hx hb dX8_bestOffers_69 (by decide) ?_
  exact hs24 σ v5 v6 (v8 + 1) hW hS (lv_sub hl [1, 2, 3, 4, 5, 6, 7, 8, 0] rfl) h

theorem w_X8_bestOffers_b24 (C : CX cX8_bestOffers 10 RX8 (some .int) D ac p m c s args meth (z, aK, aV) (Ac z)) (hK : 5 ≤ K) {r : Int32} {σf : Mem}   (v1 : Nat) (v2 : Nat) (v3 : Int32) (v4 : Int32) (v7 : Int32)  : ∀ (n : Nat) (σ : Mem) (v5 : Int32) (v6 : Int32) (v8 : Int32) {H : Heap} {locs : List Loc} {ls : Array Slot} (tv1 : kd v1 = 12) (tv2 : kd v2 = 9) (hW : WC D ac z σ H) (hS : va_S (Ac z) s.heap H locs) (hl : lv_has ls 10 [(0, .ref (z + 0)), (1, .ref (z + v1)), (2, .ref (z + v2)), (3, .int v3), (4, .int v4), (5, .int v5), (6, .int v6), (7, .int v7), (8, .int v8)]) (h : f_X8_bestOffers_b24 v1 v2 v3 v4 v7 n σ v5 v6 v8 = some (r, σf)), W p l e (rma K 0 0) s m args below meth c H locs 0 0 (MQ below (QV D (Ec ac z) inC z (some (.int r)) σf (Ac z)) args s 0 0 (Ac z)) (F0 m 24 ls []) := by
  have hx := C.1.1
  have hb := C.1.2.1
  intro n
  induction n with
  | zero =>
    intro σ v5 v6 v8 H locs ls tv1 tv2 hW hS hl h
    cases h
  | succ n ih =>
    intro σ v5 v6 v8 H locs ls tv1 tv2 hW hS hl h
    rw [f_X8_bestOffers_b24.eq_2] at h
    refine lv_iload (pc := 24) hx hb dX8_bestOffers_24 (lv_at hl 8 rfl) ?_
    refine lv_iload (pc := 26) hx hb dX8_bestOffers_26 (lv_at hl 7 rfl) ?_
    refine lv_icmp_ge (pc := 28) (tgt := 72) hx hb dX8_bestOffers_28 (by decide) (fun hc1 => ?_) (fun hc1 => ?_)
    · replace h := o_pos hc1 h
      refine lv_iload (pc := 72) hx hb dX8_bestOffers_72 (lv_at hl 4 rfl) ?_
      refine lv_if_ne (pc := 74) (tgt := 82) hx hb dX8_bestOffers_74 (by decide) (fun hc2 => ?_) (fun hc2 => ?_)
      · replace h := o_neg hc2 h
        refine lv_iload (pc := 82) hx hb dX8_bestOffers_82 (lv_at hl 6 rfl) ?_
        exact g_ret (pc := 84) C hW hS rfl dX8_bestOffers_84 (congrArg (fun q => some (Value.int q)) (o_r h).1) (o_r h).2
      · replace h := o_pos hc2 h
        refine lv_iload (pc := 77) hx hb dX8_bestOffers_77 (lv_at hl 5 rfl) ?_
        refine lv_goto (pc := 79) (tgt := 84) hx hb dX8_bestOffers_79 (by decide) ?_
        exact g_ret (pc := 84) C hW hS rfl dX8_bestOffers_84 (congrArg (fun q => some (Value.int q)) (o_r h).1) (o_r h).2
    · replace h := o_neg hc1 h
      refine lv_aload_n (pc := 31) hx hb dX8_bestOffers_31 rfl (lv_at hl 1 rfl) ?_
      refine lv_iload (pc := 32) hx hb dX8_bestOffers_32 (lv_at hl 8 rfl) ?_
      obtain ⟨r5, hc3, h⟩ := o_b h
      refine g_virt (pc := 34) (st2 := [.int r5]) (rest := []) C hW hS (c_X4_inchesOf (K := K - 1) (by omega) tv1 hc3) mw_X8_242 (kin_12 tv1) (Ek_12 tv1) rfl (hRoom (by omega) (by decide)) rfl rfl rfl (Nat.le_of_ble_eq_true rfl) hl.1 dX8_bestOffers_34 (fun H locs hW hS => ?_)
      refine lv_istore (pc := 37) (lv' := [(9, .int r5), (0, .ref (z + 0)), (1, .ref (z + v1)), (2, .ref (z + v2)), (3, .int v3), (4, .int v4), (5, .int v5), (6, .int v6), (7, .int v7), (8, .int v8)]) hx hb dX8_bestOffers_37 hl (by decide) rfl (fun ls hl => ?_)
      refine lv_iload (pc := 39) hx hb dX8_bestOffers_39 (lv_at hl 0 rfl) ?_
      refine lv_iload (pc := 41) hx hb dX8_bestOffers_41 (lv_at hl 7 rfl) ?_
      refine lv_icmp_le (pc := 43) (tgt := 66) hx hb dX8_bestOffers_43 (by decide) (fun hc5 => ?_) (fun hc5 => ?_)
      · replace h := o_pos hc5 h
        exact w_X8_bestOffers_b66 C hK σ v1 v2 v3 v4 v5 v6 v7 v8 (f_X8_bestOffers_b24 v1 v2 v3 v4 v7 n) (fun σ v5 v6 v8 {H : Heap} {locs : List Loc} {ls : Array Slot}  hW hS hl h => ih σ v5 v6 v8 tv1 tv2 hW hS hl h) tv1 tv2 hW hS (lv_sub hl [1, 2, 3, 4, 5, 6, 7, 8, 9] rfl) h
      · replace h := o_neg hc5 h
        refine lv_aload_n (pc := 46) hx hb dX8_bestOffers_46 rfl (lv_at hl 1 rfl) ?_
        refine lv_aload_n (pc := 47) hx hb dX8_bestOffers_47 rfl (lv_at hl 2 rfl) ?_
        refine lv_iload (pc := 48) hx hb dX8_bestOffers_48 (lv_at hl 9 rfl) ?_
        refine lv_aload_n (pc := 50) hx hb dX8_bestOffers_50 rfl (lv_at hl 3 rfl) ?_
        refine lv_iload_n (pc := 51) hx hb dX8_bestOffers_51 rfl (lv_at hl 4 rfl) ?_
        obtain ⟨r8, σ9, hc6, h⟩ := o_b2 h
        refine g_virt (pc := 52) (st2 := [.int r8]) (rest := []) C hW hS (c_X8_canTake (K := K - 1) (by omega) tv1 tv2 hc6) mw_X8_245 (kin_0 kdc_0) (Ek_0 kdc_0) rfl (hRoom (by omega) (by decide)) rfl rfl rfl (Nat.le_of_ble_eq_true rfl) hl.1 dX8_bestOffers_52 (fun H locs hW hS => ?_)
        refine lv_if_eq (pc := 55) (tgt := 66) hx hb dX8_bestOffers_55 (by decide) (fun hc9 => ?_) (fun hc9 => ?_)
        · replace h := o_pos hc9 h
          exact w_X8_bestOffers_b66 C hK σ9 v1 v2 v3 v4 v5 v6 v7 v8 (f_X8_bestOffers_b24 v1 v2 v3 v4 v7 n) (fun σ v5 v6 v8 {H : Heap} {locs : List Loc} {ls : Array Slot}  hW hS hl h => ih σ v5 v6 v8 tv1 tv2 hW hS hl h) tv1 tv2 hW hS (lv_sub hl [1, 2, 3, 4, 5, 6, 7, 8, 9] rfl) h
        · replace h := o_neg hc9 h
          refine lv_iload (pc := 58) hx hb dX8_bestOffers_58 (lv_at hl 9 rfl) ?_
          refine lv_istore (pc := 60) (lv' := [(5, .int v8), (9, .int r5), (0, .ref (z + 0)), (1, .ref (z + v1)), (2, .ref (z + v2)), (3, .int v3), (4, .int v4), (6, .int v6), (7, .int v7), (8, .int v8)]) hx hb dX8_bestOffers_60 hl (by decide) rfl (fun ls hl => ?_)
          refine lv_iload (pc := 62) hx hb dX8_bestOffers_62 (lv_at hl 1 rfl) ?_
          refine lv_istore (pc := 64) (lv' := [(6, .int r5), (5, .int v8), (9, .int r5), (0, .ref (z + 0)), (1, .ref (z + v1)), (2, .ref (z + v2)), (3, .int v3), (4, .int v4), (7, .int v7), (8, .int v8)]) hx hb dX8_bestOffers_64 hl (by decide) rfl (fun ls hl => ?_)
          exact w_X8_bestOffers_b66 C hK σ9 v1 v2 v3 v4 v8 r5 v7 v8 (f_X8_bestOffers_b24 v1 v2 v3 v4 v7 n) (fun σ v5 v6 v8 {H : Heap} {locs : List Loc} {ls : Array Slot}  hW hS hl h => ih σ v5 v6 v8 tv1 tv2 hW hS hl h) tv1 tv2 hW hS (lv_sub hl [3, 4, 5, 6, 7, 1, 0, 8, 9] rfl) h

theorem c_X8_bestOffers {K : Nat}  (hK : 5 ≤ K) {σ : Mem} {σf : Mem} {v1 : Nat} {v2 : Nat} {v3 : Int32} {v4 : Int32} {r : Int32} (hk1 : kd v1 = 12) (hk2 : kd v2 = 9) (h : f_X8_bestOffers σ v1 v2 v3 v4 = some (r, σf)) : MC l D (Ec ac z) inC z ac (z, aK, aV) (Ac z) yX8_bestOffers cX8_bestOffers 10 (some .int) K [.ref (z + 0), .ref (z + v1), .ref (z + v2), .int v3, .int v4] σ (some (.int r)) σf := by
  refine MC.of (fun q hq => by have := hq.1; show z ≤ q; omega) (plainFor_of_name (by decide)) (Nat.le_of_ble_eq_true rfl) ?_
  intro p e s m below meth c args C hW ls hl
  replace hl : lv_has ls 10 [(0, .ref (z + 0)), (1, .ref (z + v1)), (2, .ref (z + v2)), (3, .int v3), (4, .int v4)] := hl
  have hS : va_S (Ac z) s.heap s.heap [] := va_S.rf
  have hx := C.1.1
  have hb := C.1.2.1
  unfold f_X8_bestOffers at h
  refine lv_iconst (pc := 0) (v := 0) hx hb dX8_bestOffers_0 (by decide) ?_
  refine lv_istore (pc := 1) (lv' := [(5, .int (0 : Int32)), (0, .ref (z + 0)), (1, .ref (z + v1)), (2, .ref (z + v2)), (3, .int v3), (4, .int v4)]) hx hb dX8_bestOffers_1 hl (by decide) rfl (fun ls hl => ?_)
  refine lv_iconst (pc := 3) (v := 0) hx hb dX8_bestOffers_3 (by decide) ?_
  refine lv_istore (pc := 4) (lv' := [(6, .int (0 : Int32)), (5, .int (0 : Int32)), (0, .ref (z + 0)), (1, .ref (z + v1)), (2, .ref (z + v2)), (3, .int v3), (4, .int v4)]) hx hb dX8_bestOffers_4 hl (by decide) rfl (fun ls hl => ?_)
  refine lv_iconst (pc := 6) (v := 1) hx hb dX8_bestOffers_6 (by decide) ?_
  refine lv_bipush (pc := 7) (v := 6) hx hb dX8_bestOffers_7 (by decide) ?_
  refine lv_aload_n (pc := 9) hx hb dX8_bestOffers_9 rfl (lv_at hl 3 rfl) ?_
  refine gf_X4_2 (pc := 10) C hW hk1 fl_X8_235 dX8_bestOffers_10 ?_
  refine lv_iconst (pc := 13) (v := 2) hx hb dX8_bestOffers_13 (by decide) ?_
  refine lv_idiv (pc := 14) hx hb dX8_bestOffers_14 (by decide) ?_
  refine g_stat (pc := 15) (st2 := [.int (f_J9_min_7cf53 (6 : Int32) ((σ v1 2) / (2 : Int32))), .int (1 : Int32)]) (rest := [.int (1 : Int32)]) C hW hS (c_J9_min_7cf53 (K := K - 1) (by omega) rfl) mw_X8_236 (hRoom (by omega) (by decide)) rfl rfl rfl (Nat.le_of_ble_eq_true rfl) hl.1 dX8_bestOffers_15 (fun H locs hW hS => ?_)
  refine lv_ishl (pc := 18) hx hb dX8_bestOffers_18 ?_
  obtain ⟨x1, hxx1, h⟩ := o_d h
  refine g_top hxx1 ?_
  refine lv_istore (pc := 19) (lv' := [(7, .int x1), (6, .int (0 : Int32)), (5, .int (0 : Int32)), (0, .ref (z + 0)), (1, .ref (z + v1)), (2, .ref (z + v2)), (3, .int v3), (4, .int v4)]) hx hb dX8_bestOffers_19 hl (by decide) rfl (fun ls hl => ?_)
  refine lv_iconst (pc := 21) (v := 1) hx hb dX8_bestOffers_21 (by decide) ?_
  refine lv_istore (pc := 22) (lv' := [(8, .int (1 : Int32)), (7, .int x1), (6, .int (0 : Int32)), (5, .int (0 : Int32)), (0, .ref (z + 0)), (1, .ref (z + v1)), (2, .ref (z + v2)), (3, .int v3), (4, .int v4)]) hx hb dX8_bestOffers_22 hl (by decide) rfl (fun ls hl => ?_)
  exact w_X8_bestOffers_b24 C hK v1 v2 v3 v4 x1 FU σ (0 : Int32) (0 : Int32) (1 : Int32) hk1 hk2 hW hS (lv_sub hl [4, 5, 6, 7, 8, 3, 2, 1, 0] rfl) h

theorem c_X8_take {K : Nat}  (hK : 6 ≤ K) {σ : Mem} {σf : Mem} {v1 : Int32} {v2 : Int32} {v3 : Int32} {r : Int32} (h : f_X8_take σ v1 v2 v3 = some (r, σf)) : MC l D (Ec ac z) inC z ac (z, aK, aV) (Ac z) yX8_take cX8_take 6 (some .int) K [.ref (z + 0), .int v1, .int v2, .int v3] σ (some (.int r)) σf := by
  refine MC.of (fun q hq => by have := hq.1; show z ≤ q; omega) (plainFor_of_name (by decide)) (Nat.le_of_ble_eq_true rfl) ?_
  intro p e s m below meth c args C hW ls hl
  replace hl : lv_has ls 6 [(0, .ref (z + 0)), (1, .int v1), (2, .int v2), (3, .int v3)] := hl
  have hS : va_S (Ac z) s.heap s.heap [] := va_S.rf
  have hx := C.1.1
  have hb := C.1.2.1
  unfold f_X8_take at h
  refine lv_aload_n (pc := 0) hx hb dX8_take_0 rfl (lv_at hl 0 rfl) ?_
  refine lv_iload_n (pc := 1) hx hb dX8_take_1 rfl (lv_at hl 1 rfl) ?_
  obtain ⟨r2, hc0, h⟩ := o_b h
  refine g_virt (pc := 2) (st2 := [rv z r2]) (rest := []) C hW hS (c_X8_sheetAt (K := K - 1) (by omega) hc0) mw_X8_220 (kin_0 kdc_0) (Ek_0 kdc_0) rfl (hRoom (by omega) (by decide)) rfl rfl rfl (Nat.le_of_ble_eq_true rfl) hl.1 dX8_take_2 (fun H locs hW hS => ?_)
  refine g_astoreq (pc := 5) (o := r2) (lv' := [(4, rv z r2), (0, .ref (z + 0)), (1, .int v1), (2, .int v2), (3, .int v3)]) C dX8_take_5 hl (by decide) rfl (fun ls hl => ?_)
  refine g_aloadq (pc := 7) (o := r2) C dX8_take_7 (lv_at hl 0 rfl) ?_
  refine g_ifnonnull (pc := 9) (o := r2) (tgt := 15) C dX8_take_9 (by decide) (fun hn => ?_) (fun q3 hn => ?_)
  · subst hn
    replace h := o_nn h
    replace hl : lv_has ls 6 [(4, .null), (0, .ref (z + 0)), (1, .int v1), (2, .int v2), (3, .int v3)] := hl
    refine lv_bipush (pc := 12) (v := -2) hx hb dX8_take_12 (by decide) ?_
    exact g_ret (pc := 14) C hW hS rfl dX8_take_14 (congrArg (fun q => some (Value.int q)) (o_r h).1) (o_r h).2
  · subst hn
    replace h := o_ns h
    replace hl : lv_has ls 6 [(4, .ref (z + q3)), (0, .ref (z + 0)), (1, .int v1), (2, .int v2), (3, .int v3)] := hl
    refine lv_aload (pc := 15) hx hb dX8_take_15 (lv_at hl 0 rfl) ?_
    refine gf_X4_1 (pc := 17) C hW ((ty_X8_sheetAt  hc0) q3 rfl) fl_X8_224 dX8_take_17 ?_
    refine lv_iconst (pc := 20) (v := -1) hx hb dX8_take_20 (by decide) ?_
    refine lv_icmp_ne (pc := 21) (tgt := 27) hx hb dX8_take_21 (by decide) (fun hc3 => ?_) (fun hc3 => ?_)
    · replace h := o_neg hc3 h
      refine lv_aload (pc := 27) hx hb dX8_take_27 (lv_at hl 0 rfl) ?_
      obtain ⟨r6, hc4, h⟩ := o_b h
      refine g_virt (pc := 29) (st2 := [.int r6]) (rest := []) C hW hS (c_X4_tellsOffers (K := K - 1) (by omega) ((ty_X8_sheetAt  hc0) q3 rfl) hc4) mw_X8_227 (kin_12 ((ty_X8_sheetAt  hc0) q3 rfl)) (Ek_12 ((ty_X8_sheetAt  hc0) q3 rfl)) rfl (hRoom (by omega) (by decide)) rfl rfl rfl (Nat.le_of_ble_eq_true rfl) hl.1 dX8_take_29 (fun H locs hW hS => ?_)
      refine lv_if_ne (pc := 32) (tgt := 38) hx hb dX8_take_32 (by decide) (fun hc6 => ?_) (fun hc6 => ?_)
      · replace h := o_neg hc6 h
        refine lv_aload_n (pc := 38) hx hb dX8_take_38 rfl (lv_at hl 1 rfl) ?_
        refine gf_X8_2 (pc := 39) C hW kdc_0 fl_X8_28 dX8_take_39 ?_
        refine lv_iload_n (pc := 42) hx hb dX8_take_42 rfl (lv_at hl 3 rfl) ?_
        obtain ⟨r9, hc7, h⟩ := o_b h
        refine g_virt (pc := 43) (st2 := [rv z r9]) (rest := []) C hW hS (c_X6_manAt (K := K - 1) (by omega) kdc_15 hc7) mw_X8_109 (kin_6 kdc_15) (Ek_6 kdc_15) rfl (hRoom (by omega) (by decide)) rfl rfl rfl (Nat.le_of_ble_eq_true rfl) hl.1 dX8_take_43 (fun H locs hW hS => ?_)
        refine g_astoreq (pc := 46) (o := r9) (lv' := [(5, rv z r9), (4, .ref (z + q3)), (0, .ref (z + 0)), (1, .int v1), (2, .int v2), (3, .int v3)]) C dX8_take_46 hl (by decide) rfl (fun ls hl => ?_)
        refine g_aloadq (pc := 48) (o := r9) C dX8_take_48 (lv_at hl 0 rfl) ?_
        refine g_ifnonnull (pc := 50) (o := r9) (tgt := 56) C dX8_take_50 (by decide) (fun hn => ?_) (fun q10 hn => ?_)
        · subst hn
          replace h := o_nn h
          replace hl : lv_has ls 6 [(5, .null), (4, .ref (z + q3)), (0, .ref (z + 0)), (1, .int v1), (2, .int v2), (3, .int v3)] := hl
          refine lv_bipush (pc := 53) (v := -5) hx hb dX8_take_53 (by decide) ?_
          exact g_ret (pc := 55) C hW hS rfl dX8_take_55 (congrArg (fun q => some (Value.int q)) (o_r h).1) (o_r h).2
        · subst hn
          replace h := o_ns h
          replace hl : lv_has ls 6 [(5, .ref (z + q10)), (4, .ref (z + q3)), (0, .ref (z + 0)), (1, .int v1), (2, .int v2), (3, .int v3)] := hl
          refine lv_iload_n (pc := 56) hx hb dX8_take_56 rfl (lv_at hl 5 rfl) ?_
          refine lv_if_lt (pc := 57) (tgt := 65) hx hb dX8_take_57 (by decide) (fun hc10 => ?_) (fun hc10 => ?_)
          · replace h := o_pos hc10 h
            refine lv_bipush (pc := 65) (v := -7) hx hb dX8_take_65 (by decide) ?_
            exact g_ret (pc := 67) C hW hS rfl dX8_take_67 (congrArg (fun q => some (Value.int q)) (o_r h).1) (o_r h).2
          · replace h := o_neg hc10 h
            refine lv_iload_n (pc := 60) hx hb dX8_take_60 rfl (lv_at hl 5 rfl) ?_
            refine lv_iconst (pc := 61) (v := 1) hx hb dX8_take_61 (by decide) ?_
            refine lv_icmp_le (pc := 62) (tgt := 68) hx hb dX8_take_62 (by decide) (fun hc11 => ?_) (fun hc11 => ?_)
            · replace h := o_pos hc11 h
              refine lv_aload (pc := 68) hx hb dX8_take_68 (lv_at hl 0 rfl) ?_
              refine gf_X1_5 (pc := 70) C hW ((ty_X6_manAt kdc_15 hc7) q10 rfl) fl_X8_140 dX8_take_70 ?_
              refine lv_if_eq (pc := 73) (tgt := 78) hx hb dX8_take_73 (by decide) (fun hc12 => ?_) (fun hc12 => ?_)
              · replace h := o_pos hc12 h
                refine lv_aload_n (pc := 78) hx hb dX8_take_78 rfl (lv_at hl 2 rfl) ?_
                refine lv_aload (pc := 79) hx hb dX8_take_79 (lv_at hl 1 rfl) ?_
                refine lv_aload (pc := 81) hx hb dX8_take_81 (lv_at hl 0 rfl) ?_
                refine lv_aload_n (pc := 83) hx hb dX8_take_83 rfl (lv_at hl 2 rfl) ?_
                refine gf_X8_2 (pc := 84) C hW kdc_0 fl_X8_28 dX8_take_84 ?_
                refine lv_iload_n (pc := 87) hx hb dX8_take_87 rfl (lv_at hl 4 rfl) ?_
                obtain ⟨r15, hc13, h⟩ := o_b h
                refine g_virt (pc := 88) (st2 := [.int r15, .ref (z + q10), .ref (z + q3), .ref (z + 0)]) (rest := [.ref (z + q10), .ref (z + q3), .ref (z + 0)]) C hW hS (c_X6_owed (K := K - 1) (by omega) kdc_15 hc13) mw_X8_113 (kin_6 kdc_15) (Ek_6 kdc_15) rfl (hRoom (by omega) (by decide)) rfl rfl rfl (Nat.le_of_ble_eq_true rfl) hl.1 dX8_take_88 (fun H locs hW hS => ?_)
                refine lv_iload_n (pc := 91) hx hb dX8_take_91 rfl (lv_at hl 5 rfl) ?_
                obtain ⟨r17, σ18, hc15, h⟩ := o_b2 h
                refine g_virt (pc := 92) (st2 := [.int r17]) (rest := []) C hW hS (c_X8_bestOffers (K := K - 1) (by omega) ((ty_X8_sheetAt  hc0) q3 rfl) ((ty_X6_manAt kdc_15 hc7) q10 rfl) hc15) mw_X8_231 (kin_0 kdc_0) (Ek_0 kdc_0) rfl (hRoom (by omega) (by decide)) rfl rfl rfl (Nat.le_of_ble_eq_true rfl) hl.1 dX8_take_92 (fun H locs hW hS => ?_)
                exact g_ret (pc := 95) C hW hS rfl dX8_take_95 (congrArg (fun q => some (Value.int q)) (o_r h).1) (o_r h).2
              · replace h := o_neg hc12 h
                refine lv_iconst (pc := 76) (v := 0) hx hb dX8_take_76 (by decide) ?_
                exact g_ret (pc := 77) C hW hS rfl dX8_take_77 (congrArg (fun q => some (Value.int q)) (o_r h).1) (o_r h).2
            · replace h := o_neg hc11 h
              refine lv_bipush (pc := 65) (v := -7) hx hb dX8_take_65 (by decide) ?_
              exact g_ret (pc := 67) C hW hS rfl dX8_take_67 (congrArg (fun q => some (Value.int q)) (o_r h).1) (o_r h).2
      · replace h := o_pos hc6 h
        refine lv_bipush (pc := 35) (v := -2) hx hb dX8_take_35 (by decide) ?_
        exact g_ret (pc := 37) C hW hS rfl dX8_take_37 (congrArg (fun q => some (Value.int q)) (o_r h).1) (o_r h).2
    · replace h := o_pos hc3 h
      refine lv_bipush (pc := 24) (v := -11) hx hb dX8_take_24 (by decide) ?_
      exact g_ret (pc := 26) C hW hS rfl dX8_take_26 (congrArg (fun q => some (Value.int q)) (o_r h).1) (o_r h).2

theorem c_X8_ring {K : Nat}  (hK : 112 ≤ K) {σ : Mem} {v1 : Int32} {r : Int32} (h : f_X8_ring σ v1 = some r) : MC l D (Ec ac z) inC z ac (z, aK, aV) (Ac z) yX8_ring cX8_ring 3 (some .int) K [.ref (z + 0), .int v1] σ (some (.int r)) σ := by
  refine MC.of (fun q hq => by have := hq.1; show z ≤ q; omega) (plainFor_of_name (by decide)) (Nat.le_of_ble_eq_true rfl) ?_
  intro p e s m below meth c args C hW ls hl
  replace hl : lv_has ls 3 [(0, .ref (z + 0)), (1, .int v1)] := hl
  have hS : va_S (Ac z) s.heap s.heap [] := va_S.rf
  have hx := C.1.1
  have hb := C.1.2.1
  unfold f_X8_ring at h
  refine lv_iload_n (pc := 0) hx hb dX8_ring_0 rfl (lv_at hl 1 rfl) ?_
  refine lv_if_lt (pc := 1) (tgt := 9) hx hb dX8_ring_1 (by decide) (fun hc0 => ?_) (fun hc0 => ?_)
  · replace h := o_pos hc0 h
    refine lv_bipush (pc := 9) (v := -2) hx hb dX8_ring_9 (by decide) ?_
    exact g_ret (pc := 11) C hW hS rfl dX8_ring_11 (congrArg (fun q => some (Value.int q)) (Option.some.inj h).symm) rfl
  · replace h := o_neg hc0 h
    refine lv_iload_n (pc := 4) hx hb dX8_ring_4 rfl (lv_at hl 1 rfl) ?_
    refine lv_iconst (pc := 5) (v := 1) hx hb dX8_ring_5 (by decide) ?_
    refine lv_icmp_le (pc := 6) (tgt := 12) hx hb dX8_ring_6 (by decide) (fun hc1 => ?_) (fun hc1 => ?_)
    · replace h := o_pos hc1 h
      refine lv_aload_n (pc := 12) hx hb dX8_ring_12 rfl (lv_at hl 0 rfl) ?_
      refine gf_X8_2 (pc := 13) C hW kdc_0 fl_X8_28 dX8_ring_13 ?_
      obtain ⟨r4, hc2, h⟩ := o_b h
      refine g_virt (pc := 16) (st2 := [.int r4]) (rest := []) C hW hS (c_X6_firstRing (K := K - 1) (by omega) kdc_15 hc2) mw_X8_258 (kin_6 kdc_15) (Ek_6 kdc_15) rfl (hRoom (by omega) (by decide)) rfl rfl rfl (Nat.le_of_ble_eq_true rfl) hl.1 dX8_ring_16 (fun H locs hW hS => ?_)
      refine lv_istore_n (pc := 19) (lv' := [(2, .int r4), (0, .ref (z + 0)), (1, .int v1)]) hx hb dX8_ring_19 rfl hl (by decide) rfl (fun ls hl => ?_)
      refine lv_iload_n (pc := 20) hx hb dX8_ring_20 rfl (lv_at hl 2 rfl) ?_
      refine lv_if_ne (pc := 21) (tgt := 28) hx hb dX8_ring_21 (by decide) (fun hc4 => ?_) (fun hc4 => ?_)
      · replace h := o_neg hc4 h
        refine lv_aload_n (pc := 28) hx hb dX8_ring_28 rfl (lv_at hl 1 rfl) ?_
        refine gf_X8_2 (pc := 29) C hW kdc_0 fl_X8_28 dX8_ring_29 ?_
        refine lv_iload_n (pc := 32) hx hb dX8_ring_32 rfl (lv_at hl 0 rfl) ?_
        obtain ⟨r7, hc5, h⟩ := o_b h
        refine g_virt (pc := 33) (st2 := [.int r7]) (rest := []) C hW hS (c_X6_leastInches (K := K - 1) (by omega) kdc_15 hc5) mw_X8_261 (kin_6 kdc_15) (Ek_6 kdc_15) rfl (hRoom (by omega) (by decide)) rfl rfl rfl (Nat.le_of_ble_eq_true rfl) hl.1 dX8_ring_33 (fun H locs hW hS => ?_)
        exact g_ret (pc := 36) C hW hS rfl dX8_ring_36 (congrArg (fun q => some (Value.int q)) (Option.some.inj h).symm) rfl
      · replace h := o_pos hc4 h
        refine lv_iload_n (pc := 24) hx hb dX8_ring_24 rfl (lv_at hl 0 rfl) ?_
        refine lv_goto (pc := 25) (tgt := 36) hx hb dX8_ring_25 (by decide) ?_
        exact g_ret (pc := 36) C hW hS rfl dX8_ring_36 (congrArg (fun q => some (Value.int q)) (Option.some.inj h).symm) rfl
    · replace h := o_neg hc1 h
      refine lv_bipush (pc := 9) (v := -2) hx hb dX8_ring_9 (by decide) ?_
      exact g_ret (pc := 11) C hW hS rfl dX8_ring_11 (congrArg (fun q => some (Value.int q)) (Option.some.inj h).symm) rfl

theorem w_X8_clear_b4 (C : CX cX8_clear 4 RX8 (some .int) D ac p m c s args meth (z, aK, aV) (Ac z)) (hK : 112 ≤ K) {r : Int32} {σf : Mem}    : ∀ (n : Nat) (σ : Mem) (v1 : Int32) (v2 : Int32) {H : Heap} {locs : List Loc} {ls : Array Slot} (hW : WC D ac z σ H) (hS : va_S (Ac z) s.heap H locs) (hl : lv_has ls 4 [(0, .ref (z + 0)), (1, .int v1), (2, .int v2)]) (h : f_X8_clear_b4 n σ v1 v2 = some (r, σf)), W p l e (rma K 0 0) s m args below meth c H locs 0 0 (MQ below (QV D (Ec ac z) inC z (some (.int r)) σf (Ac z)) args s 0 0 (Ac z)) (F0 m 4 ls []) := by
  have hx := C.1.1
  have hb := C.1.2.1
  intro n
  induction n with
  | zero =>
    intro σ v1 v2 H locs ls  hW hS hl h
    cases h
  | succ n ih =>
    intro σ v1 v2 H locs ls  hW hS hl h
    rw [f_X8_clear_b4.eq_2] at h
    refine lv_iload_n (pc := 4) hx hb dX8_clear_4 rfl (lv_at hl 2 rfl) ?_
    refine lv_bipush (pc := 5) (v := 8) hx hb dX8_clear_5 (by decide) ?_
    refine lv_icmp_ge (pc := 7) (tgt := 42) hx hb dX8_clear_7 (by decide) (fun hc0 => ?_) (fun hc0 => ?_)
    · replace h := o_pos hc0 h
      refine lv_iload_n (pc := 42) hx hb dX8_clear_42 rfl (lv_at hl 1 rfl) ?_
      exact g_ret (pc := 43) C hW hS rfl dX8_clear_43 (congrArg (fun q => some (Value.int q)) (o_r h).1) (o_r h).2
    · replace h := o_neg hc0 h
      refine lv_aload_n (pc := 10) hx hb dX8_clear_10 rfl (lv_at hl 0 rfl) ?_
      refine gf_X8_2 (pc := 11) C hW kdc_0 fl_X8_28 dX8_clear_11 ?_
      obtain ⟨r3, hc1, h⟩ := o_b h
      refine g_virt (pc := 14) (st2 := [.int r3]) (rest := []) C hW hS (c_X6_firstRing (K := K - 1) (by omega) kdc_15 hc1) mw_X8_258 (kin_6 kdc_15) (Ek_6 kdc_15) rfl (hRoom (by omega) (by decide)) rfl rfl rfl (Nat.le_of_ble_eq_true rfl) hl.1 dX8_clear_14 (fun H locs hW hS => ?_)
      refine lv_istore_n (pc := 17) (lv' := [(3, .int r3), (0, .ref (z + 0)), (1, .int v1), (2, .int v2)]) hx hb dX8_clear_17 rfl hl (by decide) rfl (fun ls hl => ?_)
      refine lv_iload_n (pc := 18) hx hb dX8_clear_18 rfl (lv_at hl 0 rfl) ?_
      refine lv_if_ne (pc := 19) (tgt := 25) hx hb dX8_clear_19 (by decide) (fun hc3 => ?_) (fun hc3 => ?_)
      · replace h := o_neg hc3 h
        refine lv_iload_n (pc := 25) hx hb dX8_clear_25 rfl (lv_at hl 2 rfl) ?_
        refine lv_aload_n (pc := 26) hx hb dX8_clear_26 rfl (lv_at hl 1 rfl) ?_
        refine gf_X8_2 (pc := 27) C hW kdc_0 fl_X8_28 dX8_clear_27 ?_
        refine lv_iload_n (pc := 30) hx hb dX8_clear_30 rfl (lv_at hl 0 rfl) ?_
        obtain ⟨r6, σ7, hc4, h⟩ := o_b2 h
        refine g_virt (pc := 31) (st2 := [.int r6, .int v1]) (rest := [.int v1]) C hW hS (c_X6_clearRing (K := K - 1) (by omega) kdc_15 hc4) mw_X8_264 (kin_6 kdc_15) (Ek_6 kdc_15) rfl (hRoom (by omega) (by decide)) rfl rfl rfl (Nat.le_of_ble_eq_true rfl) hl.1 dX8_clear_31 (fun H locs hW hS => ?_)
        refine lv_iadd (pc := 34) hx hb dX8_clear_34 ?_
        refine lv_istore_n (pc := 35) (lv' := [(1, .int (v1 + r6)), (3, .int r3), (0, .ref (z + 0)), (2, .int v2)]) hx hb dX8_clear_35 rfl hl (by decide) rfl (fun ls hl => ?_)
        refine lv_iinc (pc := 36) (v := (v2 + 1)) (lv' := [(2, .int (v2 + 1)), (1, .int (v1 + r6)), (3, .int r3), (0, .ref (z + 0))]) hx hb dX8_clear_36 hl (k := 3) rfl rfl (by decide) rfl (fun ls hl => ?_)
        refine lv_goto (pc := 39) (tgt := 4) hx hb dX8_clear_39 (by decide) ?_
        exact ih σ7 (v1 + r6) (v2 + 1) hW hS (lv_sub hl [3, 1, 0] rfl) h
      · replace h := o_pos hc3 h
        refine lv_goto (pc := 22) (tgt := 42) hx hb dX8_clear_22 (by decide) ?_
        refine lv_iload_n (pc := 42) hx hb dX8_clear_42 rfl (lv_at hl 2 rfl) ?_
        exact g_ret (pc := 43) C hW hS rfl dX8_clear_43 (congrArg (fun q => some (Value.int q)) (o_r h).1) (o_r h).2

theorem c_X8_clear {K : Nat}  (hK : 112 ≤ K) {σ : Mem} {σf : Mem} {r : Int32} (h : f_X8_clear σ = some (r, σf)) : MC l D (Ec ac z) inC z ac (z, aK, aV) (Ac z) yX8_clear cX8_clear 4 (some .int) K [.ref (z + 0)] σ (some (.int r)) σf := by
  refine MC.of (fun q hq => by have := hq.1; show z ≤ q; omega) (plainFor_of_name (by decide)) (Nat.le_of_ble_eq_true rfl) ?_
  intro p e s m below meth c args C hW ls hl
  replace hl : lv_has ls 4 [(0, .ref (z + 0))] := hl
  have hS : va_S (Ac z) s.heap s.heap [] := va_S.rf
  have hx := C.1.1
  have hb := C.1.2.1
  unfold f_X8_clear at h
  refine lv_iconst (pc := 0) (v := 0) hx hb dX8_clear_0 (by decide) ?_
  refine lv_istore_n (pc := 1) (lv' := [(1, .int (0 : Int32)), (0, .ref (z + 0))]) hx hb dX8_clear_1 rfl hl (by decide) rfl (fun ls hl => ?_)
  refine lv_iconst (pc := 2) (v := 0) hx hb dX8_clear_2 (by decide) ?_
  refine lv_istore_n (pc := 3) (lv' := [(2, .int (0 : Int32)), (1, .int (0 : Int32)), (0, .ref (z + 0))]) hx hb dX8_clear_3 rfl hl (by decide) rfl (fun ls hl => ?_)
  exact w_X8_clear_b4 C hK FU σ (0 : Int32) (0 : Int32) hW hS (lv_sub hl [2, 1, 0] rfl) h

end
