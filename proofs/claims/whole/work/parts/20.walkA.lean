section
variable {p : Program} {l : Launch} {e : Env} {s : State} {m : MethodId} {args : Array Value} {below : List Frame} {meth : Method} {c : Code} {D : va_G} {ac : Nat → ClassId} {z : Nat} {aK aV : Nat → Nat} {K : Nat}

theorem c_X0_expect {K : Nat}  (hK : 0 ≤ K) {σ : Mem} {σf : Mem} {v1 : Int32} {v2 : Int32} {v3 : Int32} (h : f_X0_expect σ v1 v2 v3 = some σf) : MC l D (Ec ac z) inC z ac (z, aK, aV) (Ac z) yX0_expect cX0_expect 4 none K [.ref (z + 77), .int v1, .int v2, .int v3] σ none σf := by
  refine MC.of (fun q hq => by have := hq.1; show z ≤ q; omega) (plainFor_of_name (by decide)) (Nat.le_of_ble_eq_true rfl) ?_
  intro p e s m below meth c args C hW ls hl
  replace hl : lv_has ls 4 [(0, .ref (z + 77)), (1, .int v1), (2, .int v2), (3, .int v3)] := hl
  have hS : va_S (Ac z) s.heap s.heap [] := va_S.rf
  have hx := C.1.1
  have hb := C.1.2.1
  unfold f_X0_expect at h
  refine lv_iload_n (pc := 0) hx hb dX0_expect_0 rfl (lv_at hl 1 rfl) ?_
  refine lv_if_lt (pc := 1) (tgt := 22) hx hb dX0_expect_1 (by decide) (fun hc0 => ?_) (fun hc0 => ?_)
  · replace h := o_pos hc0 h
    exact g_vret (pc := 22) C hW hS dX0_expect_22 rfl (Option.some.inj h).symm
  · replace h := o_neg hc0 h
    refine lv_iload_n (pc := 4) hx hb dX0_expect_4 rfl (lv_at hl 1 rfl) ?_
    refine lv_aload_n (pc := 5) hx hb dX0_expect_5 rfl (lv_at hl 0 rfl) ?_
    refine gf_X0_0 (pc := 6) C hW kdc_77 fl_X0_9 dX0_expect_6 ?_
    refine ia_len (pc := 9) (v := 6) C hW kdc_78 (by rw [alc_78]; decide) dX0_expect_9 ?_
    refine lv_icmp_ge (pc := 10) (tgt := 22) hx hb dX0_expect_10 (by decide) (fun hc1 => ?_) (fun hc1 => ?_)
    · replace h := o_pos hc1 h
      exact g_vret (pc := 22) C hW hS dX0_expect_22 rfl (Option.some.inj h).symm
    · replace h := o_neg hc1 h
      refine lv_iload_n (pc := 13) hx hb dX0_expect_13 rfl (lv_at hl 1 rfl) ?_
      refine lv_aload_n (pc := 14) hx hb dX0_expect_14 rfl (lv_at hl 0 rfl) ?_
      refine gf_X0_1 (pc := 15) C hW kdc_77 fl_X0_15 dX0_expect_15 ?_
      refine ia_len (pc := 18) (v := 6) C hW kdc_79 (by rw [alc_79]; decide) dX0_expect_18 ?_
      refine lv_icmp_lt (pc := 19) (tgt := 23) hx hb dX0_expect_19 (by decide) (fun hc2 => ?_) (fun hc2 => ?_)
      · replace h := o_pos hc2 h
        refine lv_aload_n (pc := 23) hx hb dX0_expect_23 rfl (lv_at hl 0 rfl) ?_
        refine gf_X0_0 (pc := 24) C hW kdc_77 fl_X0_9 dX0_expect_24 ?_
        refine lv_iload_n (pc := 27) hx hb dX0_expect_27 rfl (lv_at hl 1 rfl) ?_
        refine lv_iload_n (pc := 28) hx hb dX0_expect_28 rfl (lv_at hl 2 rfl) ?_
        obtain ⟨hc3, h⟩ := o_chk h
        refine ia_st (pc := 29) C hW hS kdc_78 alc_78 rfl (inb_in hc3) dX0_expect_29 (fun H locs hW hS => ?_)
        refine lv_aload_n (pc := 30) hx hb dX0_expect_30 rfl (lv_at hl 0 rfl) ?_
        refine gf_X0_1 (pc := 31) C hW kdc_77 fl_X0_15 dX0_expect_31 ?_
        refine lv_iload_n (pc := 34) hx hb dX0_expect_34 rfl (lv_at hl 1 rfl) ?_
        refine lv_iload_n (pc := 35) hx hb dX0_expect_35 rfl (lv_at hl 3 rfl) ?_
        obtain ⟨hc4, h⟩ := o_chk h
        refine ia_st (pc := 36) C hW hS kdc_79 alc_79 rfl (inb_in hc4) dX0_expect_36 (fun H locs hW hS => ?_)
        obtain ⟨σ6, hσ6, h⟩ := o_d h
        replace hW : WC D ac z σ6 H := by rw [← hσ6]; exact hW
        refine lv_aload_n (pc := 37) hx hb dX0_expect_37 rfl (lv_at hl 0 rfl) ?_
        refine lv_dup (pc := 38) hx hb dX0_expect_38 rfl ?_
        refine gf_X0_2 (pc := 39) C hW kdc_77 fl_X0_18 dX0_expect_39 ?_
        refine lv_iconst (pc := 42) (v := 1) hx hb dX0_expect_42 (by decide) ?_
        refine lv_iload_n (pc := 43) hx hb dX0_expect_43 rfl (lv_at hl 1 rfl) ?_
        refine lv_ishl (pc := 44) hx hb dX0_expect_44 ?_
        refine lv_ior (pc := 45) hx hb dX0_expect_45 ?_
        refine pf_X0_2 (pc := 46) C hW hS kdc_77 fl_X0_18 dX0_expect_46 (fun H locs hW hS => ?_)
        obtain ⟨σ7, hσ7, h⟩ := o_d h
        replace hW : WC D ac z σ7 H := by rw [← hσ7]; exact hW
        exact g_vret (pc := 49) C hW hS dX0_expect_49 rfl (Option.some.inj h).symm
      · replace h := o_neg hc2 h
        exact g_vret (pc := 22) C hW hS dX0_expect_22 rfl (Option.some.inj h).symm

theorem w_X0_seatNext_b14 (C : CX cX0_seatNext 7 RX0 none D ac p m c s args meth (z, aK, aV) (Ac z)) {B : Nat} (hK : B + 1 ≤ K) {σf : Mem}  (rf_seatNext : Mem → Int32 → Int32 → Int32 → Int32 → Int32 → Option Mem) (hrf_seatNext : ∀ {K : Nat} (_ : B ≤ K) {σ : Mem} {σf : Mem} {v1 : Int32} {v2 : Int32} {v3 : Int32} {v4 : Int32} {v5 : Int32} (_ : rf_seatNext σ v1 v2 v3 v4 v5 = some σf), MC l D (Ec ac z) inC z ac (z, aK, aV) (Ac z) yX0_seatNext cX0_seatNext 7 none K [.ref (z + 77), .int v1, .int v2, .int v3, .int v4, .int v5] σ none σf) (σ : Mem) (v4 : Int32) (v5 : Int32)  {H : Heap} {locs : List Loc} {ls : Array Slot} (hW : WC D ac z σ H) (hS : va_S (Ac z) s.heap H locs) (hl : lv_has ls 7 [(0, .ref (z + 77)), (4, .int v4), (5, .int v5)]) (h : f_X0_seatNext_b14 rf_seatNext σ v4 v5 = some σf) : W p l e (rma K 0 0) s m args below meth c H locs 0 0 (MQ below (QV D (Ec ac z) inC z none σf (Ac z)) args s 0 0 (Ac z)) (F0 m 14 ls []) := by
  have hx := C.1.1
  have hb := C.1.2.1
  unfold f_X0_seatNext_b14 at h
  refine lv_aload_n (pc := 14) hx hb dX0_seatNext_14 rfl (lv_at hl 0 rfl) ?_
  refine gf_X0_3 (pc := 15) C hW kdc_77 fl_X0_22 dX0_seatNext_15 ?_
  refine lv_if_lt (pc := 18) (tgt := 30) hx hb dX0_seatNext_18 (by decide) (fun hc2 => ?_) (fun hc2 => ?_)
  · replace h := o_pos hc2 h
    refine lv_aload_n (pc := 30) hx hb dX0_seatNext_30 rfl (lv_at hl 0 rfl) ?_
    refine lv_iload (pc := 31) hx hb dX0_seatNext_31 (lv_at hl 1 rfl) ?_
    refine pf_X0_3 (pc := 33) C hW hS kdc_77 fl_X0_22 dX0_seatNext_33 (fun H locs hW hS => ?_)
    refine lv_aload_n (pc := 36) hx hb dX0_seatNext_36 rfl (lv_at hl 0 rfl) ?_
    refine lv_iload (pc := 37) hx hb dX0_seatNext_37 (lv_at hl 2 rfl) ?_
    refine pf_X0_4 (pc := 39) C hW hS kdc_77 fl_X0_25 dX0_seatNext_39 (fun H locs hW hS => ?_)
    exact g_vret (pc := 42) C hW hS dX0_seatNext_42 rfl (Option.some.inj h).symm
  · replace h := o_neg hc2 h
    refine lv_iload (pc := 21) hx hb dX0_seatNext_21 (lv_at hl 1 rfl) ?_
    refine lv_aload_n (pc := 23) hx hb dX0_seatNext_23 rfl (lv_at hl 0 rfl) ?_
    refine gf_X0_3 (pc := 24) C hW kdc_77 fl_X0_22 dX0_seatNext_24 ?_
    refine lv_icmp_ge (pc := 27) (tgt := 42) hx hb dX0_seatNext_27 (by decide) (fun hc3 => ?_) (fun hc3 => ?_)
    · replace h := o_pos hc3 h
      exact g_vret (pc := 42) C hW hS dX0_seatNext_42 rfl (Option.some.inj h).symm
    · replace h := o_neg hc3 h
      refine lv_aload_n (pc := 30) hx hb dX0_seatNext_30 rfl (lv_at hl 0 rfl) ?_
      refine lv_iload (pc := 31) hx hb dX0_seatNext_31 (lv_at hl 1 rfl) ?_
      refine pf_X0_3 (pc := 33) C hW hS kdc_77 fl_X0_22 dX0_seatNext_33 (fun H locs hW hS => ?_)
      refine lv_aload_n (pc := 36) hx hb dX0_seatNext_36 rfl (lv_at hl 0 rfl) ?_
      refine lv_iload (pc := 37) hx hb dX0_seatNext_37 (lv_at hl 2 rfl) ?_
      refine pf_X0_4 (pc := 39) C hW hS kdc_77 fl_X0_25 dX0_seatNext_39 (fun H locs hW hS => ?_)
      exact g_vret (pc := 42) C hW hS dX0_seatNext_42 rfl (Option.some.inj h).symm

theorem w_X0_seatNext_b131 (C : CX cX0_seatNext 7 RX0 none D ac p m c s args meth (z, aK, aV) (Ac z)) {B : Nat} (hK : B + 1 ≤ K) {σf : Mem}  (rf_seatNext : Mem → Int32 → Int32 → Int32 → Int32 → Int32 → Option Mem) (hrf_seatNext : ∀ {K : Nat} (_ : B ≤ K) {σ : Mem} {σf : Mem} {v1 : Int32} {v2 : Int32} {v3 : Int32} {v4 : Int32} {v5 : Int32} (_ : rf_seatNext σ v1 v2 v3 v4 v5 = some σf), MC l D (Ec ac z) inC z ac (z, aK, aV) (Ac z) yX0_seatNext cX0_seatNext 7 none K [.ref (z + 77), .int v1, .int v2, .int v3, .int v4, .int v5] σ none σf) (σ : Mem) (v1 : Int32) (v2 : Int32) (v3 : Int32) (v4 : Int32) (v5 : Int32) (v6 : Int32) (s46 : Mem → Int32 → Option Mem) (hs46 : ∀ (σ : Mem) (v6 : Int32) {H : Heap} {locs : List Loc} {ls : Array Slot} (_ : WC D ac z σ H) (_ : va_S (Ac z) s.heap H locs) (_ : lv_has ls 7 [(0, .ref (z + 77)), (1, .int v1), (2, .int v2), (3, .int v3), (4, .int v4), (5, .int v5), (6, .int v6)]) (_ : s46 σ v6 = some σf), W p l e (rma K 0 0) s m args below meth c H locs 0 0 (MQ below (QV D (Ec ac z) inC z none σf (Ac z)) args s 0 0 (Ac z)) (F0 m 46 ls [])) {H : Heap} {locs : List Loc} {ls : Array Slot} (hW : WC D ac z σ H) (hS : va_S (Ac z) s.heap H locs) (hl : lv_has ls 7 [(0, .ref (z + 77)), (1, .int v1), (2, .int v2), (3, .int v3), (4, .int v4), (5, .int v5), (6, .int v6)]) (h : f_X0_seatNext_b131 rf_seatNext s46 σ v1 v2 v3 v4 v5 v6 = some σf) : W p l e (rma K 0 0) s m args below meth c H locs 0 0 (MQ below (QV D (Ec ac z) inC z none σf (Ac z)) args s 0 0 (Ac z)) (F0 m 131 ls []) := by
  have hx := C.1.1
  have hb := C.1.2.1
  unfold f_X0_seatNext_b131 at h
  refine lv_iinc (pc := 131) (v := (v6 + 1)) (lv' := [(6, .int (v6 + 1)), (0, .ref (z + 77)), (1, .int v1), (2, .int v2), (3, .int v3), (4, .int v4), (5, .int v5)]) hx hb dX0_seatNext_131 hl (k := 6) rfl rfl (by decide) rfl (fun ls hl => ?_)
  refine lv_goto (pc := 134) (tgt := 46) hx hb dX0_seatNext_134 (by decide) ?_
  exact hs46 σ (v6 + 1) hW hS (lv_sub hl [1, 2, 3, 4, 5, 6, 0] rfl) h

theorem w_X0_seatNext_b46 (C : CX cX0_seatNext 7 RX0 none D ac p m c s args meth (z, aK, aV) (Ac z)) {B : Nat} (hK : B + 1 ≤ K) {σf : Mem}  (rf_seatNext : Mem → Int32 → Int32 → Int32 → Int32 → Int32 → Option Mem) (hrf_seatNext : ∀ {K : Nat} (_ : B ≤ K) {σ : Mem} {σf : Mem} {v1 : Int32} {v2 : Int32} {v3 : Int32} {v4 : Int32} {v5 : Int32} (_ : rf_seatNext σ v1 v2 v3 v4 v5 = some σf), MC l D (Ec ac z) inC z ac (z, aK, aV) (Ac z) yX0_seatNext cX0_seatNext 7 none K [.ref (z + 77), .int v1, .int v2, .int v3, .int v4, .int v5] σ none σf) (v1 : Int32) (v2 : Int32) (v3 : Int32) (v4 : Int32) (v5 : Int32)  : ∀ (n : Nat) (σ : Mem) (v6 : Int32) {H : Heap} {locs : List Loc} {ls : Array Slot} (hW : WC D ac z σ H) (hS : va_S (Ac z) s.heap H locs) (hl : lv_has ls 7 [(0, .ref (z + 77)), (1, .int v1), (2, .int v2), (3, .int v3), (4, .int v4), (5, .int v5), (6, .int v6)]) (h : f_X0_seatNext_b46 rf_seatNext v1 v2 v3 v4 v5 n σ v6 = some σf), W p l e (rma K 0 0) s m args below meth c H locs 0 0 (MQ below (QV D (Ec ac z) inC z none σf (Ac z)) args s 0 0 (Ac z)) (F0 m 46 ls []) := by
  have hx := C.1.1
  have hb := C.1.2.1
  intro n
  induction n with
  | zero =>
    intro σ v6 H locs ls  hW hS hl h
    cases h
  | succ n ih =>
    intro σ v6 H locs ls  hW hS hl h
    rw [f_X0_seatNext_b46.eq_2] at h
    refine lv_iload (pc := 46) hx hb dX0_seatNext_46 (lv_at hl 6 rfl) ?_
    refine lv_aload_n (pc := 48) hx hb dX0_seatNext_48 rfl (lv_at hl 0 rfl) ?_
    refine gf_X0_0 (pc := 49) C hW kdc_77 fl_X0_9 dX0_seatNext_49 ?_
    refine ia_len (pc := 52) (v := 6) C hW kdc_78 (by rw [alc_78]; decide) dX0_seatNext_52 ?_
    refine lv_icmp_ge (pc := 53) (tgt := 137) hx hb dX0_seatNext_53 (by decide) (fun hc4 => ?_) (fun hc4 => ?_)
    · replace h := o_pos hc4 h
      exact g_vret (pc := 137) C hW hS dX0_seatNext_137 rfl (Option.some.inj h).symm
    · replace h := o_neg hc4 h
      refine lv_iload (pc := 56) hx hb dX0_seatNext_56 (lv_at hl 6 rfl) ?_
      refine lv_aload_n (pc := 58) hx hb dX0_seatNext_58 rfl (lv_at hl 0 rfl) ?_
      refine gf_X0_1 (pc := 59) C hW kdc_77 fl_X0_15 dX0_seatNext_59 ?_
      refine ia_len (pc := 62) (v := 6) C hW kdc_79 (by rw [alc_79]; decide) dX0_seatNext_62 ?_
      refine lv_icmp_ge (pc := 63) (tgt := 137) hx hb dX0_seatNext_63 (by decide) (fun hc5 => ?_) (fun hc5 => ?_)
      · replace h := o_pos hc5 h
        exact g_vret (pc := 137) C hW hS dX0_seatNext_137 rfl (Option.some.inj h).symm
      · replace h := o_neg hc5 h
        refine lv_aload_n (pc := 66) hx hb dX0_seatNext_66 rfl (lv_at hl 0 rfl) ?_
        refine gf_X0_2 (pc := 67) C hW kdc_77 fl_X0_18 dX0_seatNext_67 ?_
        refine lv_iload (pc := 70) hx hb dX0_seatNext_70 (lv_at hl 6 rfl) ?_
        refine lv_ishr (pc := 72) hx hb dX0_seatNext_72 ?_
        refine lv_iconst (pc := 73) (v := 1) hx hb dX0_seatNext_73 (by decide) ?_
        refine lv_iand (pc := 74) hx hb dX0_seatNext_74 ?_
        refine lv_if_eq (pc := 75) (tgt := 131) hx hb dX0_seatNext_75 (by decide) (fun hc6 => ?_) (fun hc6 => ?_)
        · replace h := o_pos hc6 h
          exact w_X0_seatNext_b131 C hK rf_seatNext hrf_seatNext σ v1 v2 v3 v4 v5 v6 (f_X0_seatNext_b46 rf_seatNext v1 v2 v3 v4 v5 n) (fun σ v6 {H : Heap} {locs : List Loc} {ls : Array Slot}  hW hS hl h => ih σ v6 hW hS hl h) hW hS (lv_sub hl [0, 1, 2, 3, 4, 5, 6] rfl) h
        · replace h := o_neg hc6 h
          refine lv_iload_n (pc := 78) hx hb dX0_seatNext_78 rfl (lv_at hl 2 rfl) ?_
          refine lv_iload (pc := 79) hx hb dX0_seatNext_79 (lv_at hl 6 rfl) ?_
          refine lv_ishr (pc := 81) hx hb dX0_seatNext_81 ?_
          refine lv_iconst (pc := 82) (v := 1) hx hb dX0_seatNext_82 (by decide) ?_
          refine lv_iand (pc := 83) hx hb dX0_seatNext_83 ?_
          refine lv_if_ne (pc := 84) (tgt := 131) hx hb dX0_seatNext_84 (by decide) (fun hc7 => ?_) (fun hc7 => ?_)
          · replace h := o_neg hc7 h
            exact w_X0_seatNext_b131 C hK rf_seatNext hrf_seatNext σ v1 v2 v3 v4 v5 v6 (f_X0_seatNext_b46 rf_seatNext v1 v2 v3 v4 v5 n) (fun σ v6 {H : Heap} {locs : List Loc} {ls : Array Slot}  hW hS hl h => ih σ v6 hW hS hl h) hW hS (lv_sub hl [0, 1, 2, 3, 4, 5, 6] rfl) h
          · replace h := o_pos hc7 h
            refine lv_aload_n (pc := 87) hx hb dX0_seatNext_87 rfl (lv_at hl 0 rfl) ?_
            refine lv_iload_n (pc := 88) hx hb dX0_seatNext_88 rfl (lv_at hl 1 rfl) ?_
            refine lv_iconst (pc := 89) (v := 1) hx hb dX0_seatNext_89 (by decide) ?_
            refine lv_iadd (pc := 90) hx hb dX0_seatNext_90 ?_
            refine lv_iload_n (pc := 91) hx hb dX0_seatNext_91 rfl (lv_at hl 2 rfl) ?_
            refine lv_iconst (pc := 92) (v := 1) hx hb dX0_seatNext_92 (by decide) ?_
            refine lv_iload (pc := 93) hx hb dX0_seatNext_93 (lv_at hl 6 rfl) ?_
            refine lv_ishl (pc := 95) hx hb dX0_seatNext_95 ?_
            refine lv_ior (pc := 96) hx hb dX0_seatNext_96 ?_
            refine lv_iload_n (pc := 97) hx hb dX0_seatNext_97 rfl (lv_at hl 3 rfl) ?_
            refine lv_aload_n (pc := 98) hx hb dX0_seatNext_98 rfl (lv_at hl 0 rfl) ?_
            refine gf_X0_0 (pc := 99) C hW kdc_77 fl_X0_9 dX0_seatNext_99 ?_
            refine lv_iload (pc := 102) hx hb dX0_seatNext_102 (lv_at hl 6 rfl) ?_
            obtain ⟨hc8, h⟩ := o_chk h
            refine ia_ld (pc := 104) C hW kdc_78 alc_78 rfl (inb_in hc8) dX0_seatNext_104 ?_
            refine lv_iadd (pc := 105) hx hb dX0_seatNext_105 ?_
            refine lv_iload (pc := 106) hx hb dX0_seatNext_106 (lv_at hl 4 rfl) ?_
            refine lv_iload_n (pc := 108) hx hb dX0_seatNext_108 rfl (lv_at hl 3 rfl) ?_
            refine lv_aload_n (pc := 109) hx hb dX0_seatNext_109 rfl (lv_at hl 0 rfl) ?_
            refine gf_X0_1 (pc := 110) C hW kdc_77 fl_X0_15 dX0_seatNext_110 ?_
            refine lv_iload (pc := 113) hx hb dX0_seatNext_113 (lv_at hl 6 rfl) ?_
            obtain ⟨hc9, h⟩ := o_chk h
            refine ia_ld (pc := 115) C hW kdc_79 alc_79 rfl (inb_in hc9) dX0_seatNext_115 ?_
            refine lv_imul (pc := 116) hx hb dX0_seatNext_116 ?_
            refine lv_iadd (pc := 117) hx hb dX0_seatNext_117 ?_
            refine lv_iload (pc := 118) hx hb dX0_seatNext_118 (lv_at hl 5 rfl) ?_
            refine lv_bipush (pc := 120) (v := 10) hx hb dX0_seatNext_120 (by decide) ?_
            refine lv_imul (pc := 122) hx hb dX0_seatNext_122 ?_
            refine lv_iload (pc := 123) hx hb dX0_seatNext_123 (lv_at hl 6 rfl) ?_
            refine lv_iadd (pc := 125) hx hb dX0_seatNext_125 ?_
            refine lv_iconst (pc := 126) (v := 1) hx hb dX0_seatNext_126 (by decide) ?_
            refine lv_iadd (pc := 127) hx hb dX0_seatNext_127 ?_
            obtain ⟨σ12, hc10, h⟩ := o_b h
            refine g_stat (pc := 128) (st2 := []) (rest := []) C hW hS (hrf_seatNext (K := K - 1) (by omega) hc10) mw_X0_28 (hRoom (by omega) (by decide)) rfl rfl rfl (Nat.le_of_ble_eq_true rfl) hl.1 dX0_seatNext_128 (fun H locs hW hS => ?_)
            exact w_X0_seatNext_b131 C hK rf_seatNext hrf_seatNext σ12 v1 v2 v3 v4 v5 v6 (f_X0_seatNext_b46 rf_seatNext v1 v2 v3 v4 v5 n) (fun σ v6 {H : Heap} {locs : List Loc} {ls : Array Slot}  hW hS hl h => ih σ v6 hW hS hl h) hW hS (lv_sub hl [0, 1, 2, 3, 4, 5, 6] rfl) h

theorem c_X0_seatNext {K : Nat} {B : Nat} (rf_seatNext : Mem → Int32 → Int32 → Int32 → Int32 → Int32 → Option Mem) (hrf_seatNext : ∀ {K : Nat} (_ : B ≤ K) {σ : Mem} {σf : Mem} {v1 : Int32} {v2 : Int32} {v3 : Int32} {v4 : Int32} {v5 : Int32} (_ : rf_seatNext σ v1 v2 v3 v4 v5 = some σf), MC l D (Ec ac z) inC z ac (z, aK, aV) (Ac z) yX0_seatNext cX0_seatNext 7 none K [.ref (z + 77), .int v1, .int v2, .int v3, .int v4, .int v5] σ none σf) (hK : B + 1 ≤ K) {σ : Mem} {σf : Mem} {v1 : Int32} {v2 : Int32} {v3 : Int32} {v4 : Int32} {v5 : Int32} (h : f_X0_seatNext rf_seatNext σ v1 v2 v3 v4 v5 = some σf) : MC l D (Ec ac z) inC z ac (z, aK, aV) (Ac z) yX0_seatNext cX0_seatNext 7 none K [.ref (z + 77), .int v1, .int v2, .int v3, .int v4, .int v5] σ none σf := by
  refine MC.of (fun q hq => by have := hq.1; show z ≤ q; omega) (plainFor_of_name (by decide)) (Nat.le_of_ble_eq_true rfl) ?_
  intro p e s m below meth c args C hW ls hl
  replace hl : lv_has ls 7 [(0, .ref (z + 77)), (1, .int v1), (2, .int v2), (3, .int v3), (4, .int v4), (5, .int v5)] := hl
  have hS : va_S (Ac z) s.heap s.heap [] := va_S.rf
  have hx := C.1.1
  have hb := C.1.2.1
  unfold f_X0_seatNext at h
  refine lv_iload_n (pc := 0) hx hb dX0_seatNext_0 rfl (lv_at hl 2 rfl) ?_
  refine lv_aload_n (pc := 1) hx hb dX0_seatNext_1 rfl (lv_at hl 0 rfl) ?_
  refine gf_X0_2 (pc := 2) C hW kdc_77 fl_X0_18 dX0_seatNext_2 ?_
  refine lv_icmp_eq (pc := 5) (tgt := 14) hx hb dX0_seatNext_5 (by decide) (fun hc0 => ?_) (fun hc0 => ?_)
  · replace h := o_pos hc0 h
    exact w_X0_seatNext_b14 C hK rf_seatNext hrf_seatNext σ v4 v5 hW hS (lv_sub hl [0, 4, 5] rfl) h
  · replace h := o_neg hc0 h
    refine lv_iload_n (pc := 8) hx hb dX0_seatNext_8 rfl (lv_at hl 1 rfl) ?_
    refine lv_bipush (pc := 9) (v := 6) hx hb dX0_seatNext_9 (by decide) ?_
    refine lv_icmp_lt (pc := 11) (tgt := 43) hx hb dX0_seatNext_11 (by decide) (fun hc1 => ?_) (fun hc1 => ?_)
    · replace h := o_pos hc1 h
      refine lv_iconst (pc := 43) (v := 0) hx hb dX0_seatNext_43 (by decide) ?_
      refine lv_istore (pc := 44) (lv' := [(6, .int (0 : Int32)), (0, .ref (z + 77)), (1, .int v1), (2, .int v2), (3, .int v3), (4, .int v4), (5, .int v5)]) hx hb dX0_seatNext_44 hl (by decide) rfl (fun ls hl => ?_)
      exact w_X0_seatNext_b46 C hK rf_seatNext hrf_seatNext v1 v2 v3 v4 v5 FU σ (0 : Int32) hW hS (lv_sub hl [1, 2, 3, 4, 5, 6, 0] rfl) h
    · replace h := o_neg hc1 h
      exact w_X0_seatNext_b14 C hK rf_seatNext hrf_seatNext σ v4 v5 hW hS (lv_sub hl [0, 4, 5] rfl) h

theorem c_X0_seatNext_F : ∀ (n : Nat), ∀ {K : Nat} (_ : n ≤ K) {σ : Mem} {σf : Mem} {v1 : Int32} {v2 : Int32} {v3 : Int32} {v4 : Int32} {v5 : Int32} (_ : f_X0_seatNext_F n σ v1 v2 v3 v4 v5 = some σf), MC l D (Ec ac z) inC z ac (z, aK, aV) (Ac z) yX0_seatNext cX0_seatNext 7 none K [.ref (z + 77), .int v1, .int v2, .int v3, .int v4, .int v5] σ none σf := by
  intro n
  induction n with
  | zero =>
    intros
    rename_i h
    cases h
  | succ n ih =>
    intro K hK σ σf v1 v2 v3 v4 v5  h
    exact c_X0_seatNext (B := n) (f_X0_seatNext_F n) (fun {K} => ih (K := K)) hK  h

theorem c_X0_seatNext_R {K : Nat} (hK : 110 ≤ K) {σ : Mem} {σf : Mem} {v1 : Int32} {v2 : Int32} {v3 : Int32} {v4 : Int32} {v5 : Int32} (h : f_X0_seatNext_R σ v1 v2 v3 v4 v5 = some σf) : MC l D (Ec ac z) inC z ac (z, aK, aV) (Ac z) yX0_seatNext cX0_seatNext 7 none K [.ref (z + 77), .int v1, .int v2, .int v3, .int v4, .int v5] σ none σf := c_X0_seatNext_F 12 (by omega)  h

theorem c_X0_findBest {K : Nat}  (hK : 111 ≤ K) {σ : Mem} {σf : Mem} (h : f_X0_findBest σ = some σf) : MC l D (Ec ac z) inC z ac (z, aK, aV) (Ac z) yX0_findBest cX0_findBest 1 none K [.ref (z + 77)] σ none σf := by
  refine MC.of (fun q hq => by have := hq.1; show z ≤ q; omega) (plainFor_of_name (by decide)) (Nat.le_of_ble_eq_true rfl) ?_
  intro p e s m below meth c args C hW ls hl
  replace hl : lv_has ls 1 [(0, .ref (z + 77))] := hl
  have hS : va_S (Ac z) s.heap s.heap [] := va_S.rf
  have hx := C.1.1
  have hb := C.1.2.1
  unfold f_X0_findBest at h
  refine lv_aload_n (pc := 0) hx hb dX0_findBest_0 rfl (lv_at hl 0 rfl) ?_
  refine lv_iconst (pc := 1) (v := -1) hx hb dX0_findBest_1 (by decide) ?_
  refine pf_X0_3 (pc := 2) C hW hS kdc_77 fl_X0_22 dX0_findBest_2 (fun H locs hW hS => ?_)
  refine lv_aload_n (pc := 5) hx hb dX0_findBest_5 rfl (lv_at hl 0 rfl) ?_
  refine lv_iconst (pc := 6) (v := 0) hx hb dX0_findBest_6 (by decide) ?_
  refine pf_X0_4 (pc := 7) C hW hS kdc_77 fl_X0_25 dX0_findBest_7 (fun H locs hW hS => ?_)
  refine lv_aload_n (pc := 10) hx hb dX0_findBest_10 rfl (lv_at hl 0 rfl) ?_
  refine lv_iconst (pc := 11) (v := 0) hx hb dX0_findBest_11 (by decide) ?_
  refine lv_iconst (pc := 12) (v := 0) hx hb dX0_findBest_12 (by decide) ?_
  refine lv_iconst (pc := 13) (v := 0) hx hb dX0_findBest_13 (by decide) ?_
  refine lv_iconst (pc := 14) (v := 0) hx hb dX0_findBest_14 (by decide) ?_
  refine lv_iconst (pc := 15) (v := 0) hx hb dX0_findBest_15 (by decide) ?_
  obtain ⟨σ2, hc0, h⟩ := o_b h
  refine g_stat (pc := 16) (st2 := []) (rest := []) C hW hS (c_X0_seatNext_R (K := K - 1) (by omega) hc0) mw_X0_28 (hRoom (by omega) (by decide)) rfl rfl rfl (Nat.le_of_ble_eq_true rfl) hl.1 dX0_findBest_16 (fun H locs hW hS => ?_)
  exact g_vret (pc := 19) C hW hS dX0_findBest_19 rfl (Option.some.inj h).symm

theorem c_X1_become {K : Nat}  (hK : 0 ≤ K) {σ : Mem} {σf : Mem} {v0 : Nat} {v1 : Option Nat} (hk0 : kd v0 = 9) (hk1 : ∀ k : Nat, v1 = some k → kd k = 9) (h : f_X1_become σ v0 v1 = some σf) : MC l D (Ec ac z) inC z ac (z, aK, aV) (Ac z) yX1_become cX1_become 2 none K [.ref (z + v0), rv z v1] σ none σf := by
  refine MC.of (fun q hq => by have := hq.1; show z ≤ q; omega) (plainFor_of_name (by decide)) (by cases v1 <;> exact Nat.le_of_ble_eq_true rfl) ?_
  intro p e s m below meth c args C hW ls hl
  replace hl : lv_has ls 2 [(0, .ref (z + v0)), (1, rv z v1)] := by cases v1 <;> exact hl
  have hS : va_S (Ac z) s.heap s.heap [] := va_S.rf
  have hx := C.1.1
  have hb := C.1.2.1
  unfold f_X1_become at h
  refine g_aloadq_n (pc := 0) (o := v1) C dX1_become_0 rfl (lv_at hl 1 rfl) ?_
  refine g_ifnonnull (pc := 1) (o := v1) (tgt := 5) C dX1_become_1 (by decide) (fun hn => ?_) (fun q1 hn => ?_)
  · subst hn
    replace h := o_nn h
    replace hl : lv_has ls 2 [(0, .ref (z + v0)), (1, .null)] := hl
    exact g_vret (pc := 4) C hW hS dX1_become_4 rfl (Option.some.inj h).symm
  · subst hn
    replace h := o_ns h
    replace hl : lv_has ls 2 [(0, .ref (z + v0)), (1, .ref (z + q1))] := hl
    refine lv_aload_n (pc := 5) hx hb dX1_become_5 rfl (lv_at hl 0 rfl) ?_
    refine lv_aload_n (pc := 6) hx hb dX1_become_6 rfl (lv_at hl 1 rfl) ?_
    refine gf_X1_0 (pc := 7) C hW (hk1 q1 rfl) fl_X1_9 dX1_become_7 ?_
    refine pf_X1_0 (pc := 10) C hW hS hk0 fl_X1_9 dX1_become_10 (fun H locs hW hS => ?_)
    refine lv_aload_n (pc := 13) hx hb dX1_become_13 rfl (lv_at hl 0 rfl) ?_
    refine lv_aload_n (pc := 14) hx hb dX1_become_14 rfl (lv_at hl 1 rfl) ?_
    refine gf_X1_1 (pc := 15) C hW (hk1 q1 rfl) fl_X1_15 dX1_become_15 ?_
    refine pf_X1_1 (pc := 18) C hW hS hk0 fl_X1_15 dX1_become_18 (fun H locs hW hS => ?_)
    obtain ⟨σ2, hσ2, h⟩ := o_d h
    replace hW : WC D ac z σ2 H := by rw [← hσ2]; exact hW
    refine lv_aload_n (pc := 21) hx hb dX1_become_21 rfl (lv_at hl 0 rfl) ?_
    refine lv_aload_n (pc := 22) hx hb dX1_become_22 rfl (lv_at hl 1 rfl) ?_
    refine gf_X1_2 (pc := 23) C hW (hk1 q1 rfl) fl_X1_18 dX1_become_23 ?_
    refine pf_X1_2 (pc := 26) C hW hS hk0 fl_X1_18 dX1_become_26 (fun H locs hW hS => ?_)
    refine lv_aload_n (pc := 29) hx hb dX1_become_29 rfl (lv_at hl 0 rfl) ?_
    refine lv_aload_n (pc := 30) hx hb dX1_become_30 rfl (lv_at hl 1 rfl) ?_
    refine gf_X1_3 (pc := 31) C hW (hk1 q1 rfl) fl_X1_21 dX1_become_31 ?_
    refine pf_X1_3 (pc := 34) C hW hS hk0 fl_X1_21 dX1_become_34 (fun H locs hW hS => ?_)
    obtain ⟨σ3, hσ3, h⟩ := o_d h
    replace hW : WC D ac z σ3 H := by rw [← hσ3]; exact hW
    refine lv_aload_n (pc := 37) hx hb dX1_become_37 rfl (lv_at hl 0 rfl) ?_
    refine lv_aload_n (pc := 38) hx hb dX1_become_38 rfl (lv_at hl 1 rfl) ?_
    refine gf_X1_4 (pc := 39) C hW (hk1 q1 rfl) fl_X1_24 dX1_become_39 ?_
    refine pf_X1_4 (pc := 42) C hW hS hk0 fl_X1_24 dX1_become_42 (fun H locs hW hS => ?_)
    refine lv_aload_n (pc := 45) hx hb dX1_become_45 rfl (lv_at hl 0 rfl) ?_
    refine lv_aload_n (pc := 46) hx hb dX1_become_46 rfl (lv_at hl 1 rfl) ?_
    refine gf_X1_5 (pc := 47) C hW (hk1 q1 rfl) fl_X1_27 dX1_become_47 ?_
    obtain ⟨hc3, h⟩ := o_chk h
    refine pf_X1_5 (pc := 50) C hW hS hk0 fl_X1_27 dX1_become_50 hc3 (fun H locs hW hS => ?_)
    obtain ⟨σ5, hσ5, h⟩ := o_d h
    replace hW : WC D ac z σ5 H := by rw [← hσ5]; exact hW
    exact g_vret (pc := 53) C hW hS dX1_become_53 rfl (Option.some.inj h).symm

theorem c_X1_growthOfYoung {K : Nat}  (hK : 0 ≤ K) {σ : Mem} {v0 : Nat} {v1 : Int32} {v2 : Int32} {r : Int32} (hk0 : kd v0 = 9) (h : f_X1_growthOfYoung σ v0 v1 v2 = r) : MC l D (Ec ac z) inC z ac (z, aK, aV) (Ac z) yX1_growthOfYoung cX1_growthOfYoung 3 (some .int) K [.ref (z + v0), .int v1, .int v2] σ (some (.int r)) σ := by
  refine MC.of (fun q hq => by have := hq.1; show z ≤ q; omega) (plainFor_of_name (by decide)) (Nat.le_of_ble_eq_true rfl) ?_
  intro p e s m below meth c args C hW ls hl
  replace hl : lv_has ls 3 [(0, .ref (z + v0)), (1, .int v1), (2, .int v2)] := hl
  have hS : va_S (Ac z) s.heap s.heap [] := va_S.rf
  have hx := C.1.1
  have hb := C.1.2.1
  unfold f_X1_growthOfYoung at h
  refine lv_iload_n (pc := 0) hx hb dX1_growthOfYoung_0 rfl (lv_at hl 1 rfl) ?_
  refine lv_iconst (pc := 1) (v := 2) hx hb dX1_growthOfYoung_1 (by decide) ?_
  refine lv_aload_n (pc := 2) hx hb dX1_growthOfYoung_2 rfl (lv_at hl 0 rfl) ?_
  refine gf_X1_1 (pc := 3) C hW hk0 fl_X1_15 dX1_growthOfYoung_3 ?_
  refine lv_imul (pc := 6) hx hb dX1_growthOfYoung_6 ?_
  refine lv_icmp_ge (pc := 7) (tgt := 14) hx hb dX1_growthOfYoung_7 (by decide) (fun hc0 => ?_) (fun hc0 => ?_)
  · replace h := o_pos hc0 h
    refine lv_iload_n (pc := 14) hx hb dX1_growthOfYoung_14 rfl (lv_at hl 2 rfl) ?_
    refine lv_iconst (pc := 15) (v := 1) hx hb dX1_growthOfYoung_15 (by decide) ?_
    refine lv_iadd (pc := 16) hx hb dX1_growthOfYoung_16 ?_
    exact g_ret (pc := 17) C hW hS rfl dX1_growthOfYoung_17 (congrArg (fun q => some (Value.int q)) h.symm) rfl
  · replace h := o_neg hc0 h
    refine lv_iconst (pc := 10) (v := 0) hx hb dX1_growthOfYoung_10 (by decide) ?_
    refine lv_goto (pc := 11) (tgt := 17) hx hb dX1_growthOfYoung_11 (by decide) ?_
    exact g_ret (pc := 17) C hW hS rfl dX1_growthOfYoung_17 (congrArg (fun q => some (Value.int q)) h.symm) rfl

theorem c_X1_isWinter {K : Nat}  (hK : 0 ≤ K) {σ : Mem} {v0 : Int32} {r : Int32} (h : f_X1_isWinter v0 = r) : MC l D (Ec ac z) inC z ac (z, aK, aV) (Ac z) yX1_isWinter cX1_isWinter 1 (some .boolean) K [.int v0] σ (some (.int r)) σ := by
  refine MC.of (fun q hq => by have := hq.1; show z ≤ q; omega) (plainFor_of_name (by decide)) (Nat.le_of_ble_eq_true rfl) ?_
  intro p e s m below meth c args C hW ls hl
  replace hl : lv_has ls 1 [(0, .int v0)] := hl
  have hS : va_S (Ac z) s.heap s.heap [] := va_S.rf
  have hx := C.1.1
  have hb := C.1.2.1
  unfold f_X1_isWinter at h
  refine lv_iload_n (pc := 0) hx hb dX1_isWinter_0 rfl (lv_at hl 0 rfl) ?_
  refine lv_bipush (pc := 1) (v := 52) hx hb dX1_isWinter_1 (by decide) ?_
  refine lv_irem (pc := 3) hx hb dX1_isWinter_3 (by decide) ?_
  refine lv_bipush (pc := 4) (v := 10) hx hb dX1_isWinter_4 (by decide) ?_
  refine lv_icmp_lt (pc := 6) (tgt := 18) hx hb dX1_isWinter_6 (by decide) (fun hc0 => ?_) (fun hc0 => ?_)
  · replace h := o_pos hc0 h
    refine lv_iconst (pc := 18) (v := 1) hx hb dX1_isWinter_18 (by decide) ?_
    refine lv_goto (pc := 19) (tgt := 23) hx hb dX1_isWinter_19 (by decide) ?_
    exact g_ret (pc := 23) C hW hS rfl dX1_isWinter_23 (congrArg (fun q => some (Value.int q)) h.symm) rfl
  · replace h := o_neg hc0 h
    refine lv_iload_n (pc := 9) hx hb dX1_isWinter_9 rfl (lv_at hl 0 rfl) ?_
    refine lv_bipush (pc := 10) (v := 52) hx hb dX1_isWinter_10 (by decide) ?_
    refine lv_irem (pc := 12) hx hb dX1_isWinter_12 (by decide) ?_
    refine lv_bipush (pc := 13) (v := 42) hx hb dX1_isWinter_13 (by decide) ?_
    refine lv_icmp_le (pc := 15) (tgt := 22) hx hb dX1_isWinter_15 (by decide) (fun hc1 => ?_) (fun hc1 => ?_)
    · replace h := o_pos hc1 h
      refine lv_iconst (pc := 22) (v := 0) hx hb dX1_isWinter_22 (by decide) ?_
      exact g_ret (pc := 23) C hW hS rfl dX1_isWinter_23 (congrArg (fun q => some (Value.int q)) h.symm) rfl
    · replace h := o_neg hc1 h
      refine lv_iconst (pc := 18) (v := 1) hx hb dX1_isWinter_18 (by decide) ?_
      refine lv_goto (pc := 19) (tgt := 23) hx hb dX1_isWinter_19 (by decide) ?_
      exact g_ret (pc := 23) C hW hS rfl dX1_isWinter_23 (congrArg (fun q => some (Value.int q)) h.symm) rfl

theorem c_X1_growth {K : Nat}  (hK : 1 ≤ K) {σ : Mem} {v0 : Nat} {v1 : Int32} {v2 : Int32} {r : Int32} (hk0 : kd v0 = 9) (h : f_X1_growth σ v0 v1 v2 = r) : MC l D (Ec ac z) inC z ac (z, aK, aV) (Ac z) yX1_growth cX1_growth 3 (some .int) K [.ref (z + v0), .int v1, .int v2] σ (some (.int r)) σ := by
  refine MC.of (fun q hq => by have := hq.1; show z ≤ q; omega) (plainFor_of_name (by decide)) (Nat.le_of_ble_eq_true rfl) ?_
  intro p e s m below meth c args C hW ls hl
  replace hl : lv_has ls 3 [(0, .ref (z + v0)), (1, .int v1), (2, .int v2)] := hl
  have hS : va_S (Ac z) s.heap s.heap [] := va_S.rf
  have hx := C.1.1
  have hb := C.1.2.1
  unfold f_X1_growth at h
  refine lv_aload_n (pc := 0) hx hb dX1_growth_0 rfl (lv_at hl 0 rfl) ?_
  refine gf_X1_0 (pc := 1) C hW hk0 fl_X1_9 dX1_growth_1 ?_
  by_cases hc0 : (σ v0 0) = 1
  · replace h := o_pos hc0 h
    refine lv_tableIn (pc := 4) (off := 36) (tgt := 40) hx hb dX1_growth_4 (by rw [hc0]; decide) (by rw [hc0]; decide) (by rw [hc0]; rfl) (by decide) ?_
    refine lv_iload_n (pc := 40) hx hb dX1_growth_40 rfl (lv_at hl 2 rfl) ?_
    refine lv_iconst (pc := 41) (v := 2) hx hb dX1_growth_41 (by decide) ?_
    refine lv_idiv (pc := 42) hx hb dX1_growth_42 (by decide) ?_
    exact g_ret (pc := 43) C hW hS rfl dX1_growth_43 (congrArg (fun q => some (Value.int q)) h.symm) rfl
  replace h := o_neg hc0 h
  by_cases hc1 : (σ v0 0) = 2
  · replace h := o_pos hc1 h
    refine lv_tableIn (pc := 4) (off := 40) (tgt := 44) hx hb dX1_growth_4 (by rw [hc1]; decide) (by rw [hc1]; decide) (by rw [hc1]; rfl) (by decide) ?_
    refine lv_aload_n (pc := 44) hx hb dX1_growth_44 rfl (lv_at hl 0 rfl) ?_
    refine lv_iload_n (pc := 45) hx hb dX1_growth_45 rfl (lv_at hl 1 rfl) ?_
    refine lv_iload_n (pc := 46) hx hb dX1_growth_46 rfl (lv_at hl 2 rfl) ?_
    refine g_virt (pc := 47) (st2 := [.int (f_X1_growthOfYoung σ v0 v1 v2)]) (rest := []) C hW hS (c_X1_growthOfYoung (K := K - 1) (by omega) hk0 rfl) mw_X1_31 (kin_9 hk0) (Ek_9 hk0) rfl (hRoom (by omega) (by decide)) rfl rfl rfl (Nat.le_of_ble_eq_true rfl) hl.1 dX1_growth_47 (fun H locs hW hS => ?_)
    exact g_ret (pc := 50) C hW hS rfl dX1_growth_50 (congrArg (fun q => some (Value.int q)) h.symm) rfl
  replace h := o_neg hc1 h
  by_cases hc2 : (σ v0 0) = 3
  · replace h := o_pos hc2 h
    refine lv_tableIn (pc := 4) (off := 47) (tgt := 51) hx hb dX1_growth_4 (by rw [hc2]; decide) (by rw [hc2]; decide) (by rw [hc2]; rfl) (by decide) ?_
    refine lv_iload_n (pc := 51) hx hb dX1_growth_51 rfl (lv_at hl 2 rfl) ?_
    refine lv_iconst (pc := 52) (v := 2) hx hb dX1_growth_52 (by decide) ?_
    refine lv_idiv (pc := 53) hx hb dX1_growth_53 (by decide) ?_
    refine lv_aload_n (pc := 54) hx hb dX1_growth_54 rfl (lv_at hl 0 rfl) ?_
    refine gf_X1_1 (pc := 55) C hW hk0 fl_X1_15 dX1_growth_55 ?_
    refine lv_iconst (pc := 58) (v := 3) hx hb dX1_growth_58 (by decide) ?_
    refine lv_idiv (pc := 59) hx hb dX1_growth_59 (by decide) ?_
    refine lv_iadd (pc := 60) hx hb dX1_growth_60 ?_
    exact g_ret (pc := 61) C hW hS rfl dX1_growth_61 (congrArg (fun q => some (Value.int q)) h.symm) rfl
  replace h := o_neg hc2 h
  by_cases hc3 : (σ v0 0) = 4
  · replace h := o_pos hc3 h
    refine lv_tableIn (pc := 4) (off := 58) (tgt := 62) hx hb dX1_growth_4 (by rw [hc3]; decide) (by rw [hc3]; decide) (by rw [hc3]; rfl) (by decide) ?_
    refine lv_iload_n (pc := 62) hx hb dX1_growth_62 rfl (lv_at hl 1 rfl) ?_
    refine lv_iconst (pc := 63) (v := 4) hx hb dX1_growth_63 (by decide) ?_
    refine lv_irem (pc := 64) hx hb dX1_growth_64 (by decide) ?_
    refine lv_iconst (pc := 65) (v := 3) hx hb dX1_growth_65 (by decide) ?_
    refine lv_icmp_ne (pc := 66) (tgt := 73) hx hb dX1_growth_66 (by decide) (fun hc4 => ?_) (fun hc4 => ?_)
    · replace h := o_neg hc4 h
      refine lv_aload_n (pc := 73) hx hb dX1_growth_73 rfl (lv_at hl 0 rfl) ?_
      refine lv_iload_n (pc := 74) hx hb dX1_growth_74 rfl (lv_at hl 1 rfl) ?_
      refine lv_iload_n (pc := 75) hx hb dX1_growth_75 rfl (lv_at hl 2 rfl) ?_
      refine g_virt (pc := 76) (st2 := [.int (f_X1_growthOfYoung σ v0 v1 v2)]) (rest := []) C hW hS (c_X1_growthOfYoung (K := K - 1) (by omega) hk0 rfl) mw_X1_31 (kin_9 hk0) (Ek_9 hk0) rfl (hRoom (by omega) (by decide)) rfl rfl rfl (Nat.le_of_ble_eq_true rfl) hl.1 dX1_growth_76 (fun H locs hW hS => ?_)
      refine lv_iconst (pc := 79) (v := 2) hx hb dX1_growth_79 (by decide) ?_
      refine lv_iadd (pc := 80) hx hb dX1_growth_80 ?_
      exact g_ret (pc := 81) C hW hS rfl dX1_growth_81 (congrArg (fun q => some (Value.int q)) h.symm) rfl
    · replace h := o_pos hc4 h
      refine lv_iconst (pc := 69) (v := 0) hx hb dX1_growth_69 (by decide) ?_
      refine lv_goto (pc := 70) (tgt := 81) hx hb dX1_growth_70 (by decide) ?_
      exact g_ret (pc := 81) C hW hS rfl dX1_growth_81 (congrArg (fun q => some (Value.int q)) h.symm) rfl
  replace h := o_neg hc3 h
  by_cases hc5 : (σ v0 0) = 5
  · replace h := o_pos hc5 h
    refine lv_tableIn (pc := 4) (off := 78) (tgt := 82) hx hb dX1_growth_4 (by rw [hc5]; decide) (by rw [hc5]; decide) (by rw [hc5]; rfl) (by decide) ?_
    refine lv_iload_n (pc := 82) hx hb dX1_growth_82 rfl (lv_at hl 1 rfl) ?_
    refine g_stat (pc := 83) (st2 := [.int (f_X1_isWinter v1)]) (rest := []) C hW hS (c_X1_isWinter (K := K - 1) (by omega) rfl) mw_X1_35 (hRoom (by omega) (by decide)) rfl rfl rfl (Nat.le_of_ble_eq_true rfl) hl.1 dX1_growth_83 (fun H locs hW hS => ?_)
    refine lv_if_eq (pc := 86) (tgt := 95) hx hb dX1_growth_86 (by decide) (fun hc6 => ?_) (fun hc6 => ?_)
    · replace h := o_pos hc6 h
      refine lv_iload_n (pc := 95) hx hb dX1_growth_95 rfl (lv_at hl 2 rfl) ?_
      refine lv_aload_n (pc := 96) hx hb dX1_growth_96 rfl (lv_at hl 0 rfl) ?_
      refine gf_X1_1 (pc := 97) C hW hk0 fl_X1_15 dX1_growth_97 ?_
      refine lv_iconst (pc := 100) (v := 2) hx hb dX1_growth_100 (by decide) ?_
      refine lv_idiv (pc := 101) hx hb dX1_growth_101 (by decide) ?_
      refine lv_iadd (pc := 102) hx hb dX1_growth_102 ?_
      exact g_ret (pc := 103) C hW hS rfl dX1_growth_103 (congrArg (fun q => some (Value.int q)) h.symm) rfl
    · replace h := o_neg hc6 h
      refine lv_iload_n (pc := 89) hx hb dX1_growth_89 rfl (lv_at hl 2 rfl) ?_
      refine lv_iconst (pc := 90) (v := 3) hx hb dX1_growth_90 (by decide) ?_
      refine lv_idiv (pc := 91) hx hb dX1_growth_91 (by decide) ?_
      refine lv_goto (pc := 92) (tgt := 103) hx hb dX1_growth_92 (by decide) ?_
      exact g_ret (pc := 103) C hW hS rfl dX1_growth_103 (congrArg (fun q => some (Value.int q)) h.symm) rfl
  replace h := o_neg hc5 h
  have hzhc0 := lv_neT (k := 1) (a := 1) hc0 (by decide)
  have hzhc1 := lv_neT (k := 2) (a := 2) hc1 (by decide)
  have hzhc2 := lv_neT (k := 3) (a := 3) hc2 (by decide)
  have hzhc3 := lv_neT (k := 4) (a := 4) hc3 (by decide)
  have hzhc5 := lv_neT (k := 5) (a := 5) hc5 (by decide)
  refine lv_tableOut (pc := 4) (tgt := 104) hx hb dX1_growth_4 (by omega) (by decide) ?_
  refine lv_iload_n (pc := 104) hx hb dX1_growth_104 rfl (lv_at hl 2 rfl) ?_
  exact g_ret (pc := 105) C hW hS rfl dX1_growth_105 (congrArg (fun q => some (Value.int q)) h.symm) rfl

theorem c_J9_max_7cf53 {K : Nat}  (hK : 0 ≤ K) {σ : Mem} {v0 : Int32} {v1 : Int32} {r : Int32} (h : f_J9_max_7cf53 v0 v1 = r) : MC l D (Ec ac z) inC z ac (z, aK, aV) (Ac z) yJ9_max_7cf53 cJ9_max_7cf53 2 (some .int) K [.int v0, .int v1] σ (some (.int r)) σ := by
  refine MC.of (fun q hq => by have := hq.1; show z ≤ q; omega) (by decide +kernel) (Nat.le_of_ble_eq_true rfl) ?_
  intro p e s m below meth c args C hW ls hl
  replace hl : lv_has ls 2 [(0, .int v0), (1, .int v1)] := hl
  have hS : va_S (Ac z) s.heap s.heap [] := va_S.rf
  have hx := C.1.1
  have hb := C.1.2.1
  unfold f_J9_max_7cf53 at h
  refine lv_iload_n (pc := 0) hx hb dJ9_max_7cf53_0 rfl (lv_at hl 0 rfl) ?_
  refine lv_iload_n (pc := 1) hx hb dJ9_max_7cf53_1 rfl (lv_at hl 1 rfl) ?_
  refine lv_icmp_lt (pc := 2) (tgt := 9) hx hb dJ9_max_7cf53_2 (by decide) (fun hc0 => ?_) (fun hc0 => ?_)
  · replace h := o_pos hc0 h
    refine lv_iload_n (pc := 9) hx hb dJ9_max_7cf53_9 rfl (lv_at hl 1 rfl) ?_
    exact g_ret (pc := 10) C hW hS rfl dJ9_max_7cf53_10 (congrArg (fun q => some (Value.int q)) h.symm) rfl
  · replace h := o_neg hc0 h
    refine lv_iload_n (pc := 5) hx hb dJ9_max_7cf53_5 rfl (lv_at hl 0 rfl) ?_
    refine lv_goto (pc := 6) (tgt := 10) hx hb dJ9_max_7cf53_6 (by decide) ?_
    exact g_ret (pc := 10) C hW hS rfl dJ9_max_7cf53_10 (congrArg (fun q => some (Value.int q)) h.symm) rfl

theorem c_X1_counts {K : Nat}  (hK : 1 ≤ K) {σ : Mem} {v0 : Nat} {r : Int32} (hk0 : kd v0 = 9) (h : f_X1_counts σ v0 = r) : MC l D (Ec ac z) inC z ac (z, aK, aV) (Ac z) yX1_counts cX1_counts 1 (some .int) K [.ref (z + v0)] σ (some (.int r)) σ := by
  refine MC.of (fun q hq => by have := hq.1; show z ≤ q; omega) (plainFor_of_name (by decide)) (Nat.le_of_ble_eq_true rfl) ?_
  intro p e s m below meth c args C hW ls hl
  replace hl : lv_has ls 1 [(0, .ref (z + v0))] := hl
  have hS : va_S (Ac z) s.heap s.heap [] := va_S.rf
  have hx := C.1.1
  have hb := C.1.2.1
  unfold f_X1_counts at h
  refine lv_aload_n (pc := 0) hx hb dX1_counts_0 rfl (lv_at hl 0 rfl) ?_
  refine gf_X1_0 (pc := 1) C hW hk0 fl_X1_9 dX1_counts_1 ?_
  by_cases hc0 : (σ v0 0) = 1
  · replace h := o_pos hc0 h
    refine lv_tableIn (pc := 4) (off := 32) (tgt := 36) hx hb dX1_counts_4 (by rw [hc0]; decide) (by rw [hc0]; decide) (by rw [hc0]; rfl) (by decide) ?_
    refine lv_iconst (pc := 36) (v := 2) hx hb dX1_counts_36 (by decide) ?_
    refine lv_aload_n (pc := 37) hx hb dX1_counts_37 rfl (lv_at hl 0 rfl) ?_
    refine gf_X1_2 (pc := 38) C hW hk0 fl_X1_18 dX1_counts_38 ?_
    refine lv_imul (pc := 41) hx hb dX1_counts_41 ?_
    exact g_ret (pc := 42) C hW hS rfl dX1_counts_42 (congrArg (fun q => some (Value.int q)) h.symm) rfl
  replace h := o_neg hc0 h
  by_cases hc1 : (σ v0 0) = 3
  · replace h := o_pos hc1 h
    refine lv_tableIn (pc := 4) (off := 39) (tgt := 43) hx hb dX1_counts_4 (by rw [hc1]; decide) (by rw [hc1]; decide) (by rw [hc1]; rfl) (by decide) ?_
    refine lv_iconst (pc := 43) (v := 2) hx hb dX1_counts_43 (by decide) ?_
    refine lv_aload_n (pc := 44) hx hb dX1_counts_44 rfl (lv_at hl 0 rfl) ?_
    refine gf_X1_2 (pc := 45) C hW hk0 fl_X1_18 dX1_counts_45 ?_
    refine lv_imul (pc := 48) hx hb dX1_counts_48 ?_
    exact g_ret (pc := 49) C hW hS rfl dX1_counts_49 (congrArg (fun q => some (Value.int q)) h.symm) rfl
  replace h := o_neg hc1 h
  by_cases hc2 : (σ v0 0) = 4
  · replace h := o_pos hc2 h
    refine lv_tableIn (pc := 4) (off := 46) (tgt := 50) hx hb dX1_counts_4 (by rw [hc2]; decide) (by rw [hc2]; decide) (by rw [hc2]; rfl) (by decide) ?_
    refine lv_iconst (pc := 50) (v := 0) hx hb dX1_counts_50 (by decide) ?_
    refine lv_aload_n (pc := 51) hx hb dX1_counts_51 rfl (lv_at hl 0 rfl) ?_
    refine gf_X1_2 (pc := 52) C hW hk0 fl_X1_18 dX1_counts_52 ?_
    refine lv_bipush (pc := 55) (v := 9) hx hb dX1_counts_55 (by decide) ?_
    refine lv_aload_n (pc := 57) hx hb dX1_counts_57 rfl (lv_at hl 0 rfl) ?_
    refine gf_X1_1 (pc := 58) C hW hk0 fl_X1_15 dX1_counts_58 ?_
    refine lv_isub (pc := 61) hx hb dX1_counts_61 ?_
    refine lv_imul (pc := 62) hx hb dX1_counts_62 ?_
    refine lv_bipush (pc := 63) (v := 10) hx hb dX1_counts_63 (by decide) ?_
    refine lv_idiv (pc := 65) hx hb dX1_counts_65 (by decide) ?_
    refine g_stat (pc := 66) (st2 := [.int (f_J9_max_7cf53 (0 : Int32) (((σ v0 2) * ((9 : Int32) - (σ v0 1))) / (10 : Int32)))]) (rest := []) C hW hS (c_J9_max_7cf53 (K := K - 1) (by omega) rfl) mw_X1_39 (hRoom (by omega) (by decide)) rfl rfl rfl (Nat.le_of_ble_eq_true rfl) hl.1 dX1_counts_66 (fun H locs hW hS => ?_)
    exact g_ret (pc := 69) C hW hS rfl dX1_counts_69 (congrArg (fun q => some (Value.int q)) h.symm) rfl
  replace h := o_neg hc2 h
  refine g_swd (pc := 4) (tgt := 70) (lo := 1) (hi := 4) hx hb dX1_counts_4 (by decide) ?_ ?_
  · intro h1 h2
    have hzhc0 := lv_neT (k := 1) (a := 1) hc0 (by decide)
    have hzhc1 := lv_neT (k := 3) (a := 3) hc1 (by decide)
    have hzhc2 := lv_neT (k := 4) (a := 4) hc2 (by decide)
    have h3 : ((σ v0 0)).toInt = 2 := by omega
    rw [h3]; decide
  · skip
    refine lv_aload_n (pc := 70) hx hb dX1_counts_70 rfl (lv_at hl 0 rfl) ?_
    refine gf_X1_2 (pc := 71) C hW hk0 fl_X1_18 dX1_counts_71 ?_
    exact g_ret (pc := 74) C hW hS rfl dX1_counts_74 (congrArg (fun q => some (Value.int q)) h.symm) rfl

theorem c_X1_grace {K : Nat}  (hK : 0 ≤ K) {σ : Mem} {v0 : Nat} {r : Int32} (hk0 : kd v0 = 9) (h : f_X1_grace σ v0 = r) : MC l D (Ec ac z) inC z ac (z, aK, aV) (Ac z) yX1_grace cX1_grace 1 (some .int) K [.ref (z + v0)] σ (some (.int r)) σ := by
  refine MC.of (fun q hq => by have := hq.1; show z ≤ q; omega) (plainFor_of_name (by decide)) (Nat.le_of_ble_eq_true rfl) ?_
  intro p e s m below meth c args C hW ls hl
  replace hl : lv_has ls 1 [(0, .ref (z + v0))] := hl
  have hS : va_S (Ac z) s.heap s.heap [] := va_S.rf
  have hx := C.1.1
  have hb := C.1.2.1
  unfold f_X1_grace at h
  refine lv_aload_n (pc := 0) hx hb dX1_grace_0 rfl (lv_at hl 0 rfl) ?_
  refine gf_X1_0 (pc := 1) C hW hk0 fl_X1_9 dX1_grace_1 ?_
  by_cases hc0 : (σ v0 0) = 2
  · replace h := o_pos hc0 h
    refine lv_tableIn (pc := 4) (off := 28) (tgt := 32) hx hb dX1_grace_4 (by rw [hc0]; decide) (by rw [hc0]; decide) (by rw [hc0]; rfl) (by decide) ?_
    refine lv_iconst (pc := 32) (v := 1) hx hb dX1_grace_32 (by decide) ?_
    exact g_ret (pc := 33) C hW hS rfl dX1_grace_33 (congrArg (fun q => some (Value.int q)) h.symm) rfl
  replace h := o_neg hc0 h
  by_cases hc1 : (σ v0 0) = 3
  · replace h := o_pos hc1 h
    refine lv_tableIn (pc := 4) (off := 32) (tgt := 36) hx hb dX1_grace_4 (by rw [hc1]; decide) (by rw [hc1]; decide) (by rw [hc1]; rfl) (by decide) ?_
    refine lv_iconst (pc := 36) (v := 4) hx hb dX1_grace_36 (by decide) ?_
    exact g_ret (pc := 37) C hW hS rfl dX1_grace_37 (congrArg (fun q => some (Value.int q)) h.symm) rfl
  replace h := o_neg hc1 h
  by_cases hc2 : (σ v0 0) = 4
  · replace h := o_pos hc2 h
    refine lv_tableIn (pc := 4) (off := 30) (tgt := 34) hx hb dX1_grace_4 (by rw [hc2]; decide) (by rw [hc2]; decide) (by rw [hc2]; rfl) (by decide) ?_
    refine lv_iconst (pc := 34) (v := 1) hx hb dX1_grace_34 (by decide) ?_
    exact g_ret (pc := 35) C hW hS rfl dX1_grace_35 (congrArg (fun q => some (Value.int q)) h.symm) rfl
  replace h := o_neg hc2 h
  have hzhc0 := lv_neT (k := 2) (a := 2) hc0 (by decide)
  have hzhc1 := lv_neT (k := 3) (a := 3) hc1 (by decide)
  have hzhc2 := lv_neT (k := 4) (a := 4) hc2 (by decide)
  refine lv_tableOut (pc := 4) (tgt := 38) hx hb dX1_grace_4 (by omega) (by decide) ?_
  refine lv_iconst (pc := 38) (v := 0) hx hb dX1_grace_38 (by decide) ?_
  exact g_ret (pc := 39) C hW hS rfl dX1_grace_39 (congrArg (fun q => some (Value.int q)) h.symm) rfl

theorem w_X1_isOne_b25 (C : CX cX1_isOne 2 RX1 (some .boolean) D ac p m c s args meth (z, aK, aV) (Ac z)) (hK : 0 ≤ K) {r : Int32}   (σ : Mem) (v0 : Nat) (v1 : Int32)  {H : Heap} {locs : List Loc} {ls : Array Slot} (tv0 : kd v0 = 9) (hW : WC D ac z σ H) (hS : va_S (Ac z) s.heap H locs) (hl : lv_has ls 2 [(0, .ref (z + v0)), (1, .int v1)]) (h : f_X1_isOne_b25 σ v0 v1 = r) : W p l e (rma K 0 0) s m args below meth c H locs 0 0 (MQ below (QV D (Ec ac z) inC z (some (.int r)) σ (Ac z)) args s 0 0 (Ac z)) (F0 m 25 ls []) := by
  have hx := C.1.1
  have hb := C.1.2.1
  unfold f_X1_isOne_b25 at h
  refine lv_iload_n (pc := 25) hx hb dX1_isOne_25 rfl (lv_at hl 1 rfl) ?_
  refine lv_iconst (pc := 26) (v := 2) hx hb dX1_isOne_26 (by decide) ?_
  refine lv_icmp_ne (pc := 27) (tgt := 42) hx hb dX1_isOne_27 (by decide) (fun hc4 => ?_) (fun hc4 => ?_)
  · replace h := o_neg hc4 h
    refine lv_iconst (pc := 42) (v := 0) hx hb dX1_isOne_42 (by decide) ?_
    exact g_ret (pc := 43) C hW hS rfl dX1_isOne_43 (congrArg (fun q => some (Value.int q)) h.symm) rfl
  · replace h := o_pos hc4 h
    refine lv_aload_n (pc := 30) hx hb dX1_isOne_30 rfl (lv_at hl 0 rfl) ?_
    refine gf_X1_0 (pc := 31) C hW tv0 fl_X1_9 dX1_isOne_31 ?_
    refine lv_iconst (pc := 34) (v := 4) hx hb dX1_isOne_34 (by decide) ?_
    refine lv_icmp_ne (pc := 35) (tgt := 42) hx hb dX1_isOne_35 (by decide) (fun hc5 => ?_) (fun hc5 => ?_)
    · replace h := o_neg hc5 h
      refine lv_iconst (pc := 42) (v := 0) hx hb dX1_isOne_42 (by decide) ?_
      exact g_ret (pc := 43) C hW hS rfl dX1_isOne_43 (congrArg (fun q => some (Value.int q)) h.symm) rfl
    · replace h := o_pos hc5 h
      refine lv_iconst (pc := 38) (v := 1) hx hb dX1_isOne_38 (by decide) ?_
      refine lv_goto (pc := 39) (tgt := 43) hx hb dX1_isOne_39 (by decide) ?_
      exact g_ret (pc := 43) C hW hS rfl dX1_isOne_43 (congrArg (fun q => some (Value.int q)) h.symm) rfl

theorem c_X1_isOne {K : Nat}  (hK : 0 ≤ K) {σ : Mem} {v0 : Nat} {v1 : Int32} {r : Int32} (hk0 : kd v0 = 9) (h : f_X1_isOne σ v0 v1 = r) : MC l D (Ec ac z) inC z ac (z, aK, aV) (Ac z) yX1_isOne cX1_isOne 2 (some .boolean) K [.ref (z + v0), .int v1] σ (some (.int r)) σ := by
  refine MC.of (fun q hq => by have := hq.1; show z ≤ q; omega) (plainFor_of_name (by decide)) (Nat.le_of_ble_eq_true rfl) ?_
  intro p e s m below meth c args C hW ls hl
  replace hl : lv_has ls 2 [(0, .ref (z + v0)), (1, .int v1)] := hl
  have hS : va_S (Ac z) s.heap s.heap [] := va_S.rf
  have hx := C.1.1
  have hb := C.1.2.1
  unfold f_X1_isOne at h
  refine lv_iload_n (pc := 0) hx hb dX1_isOne_0 rfl (lv_at hl 1 rfl) ?_
  refine lv_if_eq (pc := 1) (tgt := 38) hx hb dX1_isOne_1 (by decide) (fun hc0 => ?_) (fun hc0 => ?_)
  · replace h := o_pos hc0 h
    refine lv_iconst (pc := 38) (v := 1) hx hb dX1_isOne_38 (by decide) ?_
    refine lv_goto (pc := 39) (tgt := 43) hx hb dX1_isOne_39 (by decide) ?_
    exact g_ret (pc := 43) C hW hS rfl dX1_isOne_43 (congrArg (fun q => some (Value.int q)) h.symm) rfl
  · replace h := o_neg hc0 h
    refine lv_iload_n (pc := 4) hx hb dX1_isOne_4 rfl (lv_at hl 1 rfl) ?_
    refine lv_aload_n (pc := 5) hx hb dX1_isOne_5 rfl (lv_at hl 0 rfl) ?_
    refine gf_X1_0 (pc := 6) C hW hk0 fl_X1_9 dX1_isOne_6 ?_
    refine lv_icmp_eq (pc := 9) (tgt := 38) hx hb dX1_isOne_9 (by decide) (fun hc1 => ?_) (fun hc1 => ?_)
    · replace h := o_pos hc1 h
      refine lv_iconst (pc := 38) (v := 1) hx hb dX1_isOne_38 (by decide) ?_
      refine lv_goto (pc := 39) (tgt := 43) hx hb dX1_isOne_39 (by decide) ?_
      exact g_ret (pc := 43) C hW hS rfl dX1_isOne_43 (congrArg (fun q => some (Value.int q)) h.symm) rfl
    · replace h := o_neg hc1 h
      refine lv_iload_n (pc := 12) hx hb dX1_isOne_12 rfl (lv_at hl 1 rfl) ?_
      refine lv_iconst (pc := 13) (v := 1) hx hb dX1_isOne_13 (by decide) ?_
      refine lv_icmp_ne (pc := 14) (tgt := 25) hx hb dX1_isOne_14 (by decide) (fun hc2 => ?_) (fun hc2 => ?_)
      · replace h := o_neg hc2 h
        exact w_X1_isOne_b25 C hK σ v0 v1 hk0 hW hS (lv_sub hl [0, 1] rfl) h
      · replace h := o_pos hc2 h
        refine lv_aload_n (pc := 17) hx hb dX1_isOne_17 rfl (lv_at hl 0 rfl) ?_
        refine gf_X1_0 (pc := 18) C hW hk0 fl_X1_9 dX1_isOne_18 ?_
        refine lv_iconst (pc := 21) (v := 3) hx hb dX1_isOne_21 (by decide) ?_
        refine lv_icmp_eq (pc := 22) (tgt := 38) hx hb dX1_isOne_22 (by decide) (fun hc3 => ?_) (fun hc3 => ?_)
        · replace h := o_pos hc3 h
          refine lv_iconst (pc := 38) (v := 1) hx hb dX1_isOne_38 (by decide) ?_
          refine lv_goto (pc := 39) (tgt := 43) hx hb dX1_isOne_39 (by decide) ?_
          exact g_ret (pc := 43) C hW hS rfl dX1_isOne_43 (congrArg (fun q => some (Value.int q)) h.symm) rfl
        · replace h := o_neg hc3 h
          exact w_X1_isOne_b25 C hK σ v0 v1 hk0 hW hS (lv_sub hl [0, 1] rfl) h

theorem c_X1_cut {K : Nat}  (hK : 1 ≤ K) {σ : Mem} {σf : Mem} {v0 : Nat} {v1 : Int32} (hk0 : kd v0 = 9) (h : f_X1_cut σ v0 v1 = σf) : MC l D (Ec ac z) inC z ac (z, aK, aV) (Ac z) yX1_cut cX1_cut 2 none K [.ref (z + v0), .int v1] σ none σf := by
  refine MC.of (fun q hq => by have := hq.1; show z ≤ q; omega) (plainFor_of_name (by decide)) (Nat.le_of_ble_eq_true rfl) ?_
  intro p e s m below meth c args C hW ls hl
  replace hl : lv_has ls 2 [(0, .ref (z + v0)), (1, .int v1)] := hl
  have hS : va_S (Ac z) s.heap s.heap [] := va_S.rf
  have hx := C.1.1
  have hb := C.1.2.1
  unfold f_X1_cut at h
  refine lv_aload_n (pc := 0) hx hb dX1_cut_0 rfl (lv_at hl 0 rfl) ?_
  refine lv_iconst (pc := 1) (v := 0) hx hb dX1_cut_1 (by decide) ?_
  refine lv_aload_n (pc := 2) hx hb dX1_cut_2 rfl (lv_at hl 0 rfl) ?_
  refine gf_X1_2 (pc := 3) C hW hk0 fl_X1_18 dX1_cut_3 ?_
  refine lv_iload_n (pc := 6) hx hb dX1_cut_6 rfl (lv_at hl 1 rfl) ?_
  refine lv_isub (pc := 7) hx hb dX1_cut_7 ?_
  refine g_stat (pc := 8) (st2 := [.int (f_J9_max_7cf53 (0 : Int32) ((σ v0 2) - v1)), .ref (z + v0)]) (rest := [.ref (z + v0)]) C hW hS (c_J9_max_7cf53 (K := K - 1) (by omega) rfl) mw_X1_39 (hRoom (by omega) (by decide)) rfl rfl rfl (Nat.le_of_ble_eq_true rfl) hl.1 dX1_cut_8 (fun H locs hW hS => ?_)
  refine pf_X1_2 (pc := 11) C hW hS hk0 fl_X1_18 dX1_cut_11 (fun H locs hW hS => ?_)
  obtain ⟨σ1, hσ1, h⟩ := o_d h
  replace hW : WC D ac z σ1 H := by rw [← hσ1]; exact hW
  exact g_vret (pc := 14) C hW hS dX1_cut_14 rfl h.symm

theorem c_X5_partOf {K : Nat}  (hK : 0 ≤ K) {σ : Mem} {v0 : Nat} {v1 : Int32} {r : Nat} (hk0 : TL σ v0) (h : f_X5_partOf σ v0 v1 = r) : MC l D (Ec ac z) inC z ac (z, aK, aV) (Ac z) yX5_partOf cX5_partOf 2 (some (.array .int)) K [.ref (z + v0), .int v1] σ (some (.ref (z + r))) σ := by
  refine MC.of (fun q hq => by have := hq.1; show z ≤ q; omega) (plainFor_of_name (by decide)) (Nat.le_of_ble_eq_true rfl) ?_
  intro p e s m below meth c args C hW ls hl
  replace hl : lv_has ls 2 [(0, .ref (z + v0)), (1, .int v1)] := hl
  have hS : va_S (Ac z) s.heap s.heap [] := va_S.rf
  have hx := C.1.1
  have hb := C.1.2.1
  unfold f_X5_partOf at h
  refine lv_iload_n (pc := 0) hx hb dX5_partOf_0 rfl (lv_at hl 1 rfl) ?_
  refine lv_if_ne (pc := 1) (tgt := 9) hx hb dX5_partOf_1 (by decide) (fun hc0 => ?_) (fun hc0 => ?_)
  · replace h := o_neg hc0 h
    refine lv_iload_n (pc := 9) hx hb dX5_partOf_9 rfl (lv_at hl 1 rfl) ?_
    refine lv_iconst (pc := 10) (v := 1) hx hb dX5_partOf_10 (by decide) ?_
    refine lv_icmp_ne (pc := 11) (tgt := 21) hx hb dX5_partOf_11 (by decide) (fun hc1 => ?_) (fun hc1 => ?_)
    · replace h := o_neg hc1 h
      refine lv_aload_n (pc := 21) hx hb dX5_partOf_21 rfl (lv_at hl 0 rfl) ?_
      refine gf_X5_2 (pc := 22) C hW hk0 fl_X5_18 dX5_partOf_22 ?_
      exact g_aret2 (pc := 25) C (Or.inr ⟨_, rfl⟩) hW hS dX5_partOf_25 (congrArg (fun q => some (Value.ref (z + q))) h.symm) rfl
    · replace h := o_pos hc1 h
      refine lv_aload_n (pc := 14) hx hb dX5_partOf_14 rfl (lv_at hl 0 rfl) ?_
      refine gf_X5_1 (pc := 15) C hW hk0 fl_X5_15 dX5_partOf_15 ?_
      refine lv_goto (pc := 18) (tgt := 25) hx hb dX5_partOf_18 (by decide) ?_
      exact g_aret2 (pc := 25) C (Or.inr ⟨_, rfl⟩) hW hS dX5_partOf_25 (congrArg (fun q => some (Value.ref (z + q))) h.symm) rfl
  · replace h := o_pos hc0 h
    refine lv_aload_n (pc := 4) hx hb dX5_partOf_4 rfl (lv_at hl 0 rfl) ?_
    refine gf_X5_0 (pc := 5) C hW hk0 fl_X5_9 dX5_partOf_5 ?_
    exact g_aret2 (pc := 8) C (Or.inr ⟨_, rfl⟩) hW hS dX5_partOf_8 (congrArg (fun q => some (Value.ref (z + q))) h.symm) rfl

theorem c_X3_operand {K : Nat}  (hK : 0 ≤ K) {σ : Mem} {v1 : Int32} {r : Int32} (h : f_X3_operand σ v1 = some r) : MC l D (Ec ac z) inC z ac (z, aK, aV) (Ac z) yX3_operand cX3_operand 3 (some .int) K [.ref (z + 1), .int v1] σ (some (.int r)) σ := by
  refine MC.of (fun q hq => by have := hq.1; show z ≤ q; omega) (plainFor_of_name (by decide)) (Nat.le_of_ble_eq_true rfl) ?_
  intro p e s m below meth c args C hW ls hl
  replace hl : lv_has ls 3 [(0, .ref (z + 1)), (1, .int v1)] := hl
  have hS : va_S (Ac z) s.heap s.heap [] := va_S.rf
  have hx := C.1.1
  have hb := C.1.2.1
  unfold f_X3_operand at h
  refine lv_iload_n (pc := 0) hx hb dX3_operand_0 rfl (lv_at hl 1 rfl) ?_
  refine lv_if_lt (pc := 1) (tgt := 6) hx hb dX3_operand_1 (by decide) (fun hc0 => ?_) (fun hc0 => ?_)
  · replace h := o_pos hc0 h
    refine lv_iconst (pc := 6) (v := -1) hx hb dX3_operand_6 (by decide) ?_
    refine lv_iload_n (pc := 7) hx hb dX3_operand_7 rfl (lv_at hl 1 rfl) ?_
    refine lv_isub (pc := 8) hx hb dX3_operand_8 ?_
    refine lv_istore_n (pc := 9) (lv' := [(2, .int ((-1 : Int32) - v1)), (0, .ref (z + 1)), (1, .int v1)]) hx hb dX3_operand_9 rfl hl (by decide) rfl (fun ls hl => ?_)
    refine lv_iload_n (pc := 10) hx hb dX3_operand_10 rfl (lv_at hl 0 rfl) ?_
    refine lv_if_lt (pc := 11) (tgt := 32) hx hb dX3_operand_11 (by decide) (fun hc1 => ?_) (fun hc1 => ?_)
    · replace h := o_pos hc1 h
      refine lv_iconst (pc := 32) (v := 0) hx hb dX3_operand_32 (by decide) ?_
      exact g_ret (pc := 33) C hW hS rfl dX3_operand_33 (congrArg (fun q => some (Value.int q)) (Option.some.inj h).symm) rfl
    · replace h := o_neg hc1 h
      refine lv_iload_n (pc := 14) hx hb dX3_operand_14 rfl (lv_at hl 0 rfl) ?_
      refine lv_aload_n (pc := 15) hx hb dX3_operand_15 rfl (lv_at hl 1 rfl) ?_
      refine gf_X3_3 (pc := 16) C hW kdc_1 fl_X3_21 dX3_operand_16 ?_
      refine ia_len (pc := 19) (v := 6) C hW kdc_4 (by rw [alc_4]; decide) dX3_operand_19 ?_
      refine lv_icmp_ge (pc := 20) (tgt := 32) hx hb dX3_operand_20 (by decide) (fun hc2 => ?_) (fun hc2 => ?_)
      · replace h := o_pos hc2 h
        refine lv_iconst (pc := 32) (v := 0) hx hb dX3_operand_32 (by decide) ?_
        exact g_ret (pc := 33) C hW hS rfl dX3_operand_33 (congrArg (fun q => some (Value.int q)) (Option.some.inj h).symm) rfl
      · replace h := o_neg hc2 h
        refine lv_aload_n (pc := 23) hx hb dX3_operand_23 rfl (lv_at hl 1 rfl) ?_
        refine gf_X3_3 (pc := 24) C hW kdc_1 fl_X3_21 dX3_operand_24 ?_
        refine lv_iload_n (pc := 27) hx hb dX3_operand_27 rfl (lv_at hl 0 rfl) ?_
        obtain ⟨hc3, h⟩ := o_chk h
        refine ia_ld (pc := 28) C hW kdc_4 alc_4 rfl (inb_in hc3) dX3_operand_28 ?_
        refine lv_goto (pc := 29) (tgt := 33) hx hb dX3_operand_29 (by decide) ?_
        exact g_ret (pc := 33) C hW hS rfl dX3_operand_33 (congrArg (fun q => some (Value.int q)) (Option.some.inj h).symm) rfl
  · replace h := o_neg hc0 h
    refine lv_iload_n (pc := 4) hx hb dX3_operand_4 rfl (lv_at hl 1 rfl) ?_
    exact g_ret (pc := 5) C hW hS rfl dX3_operand_5 (congrArg (fun q => some (Value.int q)) (Option.some.inj h).symm) rfl

theorem c_X3_joined {K : Nat}  (hK : 0 ≤ K) {σ : Mem} {v0 : Int32} {v1 : Int32} {v2 : Int32} {r : Int32} (h : f_X3_joined v0 v1 v2 = r) : MC l D (Ec ac z) inC z ac (z, aK, aV) (Ac z) yX3_joined cX3_joined 3 (some .int) K [.int v0, .int v1, .int v2] σ (some (.int r)) σ := by
  refine MC.of (fun q hq => by have := hq.1; show z ≤ q; omega) (plainFor_of_name (by decide)) (Nat.le_of_ble_eq_true rfl) ?_
  intro p e s m below meth c args C hW ls hl
  replace hl : lv_has ls 3 [(0, .int v0), (1, .int v1), (2, .int v2)] := hl
  have hS : va_S (Ac z) s.heap s.heap [] := va_S.rf
  have hx := C.1.1
  have hb := C.1.2.1
  unfold f_X3_joined at h
  refine lv_iload_n (pc := 0) hx hb dX3_joined_0 rfl (lv_at hl 0 rfl) ?_
  by_cases hc0 : v0 = -16
  · replace h := o_pos hc0 h
    refine lv_tableIn (pc := 1) (off := 101) (tgt := 102) hx hb dX3_joined_1 (by rw [hc0]; decide) (by rw [hc0]; decide) (by rw [hc0]; rfl) (by decide) ?_
    refine lv_iload_n (pc := 102) hx hb dX3_joined_102 rfl (lv_at hl 1 rfl) ?_
    refine lv_iload_n (pc := 103) hx hb dX3_joined_103 rfl (lv_at hl 2 rfl) ?_
    refine lv_imul (pc := 104) hx hb dX3_joined_104 ?_
    exact g_ret (pc := 105) C hW hS rfl dX3_joined_105 (congrArg (fun q => some (Value.int q)) h.symm) rfl
  replace h := o_neg hc0 h
  by_cases hc1 : v0 = -15
  · replace h := o_pos hc1 h
    refine lv_tableIn (pc := 1) (off := 97) (tgt := 98) hx hb dX3_joined_1 (by rw [hc1]; decide) (by rw [hc1]; decide) (by rw [hc1]; rfl) (by decide) ?_
    refine lv_iload_n (pc := 98) hx hb dX3_joined_98 rfl (lv_at hl 1 rfl) ?_
    refine lv_iload_n (pc := 99) hx hb dX3_joined_99 rfl (lv_at hl 2 rfl) ?_
    refine lv_isub (pc := 100) hx hb dX3_joined_100 ?_
    exact g_ret (pc := 101) C hW hS rfl dX3_joined_101 (congrArg (fun q => some (Value.int q)) h.symm) rfl
  replace h := o_neg hc1 h
  by_cases hc2 : v0 = -14
  · replace h := o_pos hc2 h
    refine lv_tableIn (pc := 1) (off := 93) (tgt := 94) hx hb dX3_joined_1 (by rw [hc2]; decide) (by rw [hc2]; decide) (by rw [hc2]; rfl) (by decide) ?_
    refine lv_iload_n (pc := 94) hx hb dX3_joined_94 rfl (lv_at hl 1 rfl) ?_
    refine lv_iload_n (pc := 95) hx hb dX3_joined_95 rfl (lv_at hl 2 rfl) ?_
    refine lv_iadd (pc := 96) hx hb dX3_joined_96 ?_
    exact g_ret (pc := 97) C hW hS rfl dX3_joined_97 (congrArg (fun q => some (Value.int q)) h.symm) rfl
  replace h := o_neg hc2 h
  by_cases hc3 : v0 = -13
  · replace h := o_pos hc3 h
    refine lv_tableIn (pc := 1) (off := 82) (tgt := 83) hx hb dX3_joined_1 (by rw [hc3]; decide) (by rw [hc3]; decide) (by rw [hc3]; rfl) (by decide) ?_
    refine lv_iload_n (pc := 83) hx hb dX3_joined_83 rfl (lv_at hl 1 rfl) ?_
    refine lv_iload_n (pc := 84) hx hb dX3_joined_84 rfl (lv_at hl 2 rfl) ?_
    refine lv_icmp_ne (pc := 85) (tgt := 92) hx hb dX3_joined_85 (by decide) (fun hc4 => ?_) (fun hc4 => ?_)
    · replace h := o_neg hc4 h
      refine lv_iconst (pc := 92) (v := 0) hx hb dX3_joined_92 (by decide) ?_
      exact g_ret (pc := 93) C hW hS rfl dX3_joined_93 (congrArg (fun q => some (Value.int q)) h.symm) rfl
    · replace h := o_pos hc4 h
      refine lv_iconst (pc := 88) (v := 1) hx hb dX3_joined_88 (by decide) ?_
      refine lv_goto (pc := 89) (tgt := 93) hx hb dX3_joined_89 (by decide) ?_
      exact g_ret (pc := 93) C hW hS rfl dX3_joined_93 (congrArg (fun q => some (Value.int q)) h.symm) rfl
  replace h := o_neg hc3 h
  by_cases hc5 : v0 = -12
  · replace h := o_pos hc5 h
    refine lv_tableIn (pc := 1) (off := 71) (tgt := 72) hx hb dX3_joined_1 (by rw [hc5]; decide) (by rw [hc5]; decide) (by rw [hc5]; rfl) (by decide) ?_
    refine lv_iload_n (pc := 72) hx hb dX3_joined_72 rfl (lv_at hl 1 rfl) ?_
    refine lv_iload_n (pc := 73) hx hb dX3_joined_73 rfl (lv_at hl 2 rfl) ?_
    refine lv_icmp_ge (pc := 74) (tgt := 81) hx hb dX3_joined_74 (by decide) (fun hc6 => ?_) (fun hc6 => ?_)
    · replace h := o_pos hc6 h
      refine lv_iconst (pc := 81) (v := 0) hx hb dX3_joined_81 (by decide) ?_
      exact g_ret (pc := 82) C hW hS rfl dX3_joined_82 (congrArg (fun q => some (Value.int q)) h.symm) rfl
    · replace h := o_neg hc6 h
      refine lv_iconst (pc := 77) (v := 1) hx hb dX3_joined_77 (by decide) ?_
      refine lv_goto (pc := 78) (tgt := 82) hx hb dX3_joined_78 (by decide) ?_
      exact g_ret (pc := 82) C hW hS rfl dX3_joined_82 (congrArg (fun q => some (Value.int q)) h.symm) rfl
  replace h := o_neg hc5 h
  by_cases hc7 : v0 = -11
  · replace h := o_pos hc7 h
    refine lv_tableIn (pc := 1) (off := 57) (tgt := 58) hx hb dX3_joined_1 (by rw [hc7]; decide) (by rw [hc7]; decide) (by rw [hc7]; rfl) (by decide) ?_
    refine lv_iload_n (pc := 58) hx hb dX3_joined_58 rfl (lv_at hl 1 rfl) ?_
    refine lv_if_eq (pc := 59) (tgt := 70) hx hb dX3_joined_59 (by decide) (fun hc8 => ?_) (fun hc8 => ?_)
    · replace h := o_pos hc8 h
      refine lv_iconst (pc := 70) (v := 0) hx hb dX3_joined_70 (by decide) ?_
      exact g_ret (pc := 71) C hW hS rfl dX3_joined_71 (congrArg (fun q => some (Value.int q)) h.symm) rfl
    · replace h := o_neg hc8 h
      refine lv_iload_n (pc := 62) hx hb dX3_joined_62 rfl (lv_at hl 2 rfl) ?_
      refine lv_if_eq (pc := 63) (tgt := 70) hx hb dX3_joined_63 (by decide) (fun hc9 => ?_) (fun hc9 => ?_)
      · replace h := o_pos hc9 h
        refine lv_iconst (pc := 70) (v := 0) hx hb dX3_joined_70 (by decide) ?_
        exact g_ret (pc := 71) C hW hS rfl dX3_joined_71 (congrArg (fun q => some (Value.int q)) h.symm) rfl
      · replace h := o_neg hc9 h
        refine lv_iconst (pc := 66) (v := 1) hx hb dX3_joined_66 (by decide) ?_
        refine lv_goto (pc := 67) (tgt := 71) hx hb dX3_joined_67 (by decide) ?_
        exact g_ret (pc := 71) C hW hS rfl dX3_joined_71 (congrArg (fun q => some (Value.int q)) h.symm) rfl
  replace h := o_neg hc7 h
  by_cases hc10 : v0 = -10
  · replace h := o_pos hc10 h
    refine lv_tableIn (pc := 1) (off := 43) (tgt := 44) hx hb dX3_joined_1 (by rw [hc10]; decide) (by rw [hc10]; decide) (by rw [hc10]; rfl) (by decide) ?_
    refine lv_iload_n (pc := 44) hx hb dX3_joined_44 rfl (lv_at hl 1 rfl) ?_
    refine lv_if_ne (pc := 45) (tgt := 52) hx hb dX3_joined_45 (by decide) (fun hc11 => ?_) (fun hc11 => ?_)
    · replace h := o_neg hc11 h
      refine lv_iconst (pc := 52) (v := 1) hx hb dX3_joined_52 (by decide) ?_
      refine lv_goto (pc := 53) (tgt := 57) hx hb dX3_joined_53 (by decide) ?_
      exact g_ret (pc := 57) C hW hS rfl dX3_joined_57 (congrArg (fun q => some (Value.int q)) h.symm) rfl
    · replace h := o_pos hc11 h
      refine lv_iload_n (pc := 48) hx hb dX3_joined_48 rfl (lv_at hl 2 rfl) ?_
      refine lv_if_eq (pc := 49) (tgt := 56) hx hb dX3_joined_49 (by decide) (fun hc12 => ?_) (fun hc12 => ?_)
      · replace h := o_pos hc12 h
        refine lv_iconst (pc := 56) (v := 0) hx hb dX3_joined_56 (by decide) ?_
        exact g_ret (pc := 57) C hW hS rfl dX3_joined_57 (congrArg (fun q => some (Value.int q)) h.symm) rfl
      · replace h := o_neg hc12 h
        refine lv_iconst (pc := 52) (v := 1) hx hb dX3_joined_52 (by decide) ?_
        refine lv_goto (pc := 53) (tgt := 57) hx hb dX3_joined_53 (by decide) ?_
        exact g_ret (pc := 57) C hW hS rfl dX3_joined_57 (congrArg (fun q => some (Value.int q)) h.symm) rfl
  replace h := o_neg hc10 h
  have hzhc0 := lv_neT (k := -16) (a := -16) hc0 (by decide)
  have hzhc1 := lv_neT (k := -15) (a := -15) hc1 (by decide)
  have hzhc2 := lv_neT (k := -14) (a := -14) hc2 (by decide)
  have hzhc3 := lv_neT (k := -13) (a := -13) hc3 (by decide)
  have hzhc5 := lv_neT (k := -12) (a := -12) hc5 (by decide)
  have hzhc7 := lv_neT (k := -11) (a := -11) hc7 (by decide)
  have hzhc10 := lv_neT (k := -10) (a := -10) hc10 (by decide)
  refine lv_tableOut (pc := 1) (tgt := 106) hx hb dX3_joined_1 (by omega) (by decide) ?_
  refine lv_iconst (pc := 106) (v := 0) hx hb dX3_joined_106 (by decide) ?_
  exact g_ret (pc := 107) C hW hS rfl dX3_joined_107 (congrArg (fun q => some (Value.int q)) h.symm) rfl

theorem w_X3_worth_b177 (C : CX cX3_worth 6 RX3 (some .int) D ac p m c s args meth (z, aK, aV) (Ac z)) (hK : 1 ≤ K) {r : Int32} {σf : Mem}   (σ : Mem) (v1 : Nat) (v2 : Int32) (v3 : Int32) (s4 : Mem → Int32 → Int32 → Option (Int32 × Mem)) (hs4 : ∀ (σ : Mem) (v2 : Int32) (v3 : Int32) {H : Heap} {locs : List Loc} {ls : Array Slot} (_ : CL σ v1) (_ : WC D ac z σ H) (_ : va_S (Ac z) s.heap H locs) (_ : lv_has ls 6 [(0, .ref (z + 1)), (1, .ref (z + v1)), (2, .int v2), (3, .int v3)]) (_ : s4 σ v2 v3 = some (r, σf)), W p l e (rma K 0 0) s m args below meth c H locs 0 0 (MQ below (QV D (Ec ac z) inC z (some (.int r)) σf (Ac z)) args s 0 0 (Ac z)) (F0 m 4 ls [])) {H : Heap} {locs : List Loc} {ls : Array Slot} (tv1 : CL σ v1) (hW : WC D ac z σ H) (hS : va_S (Ac z) s.heap H locs) (hl : lv_has ls 6 [(0, .ref (z + 1)), (1, .ref (z + v1)), (2, .int v2), (3, .int v3)]) (h : f_X3_worth_b177 s4 σ v1 v2 v3 = some (r, σf)) : W p l e (rma K 0 0) s m args below meth c H locs 0 0 (MQ below (QV D (Ec ac z) inC z (some (.int r)) σf (Ac z)) args s 0 0 (Ac z)) (F0 m 177 ls []) := by
  have hx := C.1.1
  have hb := C.1.2.1
  unfold f_X3_worth_b177 at h
  refine lv_iinc (pc := 177) (v := (v3 + 1)) (lv' := [(3, .int (v3 + 1)), (0, .ref (z + 1)), (1, .ref (z + v1)), (2, .int v2)]) hx hb dX3_worth_177 hl (k := 3) rfl rfl (by decide) rfl (fun ls hl => ?_)
  refine lv_goto (pc := 180) (tgt := 4) hx hb dX3_worth_180 (by decide) ?_
  exact hs4 σ v2 (v3 + 1) tv1 hW hS (lv_sub hl [1, 2, 3, 0] rfl) h

theorem w_X3_worth_b125 (C : CX cX3_worth 6 RX3 (some .int) D ac p m c s args meth (z, aK, aV) (Ac z)) (hK : 1 ≤ K) {r : Int32} {σf : Mem}   (σ : Mem) (v1 : Nat) (v2 : Int32) (v3 : Int32) (k1 : Int32) (k2 : Int32) (s4 : Mem → Int32 → Int32 → Option (Int32 × Mem)) (hs4 : ∀ (σ : Mem) (v2 : Int32) (v3 : Int32) {H : Heap} {locs : List Loc} {ls : Array Slot} (_ : CL σ v1) (_ : WC D ac z σ H) (_ : va_S (Ac z) s.heap H locs) (_ : lv_has ls 6 [(0, .ref (z + 1)), (1, .ref (z + v1)), (2, .int v2), (3, .int v3)]) (_ : s4 σ v2 v3 = some (r, σf)), W p l e (rma K 0 0) s m args below meth c H locs 0 0 (MQ below (QV D (Ec ac z) inC z (some (.int r)) σf (Ac z)) args s 0 0 (Ac z)) (F0 m 4 ls [])) {H : Heap} {locs : List Loc} {ls : Array Slot} (tv1 : CL σ v1) (hW : WC D ac z σ H) (hS : va_S (Ac z) s.heap H locs) (hl : lv_has ls 6 [(0, .ref (z + 1)), (1, .ref (z + v1)), (2, .int v2), (3, .int v3)]) (h : f_X3_worth_b125 s4 σ v1 v2 v3 k1 k2 = some (r, σf)) : W p l e (rma K 0 0) s m args below meth c H locs 0 0 (MQ below (QV D (Ec ac z) inC z (some (.int r)) σf (Ac z)) args s 0 0 (Ac z)) (F0 m 125 ls [.int k2, .int k1, .ref (z + 3)]) := by
  have hx := C.1.1
  have hb := C.1.2.1
  unfold f_X3_worth_b125 at h
  obtain ⟨hc21, h⟩ := o_chk h
  refine ia_st (pc := 125) C hW hS kdc_3 alc_3 rfl (inb_in hc21) dX3_worth_125 (fun H locs hW hS => ?_)
  refine lv_goto (pc := 126) (tgt := 177) hx hb dX3_worth_126 (by decide) ?_
  exact w_X3_worth_b177 C hK (ms σ 3 (k1.toNatClampNeg) k2) v1 v2 v3 s4 hs4 (CL_ms (Or.inl (by decide)) tv1) hW hS (lv_sub hl [0, 1, 2, 3] rfl) h

theorem w_X3_worth_b69 (C : CX cX3_worth 6 RX3 (some .int) D ac p m c s args meth (z, aK, aV) (Ac z)) (hK : 1 ≤ K) {r : Int32} {σf : Mem}   (σ : Mem) (v1 : Nat) (v2 : Int32) (v3 : Int32) (v4 : Int32) (s4 : Mem → Int32 → Int32 → Option (Int32 × Mem)) (hs4 : ∀ (σ : Mem) (v2 : Int32) (v3 : Int32) {H : Heap} {locs : List Loc} {ls : Array Slot} (_ : CL σ v1) (_ : WC D ac z σ H) (_ : va_S (Ac z) s.heap H locs) (_ : lv_has ls 6 [(0, .ref (z + 1)), (1, .ref (z + v1)), (2, .int v2), (3, .int v3)]) (_ : s4 σ v2 v3 = some (r, σf)), W p l e (rma K 0 0) s m args below meth c H locs 0 0 (MQ below (QV D (Ec ac z) inC z (some (.int r)) σf (Ac z)) args s 0 0 (Ac z)) (F0 m 4 ls [])) {H : Heap} {locs : List Loc} {ls : Array Slot} (tv1 : CL σ v1) (hW : WC D ac z σ H) (hS : va_S (Ac z) s.heap H locs) (hl : lv_has ls 6 [(0, .ref (z + 1)), (1, .ref (z + v1)), (2, .int v2), (3, .int v3), (4, .int v4)]) (h : f_X3_worth_b69 s4 σ v1 v2 v3 v4 = some (r, σf)) : W p l e (rma K 0 0) s m args below meth c H locs 0 0 (MQ below (QV D (Ec ac z) inC z (some (.int r)) σf (Ac z)) args s 0 0 (Ac z)) (F0 m 69 ls []) := by
  have hx := C.1.1
  have hb := C.1.2.1
  unfold f_X3_worth_b69 at h
  refine lv_iload_n (pc := 69) hx hb dX3_worth_69 rfl (lv_at hl 2 rfl) ?_
  refine lv_iconst (pc := 70) (v := 1) hx hb dX3_worth_70 (by decide) ?_
  refine lv_icmp_lt (pc := 71) (tgt := 83) hx hb dX3_worth_71 (by decide) (fun hc16 => ?_) (fun hc16 => ?_)
  · replace h := o_pos hc16 h
    refine lv_iconst (pc := 83) (v := 0) hx hb dX3_worth_83 (by decide) ?_
    exact g_ret (pc := 84) C hW hS rfl dX3_worth_84 (congrArg (fun q => some (Value.int q)) (o_r h).1) (o_r h).2
  · replace h := o_neg hc16 h
    refine lv_iload_n (pc := 74) hx hb dX3_worth_74 rfl (lv_at hl 2 rfl) ?_
    refine lv_aload_n (pc := 75) hx hb dX3_worth_75 rfl (lv_at hl 0 rfl) ?_
    refine gf_X3_2 (pc := 76) C hW kdc_1 fl_X3_17 dX3_worth_76 ?_
    refine ia_len (pc := 79) (v := 64) C hW kdc_3 (by rw [alc_3]; decide) dX3_worth_79 ?_
    refine lv_icmp_le (pc := 80) (tgt := 85) hx hb dX3_worth_80 (by decide) (fun hc17 => ?_) (fun hc17 => ?_)
    · replace h := o_pos hc17 h
      refine lv_aload_n (pc := 85) hx hb dX3_worth_85 rfl (lv_at hl 0 rfl) ?_
      refine gf_X3_2 (pc := 86) C hW kdc_1 fl_X3_17 dX3_worth_86 ?_
      refine lv_iload_n (pc := 89) hx hb dX3_worth_89 rfl (lv_at hl 2 rfl) ?_
      refine lv_iconst (pc := 90) (v := 1) hx hb dX3_worth_90 (by decide) ?_
      refine lv_isub (pc := 91) hx hb dX3_worth_91 ?_
      obtain ⟨hc18, h⟩ := o_chk h
      refine ia_ld (pc := 92) C hW kdc_3 alc_3 rfl (inb_in hc18) dX3_worth_92 ?_
      refine lv_istore (pc := 93) (lv' := [(5, .int (σ 3 ((v2 - (1 : Int32)).toNatClampNeg))), (0, .ref (z + 1)), (1, .ref (z + v1)), (2, .int v2), (3, .int v3), (4, .int v4)]) hx hb dX3_worth_93 hl (by decide) rfl (fun ls hl => ?_)
      refine lv_aload_n (pc := 95) hx hb dX3_worth_95 rfl (lv_at hl 1 rfl) ?_
      refine gf_X3_2 (pc := 96) C hW kdc_1 fl_X3_17 dX3_worth_96 ?_
      refine lv_iload_n (pc := 99) hx hb dX3_worth_99 rfl (lv_at hl 3 rfl) ?_
      refine lv_iconst (pc := 100) (v := 1) hx hb dX3_worth_100 (by decide) ?_
      refine lv_isub (pc := 101) hx hb dX3_worth_101 ?_
      refine lv_iload (pc := 102) hx hb dX3_worth_102 (lv_at hl 5 rfl) ?_
      refine lv_bipush (pc := 104) (v := -18) hx hb dX3_worth_104 (by decide) ?_
      refine lv_icmp_ne (pc := 106) (tgt := 115) hx hb dX3_worth_106 (by decide) (fun hc19 => ?_) (fun hc19 => ?_)
      · replace h := o_neg hc19 h
        refine lv_iload (pc := 115) hx hb dX3_worth_115 (lv_at hl 0 rfl) ?_
        refine lv_if_ne (pc := 117) (tgt := 124) hx hb dX3_worth_117 (by decide) (fun hc20 => ?_) (fun hc20 => ?_)
        · replace h := o_neg hc20 h
          refine lv_iconst (pc := 124) (v := 0) hx hb dX3_worth_124 (by decide) ?_
          exact w_X3_worth_b125 C hK σ v1 v2 v3 (v2 - (1 : Int32)) (0 : Int32) s4 hs4 tv1 hW hS (lv_sub hl [1, 2, 3, 4] rfl) h
        · replace h := o_pos hc20 h
          refine lv_iconst (pc := 120) (v := 1) hx hb dX3_worth_120 (by decide) ?_
          refine lv_goto (pc := 121) (tgt := 125) hx hb dX3_worth_121 (by decide) ?_
          exact w_X3_worth_b125 C hK σ v1 v2 v3 (v2 - (1 : Int32)) (1 : Int32) s4 hs4 tv1 hW hS (lv_sub hl [1, 2, 3, 4] rfl) h
      · replace h := o_pos hc19 h
        refine lv_iload (pc := 109) hx hb dX3_worth_109 (lv_at hl 0 rfl) ?_
        refine lv_ineg (pc := 111) hx hb dX3_worth_111 ?_
        refine lv_goto (pc := 112) (tgt := 125) hx hb dX3_worth_112 (by decide) ?_
        exact w_X3_worth_b125 C hK σ v1 v2 v3 (v2 - (1 : Int32)) (-(σ 3 ((v2 - (1 : Int32)).toNatClampNeg))) s4 hs4 tv1 hW hS (lv_sub hl [1, 2, 3, 4] rfl) h
    · replace h := o_neg hc17 h
      refine lv_iconst (pc := 83) (v := 0) hx hb dX3_worth_83 (by decide) ?_
      exact g_ret (pc := 84) C hW hS rfl dX3_worth_84 (congrArg (fun q => some (Value.int q)) (o_r h).1) (o_r h).2

theorem w_X3_worth_b4 (C : CX cX3_worth 6 RX3 (some .int) D ac p m c s args meth (z, aK, aV) (Ac z)) (hK : 1 ≤ K) {r : Int32} {σf : Mem}   (v1 : Nat)  : ∀ (n : Nat) (σ : Mem) (v2 : Int32) (v3 : Int32) {H : Heap} {locs : List Loc} {ls : Array Slot} (tv1 : CL σ v1) (hW : WC D ac z σ H) (hS : va_S (Ac z) s.heap H locs) (hl : lv_has ls 6 [(0, .ref (z + 1)), (1, .ref (z + v1)), (2, .int v2), (3, .int v3)]) (h : f_X3_worth_b4 v1 n σ v2 v3 = some (r, σf)), W p l e (rma K 0 0) s m args below meth c H locs 0 0 (MQ below (QV D (Ec ac z) inC z (some (.int r)) σf (Ac z)) args s 0 0 (Ac z)) (F0 m 4 ls []) := by
  have hx := C.1.1
  have hb := C.1.2.1
  intro n
  induction n with
  | zero =>
    intro σ v2 v3 H locs ls tv1 hW hS hl h
    cases h
  | succ n ih =>
    intro σ v2 v3 H locs ls tv1 hW hS hl h
    rw [f_X3_worth_b4.eq_2] at h
    refine lv_iload_n (pc := 4) hx hb dX3_worth_4 rfl (lv_at hl 3 rfl) ?_
    refine lv_aload_n (pc := 5) hx hb dX3_worth_5 rfl (lv_at hl 1 rfl) ?_
    refine ca_len (pc := 6) C hW tv1 dX3_worth_6 ?_
    refine lv_icmp_ge (pc := 7) (tgt := 183) hx hb dX3_worth_7 (by decide) (fun hc0 => ?_) (fun hc0 => ?_)
    · replace h := o_pos hc0 h
      refine lv_aload_n (pc := 183) hx hb dX3_worth_183 rfl (lv_at hl 0 rfl) ?_
      refine gf_X3_2 (pc := 184) C hW kdc_1 fl_X3_17 dX3_worth_184 ?_
      refine lv_iconst (pc := 187) (v := 0) hx hb dX3_worth_187 (by decide) ?_
      refine ia_ld (pc := 188) C hW kdc_3 alc_3 (j := 0) (by decide) (inb_in (by decide)) dX3_worth_188 ?_
      exact g_ret (pc := 189) C hW hS rfl dX3_worth_189 (congrArg (fun q => some (Value.int q)) (o_r h).1) (o_r h).2
    · replace h := o_neg hc0 h
      refine lv_aload_n (pc := 10) hx hb dX3_worth_10 rfl (lv_at hl 1 rfl) ?_
      refine lv_iload_n (pc := 11) hx hb dX3_worth_11 rfl (lv_at hl 3 rfl) ?_
      obtain ⟨hc1, h⟩ := o_chk h
      refine ca_ld (pc := 12) C hW tv1 (inb_in hc1) dX3_worth_12 ?_
      refine lv_istore (pc := 13) (lv' := [(4, .int (σ v1 v3.toNatClampNeg)), (0, .ref (z + 1)), (1, .ref (z + v1)), (2, .int v2), (3, .int v3)]) hx hb dX3_worth_13 hl (by decide) rfl (fun ls hl => ?_)
      refine lv_iload (pc := 15) hx hb dX3_worth_15 (lv_at hl 0 rfl) ?_
      refine lv_bipush (pc := 17) (v := -10) hx hb dX3_worth_17 (by decide) ?_
      refine lv_icmp_le (pc := 19) (tgt := 55) hx hb dX3_worth_19 (by decide) (fun hc2 => ?_) (fun hc2 => ?_)
      · replace h := o_pos hc2 h
        refine lv_iload (pc := 55) hx hb dX3_worth_55 (lv_at hl 0 rfl) ?_
        refine lv_bipush (pc := 57) (v := -17) hx hb dX3_worth_57 (by decide) ?_
        refine lv_icmp_eq (pc := 59) (tgt := 69) hx hb dX3_worth_59 (by decide) (fun hc3 => ?_) (fun hc3 => ?_)
        · replace h := o_pos hc3 h
          exact w_X3_worth_b69 C hK σ v1 v2 v3 (σ v1 v3.toNatClampNeg) (f_X3_worth_b4 v1 n) (fun σ v2 v3 {H : Heap} {locs : List Loc} {ls : Array Slot} tv1 hW hS hl h => ih σ v2 v3 tv1 hW hS hl h) tv1 hW hS (lv_sub hl [1, 2, 3, 4, 0] rfl) h
        · replace h := o_neg hc3 h
          refine lv_iload (pc := 62) hx hb dX3_worth_62 (lv_at hl 0 rfl) ?_
          refine lv_bipush (pc := 64) (v := -18) hx hb dX3_worth_64 (by decide) ?_
          refine lv_icmp_ne (pc := 66) (tgt := 129) hx hb dX3_worth_66 (by decide) (fun hc4 => ?_) (fun hc4 => ?_)
          · replace h := o_neg hc4 h
            refine lv_iload_n (pc := 129) hx hb dX3_worth_129 rfl (lv_at hl 3 rfl) ?_
            refine lv_iconst (pc := 130) (v := 2) hx hb dX3_worth_130 (by decide) ?_
            refine lv_icmp_lt (pc := 131) (tgt := 143) hx hb dX3_worth_131 (by decide) (fun hc5 => ?_) (fun hc5 => ?_)
            · replace h := o_pos hc5 h
              refine lv_iconst (pc := 143) (v := 0) hx hb dX3_worth_143 (by decide) ?_
              exact g_ret (pc := 144) C hW hS rfl dX3_worth_144 (congrArg (fun q => some (Value.int q)) (o_r h).1) (o_r h).2
            · replace h := o_neg hc5 h
              refine lv_iload_n (pc := 134) hx hb dX3_worth_134 rfl (lv_at hl 3 rfl) ?_
              refine lv_aload_n (pc := 135) hx hb dX3_worth_135 rfl (lv_at hl 1 rfl) ?_
              refine gf_X3_2 (pc := 136) C hW kdc_1 fl_X3_17 dX3_worth_136 ?_
              refine ia_len (pc := 139) (v := 64) C hW kdc_3 (by rw [alc_3]; decide) dX3_worth_139 ?_
              refine lv_icmp_le (pc := 140) (tgt := 145) hx hb dX3_worth_140 (by decide) (fun hc6 => ?_) (fun hc6 => ?_)
              · replace h := o_pos hc6 h
                refine lv_aload_n (pc := 145) hx hb dX3_worth_145 rfl (lv_at hl 1 rfl) ?_
                refine gf_X3_2 (pc := 146) C hW kdc_1 fl_X3_17 dX3_worth_146 ?_
                refine lv_iload_n (pc := 149) hx hb dX3_worth_149 rfl (lv_at hl 3 rfl) ?_
                refine lv_iconst (pc := 150) (v := 2) hx hb dX3_worth_150 (by decide) ?_
                refine lv_isub (pc := 151) hx hb dX3_worth_151 ?_
                refine lv_iload (pc := 152) hx hb dX3_worth_152 (lv_at hl 0 rfl) ?_
                refine lv_aload_n (pc := 154) hx hb dX3_worth_154 rfl (lv_at hl 1 rfl) ?_
                refine gf_X3_2 (pc := 155) C hW kdc_1 fl_X3_17 dX3_worth_155 ?_
                refine lv_iload_n (pc := 158) hx hb dX3_worth_158 rfl (lv_at hl 3 rfl) ?_
                refine lv_iconst (pc := 159) (v := 2) hx hb dX3_worth_159 (by decide) ?_
                refine lv_isub (pc := 160) hx hb dX3_worth_160 ?_
                obtain ⟨hc7, h⟩ := o_chk h
                refine ia_ld (pc := 161) C hW kdc_3 alc_3 rfl (inb_in hc7) dX3_worth_161 ?_
                refine lv_aload_n (pc := 162) hx hb dX3_worth_162 rfl (lv_at hl 1 rfl) ?_
                refine gf_X3_2 (pc := 163) C hW kdc_1 fl_X3_17 dX3_worth_163 ?_
                refine lv_iload_n (pc := 166) hx hb dX3_worth_166 rfl (lv_at hl 3 rfl) ?_
                refine lv_iconst (pc := 167) (v := 1) hx hb dX3_worth_167 (by decide) ?_
                refine lv_isub (pc := 168) hx hb dX3_worth_168 ?_
                obtain ⟨hc8, h⟩ := o_chk h
                refine ia_ld (pc := 169) C hW kdc_3 alc_3 rfl (inb_in hc8) dX3_worth_169 ?_
                refine g_stat (pc := 170) (st2 := [.int (f_X3_joined (σ v1 v3.toNatClampNeg) (σ 3 ((v2 - (2 : Int32)).toNatClampNeg)) (σ 3 ((v2 - (1 : Int32)).toNatClampNeg))), .int (v2 - (2 : Int32)), .ref (z + 3)]) (rest := [.int (v2 - (2 : Int32)), .ref (z + 3)]) C hW hS (c_X3_joined (K := K - 1) (by omega) rfl) mw_X3_77 (hRoom (by omega) (by decide)) rfl rfl rfl (Nat.le_of_ble_eq_true rfl) hl.1 dX3_worth_170 (fun H locs hW hS => ?_)
                obtain ⟨hc9, h⟩ := o_chk h
                refine ia_st (pc := 173) C hW hS kdc_3 alc_3 rfl (inb_in hc9) dX3_worth_173 (fun H locs hW hS => ?_)
                obtain ⟨σ11, hσ11, h⟩ := o_d h
                replace hW : WC D ac z σ11 H := by rw [← hσ11]; exact hW
                refine lv_iinc (pc := 174) (v := (v2 + (-1))) (lv' := [(2, .int (v2 + (-1))), (4, .int (σ v1 v3.toNatClampNeg)), (0, .ref (z + 1)), (1, .ref (z + v1)), (3, .int v3)]) hx hb dX3_worth_174 hl (k := 3) rfl rfl (by decide) rfl (fun ls hl => ?_)
                exact w_X3_worth_b177 C hK σ11 v1 (v2 + (-1)) v3 (f_X3_worth_b4 v1 n) (fun σ v2 v3 {H : Heap} {locs : List Loc} {ls : Array Slot} tv1 hW hS hl h => ih σ v2 v3 tv1 hW hS hl h) (hσ11 ▸ (CL_ms (Or.inl (by decide)) tv1)) hW hS (lv_sub hl [2, 3, 0, 4] rfl) h
              · replace h := o_neg hc6 h
                refine lv_iconst (pc := 143) (v := 0) hx hb dX3_worth_143 (by decide) ?_
                exact g_ret (pc := 144) C hW hS rfl dX3_worth_144 (congrArg (fun q => some (Value.int q)) (o_r h).1) (o_r h).2
          · replace h := o_pos hc4 h
            exact w_X3_worth_b69 C hK σ v1 v2 v3 (σ v1 v3.toNatClampNeg) (f_X3_worth_b4 v1 n) (fun σ v2 v3 {H : Heap} {locs : List Loc} {ls : Array Slot} tv1 hW hS hl h => ih σ v2 v3 tv1 hW hS hl h) tv1 hW hS (lv_sub hl [1, 2, 3, 4, 0] rfl) h
      · replace h := o_neg hc2 h
        refine lv_iload_n (pc := 22) hx hb dX3_worth_22 rfl (lv_at hl 3 rfl) ?_
        refine lv_if_lt (pc := 23) (tgt := 35) hx hb dX3_worth_23 (by decide) (fun hc11 => ?_) (fun hc11 => ?_)
        · replace h := o_pos hc11 h
          refine lv_iconst (pc := 35) (v := 0) hx hb dX3_worth_35 (by decide) ?_
          exact g_ret (pc := 36) C hW hS rfl dX3_worth_36 (congrArg (fun q => some (Value.int q)) (o_r h).1) (o_r h).2
        · replace h := o_neg hc11 h
          refine lv_iload_n (pc := 26) hx hb dX3_worth_26 rfl (lv_at hl 3 rfl) ?_
          refine lv_aload_n (pc := 27) hx hb dX3_worth_27 rfl (lv_at hl 1 rfl) ?_
          refine gf_X3_2 (pc := 28) C hW kdc_1 fl_X3_17 dX3_worth_28 ?_
          refine ia_len (pc := 31) (v := 64) C hW kdc_3 (by rw [alc_3]; decide) dX3_worth_31 ?_
          refine lv_icmp_lt (pc := 32) (tgt := 37) hx hb dX3_worth_32 (by decide) (fun hc12 => ?_) (fun hc12 => ?_)
          · replace h := o_pos hc12 h
            refine lv_aload_n (pc := 37) hx hb dX3_worth_37 rfl (lv_at hl 1 rfl) ?_
            refine gf_X3_2 (pc := 38) C hW kdc_1 fl_X3_17 dX3_worth_38 ?_
            refine lv_iload_n (pc := 41) hx hb dX3_worth_41 rfl (lv_at hl 3 rfl) ?_
            refine lv_aload_n (pc := 42) hx hb dX3_worth_42 rfl (lv_at hl 1 rfl) ?_
            refine lv_iload (pc := 43) hx hb dX3_worth_43 (lv_at hl 0 rfl) ?_
            obtain ⟨r15, hc13, h⟩ := o_b h
            refine g_virt (pc := 45) (st2 := [.int r15, .int v2, .ref (z + 3)]) (rest := [.int v2, .ref (z + 3)]) C hW hS (c_X3_operand (K := K - 1) (by omega) hc13) mw_X3_73 (kin_1 kdc_1) (Ek_1 kdc_1) rfl (hRoom (by omega) (by decide)) rfl rfl rfl (Nat.le_of_ble_eq_true rfl) hl.1 dX3_worth_45 (fun H locs hW hS => ?_)
            obtain ⟨hc15, h⟩ := o_chk h
            refine ia_st (pc := 48) C hW hS kdc_3 alc_3 rfl (inb_in hc15) dX3_worth_48 (fun H locs hW hS => ?_)
            refine lv_iinc (pc := 49) (v := (v2 + 1)) (lv' := [(2, .int (v2 + 1)), (4, .int (σ v1 v3.toNatClampNeg)), (0, .ref (z + 1)), (1, .ref (z + v1)), (3, .int v3)]) hx hb dX3_worth_49 hl (k := 3) rfl rfl (by decide) rfl (fun ls hl => ?_)
            refine lv_goto (pc := 52) (tgt := 177) hx hb dX3_worth_52 (by decide) ?_
            exact w_X3_worth_b177 C hK (ms σ 3 (v2.toNatClampNeg) r15) v1 (v2 + 1) v3 (f_X3_worth_b4 v1 n) (fun σ v2 v3 {H : Heap} {locs : List Loc} {ls : Array Slot} tv1 hW hS hl h => ih σ v2 v3 tv1 hW hS hl h) (CL_ms (Or.inl (by decide)) tv1) hW hS (lv_sub hl [2, 3, 0, 4] rfl) h
          · replace h := o_neg hc12 h
            refine lv_iconst (pc := 35) (v := 0) hx hb dX3_worth_35 (by decide) ?_
            exact g_ret (pc := 36) C hW hS rfl dX3_worth_36 (congrArg (fun q => some (Value.int q)) (o_r h).1) (o_r h).2

theorem c_X3_worth {K : Nat}  (hK : 1 ≤ K) {σ : Mem} {σf : Mem} {v1 : Nat} {r : Int32} (hk1 : CL σ v1) (h : f_X3_worth σ v1 = some (r, σf)) : MC l D (Ec ac z) inC z ac (z, aK, aV) (Ac z) yX3_worth cX3_worth 6 (some .int) K [.ref (z + 1), .ref (z + v1)] σ (some (.int r)) σf := by
  refine MC.of (fun q hq => by have := hq.1; show z ≤ q; omega) (plainFor_of_name (by decide)) (Nat.le_of_ble_eq_true rfl) ?_
  intro p e s m below meth c args C hW ls hl
  replace hl : lv_has ls 6 [(0, .ref (z + 1)), (1, .ref (z + v1))] := hl
  have hS : va_S (Ac z) s.heap s.heap [] := va_S.rf
  have hx := C.1.1
  have hb := C.1.2.1
  unfold f_X3_worth at h
  refine lv_iconst (pc := 0) (v := 0) hx hb dX3_worth_0 (by decide) ?_
  refine lv_istore_n (pc := 1) (lv' := [(2, .int (0 : Int32)), (0, .ref (z + 1)), (1, .ref (z + v1))]) hx hb dX3_worth_1 rfl hl (by decide) rfl (fun ls hl => ?_)
  refine lv_iconst (pc := 2) (v := 0) hx hb dX3_worth_2 (by decide) ?_
  refine lv_istore_n (pc := 3) (lv' := [(3, .int (0 : Int32)), (2, .int (0 : Int32)), (0, .ref (z + 1)), (1, .ref (z + v1))]) hx hb dX3_worth_3 rfl hl (by decide) rfl (fun ls hl => ?_)
  exact w_X3_worth_b4 C hK v1 FU σ (0 : Int32) (0 : Int32) hk1 hW hS (lv_sub hl [2, 3, 1, 0] rfl) h

theorem c_J9_min_7cf53 {K : Nat}  (hK : 0 ≤ K) {σ : Mem} {v0 : Int32} {v1 : Int32} {r : Int32} (h : f_J9_min_7cf53 v0 v1 = r) : MC l D (Ec ac z) inC z ac (z, aK, aV) (Ac z) yJ9_min_7cf53 cJ9_min_7cf53 2 (some .int) K [.int v0, .int v1] σ (some (.int r)) σ := by
  refine MC.of (fun q hq => by have := hq.1; show z ≤ q; omega) (by decide +kernel) (Nat.le_of_ble_eq_true rfl) ?_
  intro p e s m below meth c args C hW ls hl
  replace hl : lv_has ls 2 [(0, .int v0), (1, .int v1)] := hl
  have hS : va_S (Ac z) s.heap s.heap [] := va_S.rf
  have hx := C.1.1
  have hb := C.1.2.1
  unfold f_J9_min_7cf53 at h
  refine lv_iload_n (pc := 0) hx hb dJ9_min_7cf53_0 rfl (lv_at hl 0 rfl) ?_
  refine lv_iload_n (pc := 1) hx hb dJ9_min_7cf53_1 rfl (lv_at hl 1 rfl) ?_
  refine lv_icmp_gt (pc := 2) (tgt := 9) hx hb dJ9_min_7cf53_2 (by decide) (fun hc0 => ?_) (fun hc0 => ?_)
  · replace h := o_pos hc0 h
    refine lv_iload_n (pc := 9) hx hb dJ9_min_7cf53_9 rfl (lv_at hl 1 rfl) ?_
    exact g_ret (pc := 10) C hW hS rfl dJ9_min_7cf53_10 (congrArg (fun q => some (Value.int q)) h.symm) rfl
  · replace h := o_neg hc0 h
    refine lv_iload_n (pc := 5) hx hb dJ9_min_7cf53_5 rfl (lv_at hl 0 rfl) ?_
    refine lv_goto (pc := 6) (tgt := 10) hx hb dJ9_min_7cf53_6 (by decide) ?_
    exact g_ret (pc := 10) C hW hS rfl dJ9_min_7cf53_10 (congrArg (fun q => some (Value.int q)) h.symm) rfl

theorem w_X3_says_b31 (C : CX cX3_says 7 RX3 (some .int) D ac p m c s args meth (z, aK, aV) (Ac z)) (hK : 2 ≤ K) {r : Int32} {σf : Mem}   (σ : Mem) (v2 : Int32) (v3 : Nat) (v4 : Int32) (v5 : Int32) (k0 : Option Nat)  {H : Heap} {locs : List Loc} {ls : Array Slot} (tv3 : kd v3 = 9) (tk0 : ∀ k : Nat, k0 = some k → TL σ k) (hW : WC D ac z σ H) (hS : va_S (Ac z) s.heap H locs) (hl : lv_has ls 7 [(0, .ref (z + 1)), (2, .int v2), (3, .ref (z + v3)), (4, .int v4), (5, .int v5)]) (h : f_X3_says_b31 σ v2 v3 v4 v5 k0 = some (r, σf)) : W p l e (rma K 0 0) s m args below meth c H locs 0 0 (MQ below (QV D (Ec ac z) inC z (some (.int r)) σf (Ac z)) args s 0 0 (Ac z)) (F0 m 31 ls [rv z k0]) := by
  have hx := C.1.1
  have hb := C.1.2.1
  unfold f_X3_says_b31 at h
  refine g_astoreq (pc := 31) (o := k0) (lv' := [(6, rv z k0), (0, .ref (z + 1)), (2, .int v2), (3, .ref (z + v3)), (4, .int v4), (5, .int v5)]) C dX3_says_31 hl (by decide) rfl (fun ls hl => ?_)
  refine g_aloadq (pc := 33) (o := k0) C dX3_says_33 (lv_at hl 0 rfl) ?_
  refine g_ifnonnull (pc := 35) (o := k0) (tgt := 40) C dX3_says_35 (by decide) (fun hn => ?_) (fun q5 hn => ?_)
  · subst hn
    replace h := o_nn h
    replace hl : lv_has ls 7 [(6, .null), (0, .ref (z + 1)), (2, .int v2), (3, .ref (z + v3)), (4, .int v4), (5, .int v5)] := hl
    refine lv_iconst (pc := 38) (v := 0) hx hb dX3_says_38 (by decide) ?_
    exact g_ret (pc := 39) C hW hS rfl dX3_says_39 (congrArg (fun q => some (Value.int q)) (o_r h).1) (o_r h).2
  · subst hn
    replace h := o_ns h
    replace hl : lv_has ls 7 [(6, .ref (z + q5)), (0, .ref (z + 1)), (2, .int v2), (3, .ref (z + v3)), (4, .int v4), (5, .int v5)] := hl
    refine lv_aload_n (pc := 40) hx hb dX3_says_40 rfl (lv_at hl 1 rfl) ?_
    refine gf_X3_3 (pc := 41) C hW kdc_1 fl_X3_21 dX3_says_41 ?_
    refine lv_iconst (pc := 44) (v := 0) hx hb dX3_says_44 (by decide) ?_
    refine lv_aload_n (pc := 45) hx hb dX3_says_45 rfl (lv_at hl 3 rfl) ?_
    refine gf_X1_2 (pc := 46) C hW tv3 fl_X3_31 dX3_says_46 ?_
    refine ia_st (pc := 49) C hW hS kdc_4 alc_4 (j := 0) (by decide) (inb_in (by decide)) dX3_says_49 (fun H locs hW hS => ?_)
    refine lv_aload_n (pc := 50) hx hb dX3_says_50 rfl (lv_at hl 1 rfl) ?_
    refine gf_X3_3 (pc := 51) C hW kdc_1 fl_X3_21 dX3_says_51 ?_
    refine lv_iconst (pc := 54) (v := 1) hx hb dX3_says_54 (by decide) ?_
    refine lv_aload_n (pc := 55) hx hb dX3_says_55 rfl (lv_at hl 3 rfl) ?_
    refine gf_X1_3 (pc := 56) C hW tv3 fl_X3_36 dX3_says_56 ?_
    refine ia_st (pc := 59) C hW hS kdc_4 alc_4 (j := 1) (by decide) (inb_in (by decide)) dX3_says_59 (fun H locs hW hS => ?_)
    obtain ⟨σ6, hσ6, h⟩ := o_d h
    replace hW : WC D ac z σ6 H := by rw [← hσ6]; exact hW
    refine lv_aload_n (pc := 60) hx hb dX3_says_60 rfl (lv_at hl 1 rfl) ?_
    refine gf_X3_3 (pc := 61) C hW kdc_1 fl_X3_21 dX3_says_61 ?_
    refine lv_iconst (pc := 64) (v := 2) hx hb dX3_says_64 (by decide) ?_
    refine lv_aload_n (pc := 65) hx hb dX3_says_65 rfl (lv_at hl 3 rfl) ?_
    refine gf_X1_1 (pc := 66) C hW tv3 fl_X3_39 dX3_says_66 ?_
    refine ia_st (pc := 69) C hW hS kdc_4 alc_4 (j := 2) (by decide) (inb_in (by decide)) dX3_says_69 (fun H locs hW hS => ?_)
    refine lv_aload_n (pc := 70) hx hb dX3_says_70 rfl (lv_at hl 1 rfl) ?_
    refine gf_X3_3 (pc := 71) C hW kdc_1 fl_X3_21 dX3_says_71 ?_
    refine lv_iconst (pc := 74) (v := 3) hx hb dX3_says_74 (by decide) ?_
    refine lv_iload (pc := 75) hx hb dX3_says_75 (lv_at hl 4 rfl) ?_
    refine ia_st (pc := 77) C hW hS kdc_4 alc_4 (j := 3) (by decide) (inb_in (by decide)) dX3_says_77 (fun H locs hW hS => ?_)
    refine lv_aload_n (pc := 78) hx hb dX3_says_78 rfl (lv_at hl 1 rfl) ?_
    refine gf_X3_3 (pc := 79) C hW kdc_1 fl_X3_21 dX3_says_79 ?_
    refine lv_iconst (pc := 82) (v := 4) hx hb dX3_says_82 (by decide) ?_
    refine lv_iload (pc := 83) hx hb dX3_says_83 (lv_at hl 5 rfl) ?_
    refine ia_st (pc := 85) C hW hS kdc_4 alc_4 (j := 4) (by decide) (inb_in (by decide)) dX3_says_85 (fun H locs hW hS => ?_)
    refine lv_aload_n (pc := 86) hx hb dX3_says_86 rfl (lv_at hl 1 rfl) ?_
    refine gf_X3_3 (pc := 87) C hW kdc_1 fl_X3_21 dX3_says_87 ?_
    refine lv_iconst (pc := 90) (v := 5) hx hb dX3_says_90 (by decide) ?_
    refine lv_aload_n (pc := 91) hx hb dX3_says_91 rfl (lv_at hl 3 rfl) ?_
    refine gf_X1_4 (pc := 92) C hW tv3 fl_X3_42 dX3_says_92 ?_
    refine ia_st (pc := 95) C hW hS kdc_4 alc_4 (j := 5) (by decide) (inb_in (by decide)) dX3_says_95 (fun H locs hW hS => ?_)
    obtain ⟨σ7, hσ7, h⟩ := o_d h
    replace hW : WC D ac z σ7 H := by rw [← hσ7]; exact hW
    refine lv_iconst (pc := 96) (v := 0) hx hb dX3_says_96 (by decide) ?_
    refine lv_bipush (pc := 97) (v := 99) hx hb dX3_says_97 (by decide) ?_
    refine lv_aload_n (pc := 99) hx hb dX3_says_99 rfl (lv_at hl 1 rfl) ?_
    refine lv_aload (pc := 100) hx hb dX3_says_100 (lv_at hl 0 rfl) ?_
    refine lv_iload_n (pc := 102) hx hb dX3_says_102 rfl (lv_at hl 2 rfl) ?_
    refine g_virt (pc := 103) (st2 := [.ref (z + (f_X5_partOf σ7 q5 v2)), .ref (z + 1), .int (99 : Int32), .int (0 : Int32)]) (rest := [.ref (z + 1), .int (99 : Int32), .int (0 : Int32)]) C hW hS (c_X5_partOf (K := K - 1) (by omega) (hσ7 ▸ (TL_ms (Or.inl (by decide)) (TL_ms (Or.inl (by decide)) (TL_ms (Or.inl (by decide)) (TL_ms (Or.inl (by decide)) (hσ6 ▸ (TL_ms (Or.inl (by decide)) (TL_ms (Or.inl (by decide)) (tk0 q5 rfl))))))))) rfl) mw_X3_45 (in_TL (hσ7 ▸ (TL_ms (Or.inl (by decide)) (TL_ms (Or.inl (by decide)) (TL_ms (Or.inl (by decide)) (TL_ms (Or.inl (by decide)) (hσ6 ▸ (TL_ms (Or.inl (by decide)) (TL_ms (Or.inl (by decide)) (tk0 q5 rfl)))))))))) (Ek_4 (hσ7 ▸ (TL_ms (Or.inl (by decide)) (TL_ms (Or.inl (by decide)) (TL_ms (Or.inl (by decide)) (TL_ms (Or.inl (by decide)) (hσ6 ▸ (TL_ms (Or.inl (by decide)) (TL_ms (Or.inl (by decide)) (tk0 q5 rfl))))))))).1) rfl (hRoom (by omega) (by decide)) rfl rfl rfl (Nat.le_of_ble_eq_true rfl) hl.1 dX3_says_103 (fun H locs hW hS => ?_)
    obtain ⟨r9, σ10, hc7, h⟩ := o_b2 h
    refine g_virt (pc := 106) (st2 := [.int r9, .int (99 : Int32), .int (0 : Int32)]) (rest := [.int (99 : Int32), .int (0 : Int32)]) C hW hS (c_X3_worth (K := K - 1) (by omega) (ty_X5_partOf (hσ7 ▸ (TL_ms (Or.inl (by decide)) (TL_ms (Or.inl (by decide)) (TL_ms (Or.inl (by decide)) (TL_ms (Or.inl (by decide)) (hσ6 ▸ (TL_ms (Or.inl (by decide)) (TL_ms (Or.inl (by decide)) (tk0 q5 rfl))))))))) rfl) hc7) mw_X3_49 (kin_1 kdc_1) (Ek_1 kdc_1) rfl (hRoom (by omega) (by decide)) rfl rfl rfl (Nat.le_of_ble_eq_true rfl) hl.1 dX3_says_106 (fun H locs hW hS => ?_)
    refine g_stat (pc := 109) (st2 := [.int (f_J9_min_7cf53 (99 : Int32) r9), .int (0 : Int32)]) (rest := [.int (0 : Int32)]) C hW hS (c_J9_min_7cf53 (K := K - 1) (by omega) rfl) mw_X3_53 (hRoom (by omega) (by decide)) rfl rfl rfl (Nat.le_of_ble_eq_true rfl) hl.1 dX3_says_109 (fun H locs hW hS => ?_)
    refine g_stat (pc := 112) (st2 := [.int (f_J9_max_7cf53 (0 : Int32) (f_J9_min_7cf53 (99 : Int32) r9))]) (rest := []) C hW hS (c_J9_max_7cf53 (K := K - 1) (by omega) rfl) mw_X3_59 (hRoom (by omega) (by decide)) rfl rfl rfl (Nat.le_of_ble_eq_true rfl) hl.1 dX3_says_112 (fun H locs hW hS => ?_)
    exact g_ret (pc := 115) C hW hS rfl dX3_says_115 (congrArg (fun q => some (Value.int q)) (o_r h).1) (o_r h).2

theorem w_X3_says_b30 (C : CX cX3_says 7 RX3 (some .int) D ac p m c s args meth (z, aK, aV) (Ac z)) (hK : 2 ≤ K) {r : Int32} {σf : Mem}   (σ : Mem) (v2 : Int32) (v3 : Nat) (v4 : Int32) (v5 : Int32)  {H : Heap} {locs : List Loc} {ls : Array Slot} (tv3 : kd v3 = 9) (hW : WC D ac z σ H) (hS : va_S (Ac z) s.heap H locs) (hl : lv_has ls 7 [(0, .ref (z + 1)), (2, .int v2), (3, .ref (z + v3)), (4, .int v4), (5, .int v5)]) (h : f_X3_says_b30 σ v2 v3 v4 v5 = some (r, σf)) : W p l e (rma K 0 0) s m args below meth c H locs 0 0 (MQ below (QV D (Ec ac z) inC z (some (.int r)) σf (Ac z)) args s 0 0 (Ac z)) (F0 m 30 ls []) := by
  have hx := C.1.1
  have hb := C.1.2.1
  unfold f_X3_says_b30 at h
  refine lv_null (pc := 30) hx hb dX3_says_30 ?_
  exact w_X3_says_b31 C hK σ v2 v3 v4 v5 none tv3 (fun k hk => by cases hk) hW hS (lv_sub hl [0, 1, 2, 3, 4] rfl) h

theorem c_X3_says {K : Nat}  (hK : 2 ≤ K) {σ : Mem} {σf : Mem} {v1 : Int32} {v2 : Int32} {v3 : Nat} {v4 : Int32} {v5 : Int32} {r : Int32} (hk3 : kd v3 = 9) (h : f_X3_says σ v1 v2 v3 v4 v5 = some (r, σf)) : MC l D (Ec ac z) inC z ac (z, aK, aV) (Ac z) yX3_says cX3_says 7 (some .int) K [.ref (z + 1), .int v1, .int v2, .ref (z + v3), .int v4, .int v5] σ (some (.int r)) σf := by
  refine MC.of (fun q hq => by have := hq.1; show z ≤ q; omega) (plainFor_of_name (by decide)) (Nat.le_of_ble_eq_true rfl) ?_
  intro p e s m below meth c args C hW ls hl
  replace hl : lv_has ls 7 [(0, .ref (z + 1)), (1, .int v1), (2, .int v2), (3, .ref (z + v3)), (4, .int v4), (5, .int v5)] := hl
  have hS : va_S (Ac z) s.heap s.heap [] := va_S.rf
  have hx := C.1.1
  have hb := C.1.2.1
  unfold f_X3_says at h
  refine lv_iload_n (pc := 0) hx hb dX3_says_0 rfl (lv_at hl 1 rfl) ?_
  refine lv_if_lt (pc := 1) (tgt := 30) hx hb dX3_says_1 (by decide) (fun hc0 => ?_) (fun hc0 => ?_)
  · replace h := o_pos hc0 h
    exact w_X3_says_b30 C hK σ v2 v3 v4 v5 hk3 hW hS (lv_sub hl [0, 2, 3, 4, 5] rfl) h
  · replace h := o_neg hc0 h
    refine lv_iload_n (pc := 4) hx hb dX3_says_4 rfl (lv_at hl 1 rfl) ?_
    refine lv_aload_n (pc := 5) hx hb dX3_says_5 rfl (lv_at hl 0 rfl) ?_
    refine gf_X3_1 (pc := 6) C hW kdc_1 fl_X3_27 dX3_says_6 ?_
    refine lv_icmp_ge (pc := 9) (tgt := 30) hx hb dX3_says_9 (by decide) (fun hc1 => ?_) (fun hc1 => ?_)
    · replace h := o_pos hc1 h
      exact w_X3_says_b30 C hK σ v2 v3 v4 v5 hk3 hW hS (lv_sub hl [0, 2, 3, 4, 5] rfl) h
    · replace h := o_neg hc1 h
      refine lv_iload_n (pc := 12) hx hb dX3_says_12 rfl (lv_at hl 1 rfl) ?_
      refine lv_aload_n (pc := 13) hx hb dX3_says_13 rfl (lv_at hl 0 rfl) ?_
      refine gf_X3_0 (pc := 14) C hW kdc_1 fl_X3_11 dX3_says_14 ?_
      refine ra_alllen (pc := 17) C hW dX3_says_17 ?_
      refine lv_icmp_ge (pc := 18) (tgt := 30) hx hb dX3_says_18 (by decide) (fun hc2 => ?_) (fun hc2 => ?_)
      · replace h := o_pos hc2 h
        exact w_X3_says_b30 C hK σ v2 v3 v4 v5 hk3 hW hS (lv_sub hl [0, 2, 3, 4, 5] rfl) h
      · replace h := o_neg hc2 h
        refine lv_aload_n (pc := 21) hx hb dX3_says_21 rfl (lv_at hl 0 rfl) ?_
        refine gf_X3_0 (pc := 22) C hW kdc_1 fl_X3_11 dX3_says_22 ?_
        refine lv_iload_n (pc := 25) hx hb dX3_says_25 rfl (lv_at hl 1 rfl) ?_
        obtain ⟨hc3, h⟩ := o_chk h
        refine ra_all (pc := 26) C hW hc3 dX3_says_26 ?_
        refine lv_goto (pc := 27) (tgt := 31) hx hb dX3_says_27 (by decide) ?_
        exact w_X3_says_b31 C hK σ v2 v3 v4 v5 (tref σ v1) hk3 (fun k hk => TL_tref hk) hW hS (lv_sub hl [0, 2, 3, 4, 5] rfl) h

theorem c_X3_grown {K : Nat}  (hK : 3 ≤ K) {σ : Mem} {σf : Mem} {v1 : Int32} {v2 : Nat} {v3 : Int32} {v4 : Int32} {r : Int32} (hk2 : kd v2 = 9) (h : f_X3_grown σ v1 v2 v3 v4 = some (r, σf)) : MC l D (Ec ac z) inC z ac (z, aK, aV) (Ac z) yX3_grown cX3_grown 6 (some .int) K [.ref (z + 1), .int v1, .ref (z + v2), .int v3, .int v4] σ (some (.int r)) σf := by
  refine MC.of (fun q hq => by have := hq.1; show z ≤ q; omega) (plainFor_of_name (by decide)) (Nat.le_of_ble_eq_true rfl) ?_
  intro p e s m below meth c args C hW ls hl
  replace hl : lv_has ls 6 [(0, .ref (z + 1)), (1, .int v1), (2, .ref (z + v2)), (3, .int v3), (4, .int v4)] := hl
  have hS : va_S (Ac z) s.heap s.heap [] := va_S.rf
  have hx := C.1.1
  have hb := C.1.2.1
  unfold f_X3_grown at h
  refine lv_aload_n (pc := 0) hx hb dX3_grown_0 rfl (lv_at hl 2 rfl) ?_
  refine gf_X1_5 (pc := 1) C hW hk2 fl_X3_62 dX3_grown_1 ?_
  refine lv_if_eq (pc := 4) (tgt := 12) hx hb dX3_grown_4 (by decide) (fun hc0 => ?_) (fun hc0 => ?_)
  · replace h := o_pos hc0 h
    refine lv_iconst (pc := 12) (v := 0) hx hb dX3_grown_12 (by decide) ?_
    refine lv_aload_n (pc := 13) hx hb dX3_grown_13 rfl (lv_at hl 2 rfl) ?_
    refine lv_iload_n (pc := 14) hx hb dX3_grown_14 rfl (lv_at hl 3 rfl) ?_
    refine lv_aload_n (pc := 15) hx hb dX3_grown_15 rfl (lv_at hl 0 rfl) ?_
    refine lv_iload_n (pc := 16) hx hb dX3_grown_16 rfl (lv_at hl 1 rfl) ?_
    refine lv_iconst (pc := 17) (v := 0) hx hb dX3_grown_17 (by decide) ?_
    refine lv_aload_n (pc := 18) hx hb dX3_grown_18 rfl (lv_at hl 2 rfl) ?_
    refine lv_iload_n (pc := 19) hx hb dX3_grown_19 rfl (lv_at hl 3 rfl) ?_
    refine lv_iload (pc := 20) hx hb dX3_grown_20 (lv_at hl 4 rfl) ?_
    obtain ⟨r3, σ4, hc1, h⟩ := o_b2 h
    refine g_virt (pc := 22) (st2 := [.int r3, .int v3, .ref (z + v2), .int (0 : Int32)]) (rest := [.int v3, .ref (z + v2), .int (0 : Int32)]) C hW hS (c_X3_says (K := K - 1) (by omega) hk2 hc1) mw_X3_66 (kin_1 kdc_1) (Ek_1 kdc_1) rfl (hRoom (by omega) (by decide)) rfl rfl rfl (Nat.le_of_ble_eq_true rfl) hl.1 dX3_grown_22 (fun H locs hW hS => ?_)
    refine g_virt (pc := 25) (st2 := [.int (f_X1_growth σ4 v2 v3 r3), .int (0 : Int32)]) (rest := [.int (0 : Int32)]) C hW hS (c_X1_growth (K := K - 1) (by omega) hk2 rfl) mw_X3_70 (kin_9 hk2) (Ek_9 hk2) rfl (hRoom (by omega) (by decide)) rfl rfl rfl (Nat.le_of_ble_eq_true rfl) hl.1 dX3_grown_25 (fun H locs hW hS => ?_)
    refine g_stat (pc := 28) (st2 := [.int (f_J9_max_7cf53 (0 : Int32) (f_X1_growth σ4 v2 v3 r3))]) (rest := []) C hW hS (c_J9_max_7cf53 (K := K - 1) (by omega) rfl) mw_X3_59 (hRoom (by omega) (by decide)) rfl rfl rfl (Nat.le_of_ble_eq_true rfl) hl.1 dX3_grown_28 (fun H locs hW hS => ?_)
    obtain ⟨x5, hxx5, h⟩ := o_d h
    refine g_top hxx5 ?_
    refine lv_istore (pc := 31) (lv' := [(5, .int x5), (0, .ref (z + 1)), (1, .int v1), (2, .ref (z + v2)), (3, .int v3), (4, .int v4)]) hx hb dX3_grown_31 hl (by decide) rfl (fun ls hl => ?_)
    refine lv_sipush (pc := 33) (v := 999) hx hb dX3_grown_33 (by decide) ?_
    refine lv_aload_n (pc := 36) hx hb dX3_grown_36 rfl (lv_at hl 3 rfl) ?_
    refine gf_X1_2 (pc := 37) C hW hk2 fl_X3_31 dX3_grown_37 ?_
    refine lv_iload (pc := 40) hx hb dX3_grown_40 (lv_at hl 0 rfl) ?_
    refine lv_iadd (pc := 42) hx hb dX3_grown_42 ?_
    refine g_stat (pc := 43) (st2 := [.int (f_J9_min_7cf53 (999 : Int32) ((σ4 v2 2) + x5))]) (rest := []) C hW hS (c_J9_min_7cf53 (K := K - 1) (by omega) rfl) mw_X3_53 (hRoom (by omega) (by decide)) rfl rfl rfl (Nat.le_of_ble_eq_true rfl) hl.1 dX3_grown_43 (fun H locs hW hS => ?_)
    exact g_ret (pc := 46) C hW hS rfl dX3_grown_46 (congrArg (fun q => some (Value.int q)) (o_r h).1) (o_r h).2
  · replace h := o_neg hc0 h
    refine lv_aload_n (pc := 7) hx hb dX3_grown_7 rfl (lv_at hl 2 rfl) ?_
    refine gf_X1_2 (pc := 8) C hW hk2 fl_X3_31 dX3_grown_8 ?_
    exact g_ret (pc := 11) C hW hS rfl dX3_grown_11 (congrArg (fun q => some (Value.int q)) (o_r h).1) (o_r h).2

theorem w_J7_fill_53178_b5 (C : CX cJ7_fill_53178 4 RJ7 none D ac p m c s args meth (z, aK, aV) (Ac z)) (hK : 0 ≤ K) {σf : Mem}   (v0 : Nat) (v1 : Int32) (v3 : Int32)  : ∀ (n : Nat) (σ : Mem) (v2 : Int32) {H : Heap} {locs : List Loc} {ls : Array Slot} (tv0 : kd v0 = 3) (hW : WC D ac z σ H) (hS : va_S (Ac z) s.heap H locs) (hl : lv_has ls 4 [(0, .ref (z + v0)), (1, .int v1), (2, .int v2), (3, .int v3)]) (h : f_J7_fill_53178_b5 v0 v1 v3 n σ v2 = some σf), W p l e (rma K 0 0) s m args below meth c H locs 0 0 (MQ below (QV D (Ec ac z) inC z none σf (Ac z)) args s 0 0 (Ac z)) (F0 m 5 ls []) := by
  have hx := C.1.1
  have hb := C.1.2.1
  intro n
  induction n with
  | zero =>
    intro σ v2 H locs ls tv0 hW hS hl h
    cases h
  | succ n ih =>
    intro σ v2 H locs ls tv0 hW hS hl h
    rw [f_J7_fill_53178_b5.eq_2] at h
    refine lv_iload_n (pc := 5) hx hb dJ7_fill_53178_5 rfl (lv_at hl 2 rfl) ?_
    refine lv_iload_n (pc := 6) hx hb dJ7_fill_53178_6 rfl (lv_at hl 3 rfl) ?_
    refine lv_icmp_ge (pc := 7) (tgt := 20) hx hb dJ7_fill_53178_7 (by decide) (fun hc0 => ?_) (fun hc0 => ?_)
    · replace h := o_pos hc0 h
      exact g_vret (pc := 20) C hW hS dJ7_fill_53178_20 rfl (Option.some.inj h).symm
    · replace h := o_neg hc0 h
      refine lv_aload_n (pc := 10) hx hb dJ7_fill_53178_10 rfl (lv_at hl 0 rfl) ?_
      refine lv_iload_n (pc := 11) hx hb dJ7_fill_53178_11 rfl (lv_at hl 2 rfl) ?_
      refine lv_iload_n (pc := 12) hx hb dJ7_fill_53178_12 rfl (lv_at hl 1 rfl) ?_
      obtain ⟨hc1, h⟩ := o_chk h
      refine ia_st (pc := 13) C hW hS tv0 rfl rfl (inb_in hc1) dJ7_fill_53178_13 (fun H locs hW hS => ?_)
      refine lv_iinc (pc := 14) (v := (v2 + 1)) (lv' := [(2, .int (v2 + 1)), (0, .ref (z + v0)), (1, .int v1), (3, .int v3)]) hx hb dJ7_fill_53178_14 hl (k := 2) rfl rfl (by decide) rfl (fun ls hl => ?_)
      refine lv_goto (pc := 17) (tgt := 5) hx hb dJ7_fill_53178_17 (by decide) ?_
      exact ih (ms σ v0 (v2.toNatClampNeg) v1) (v2 + 1) tv0 hW hS (lv_sub hl [1, 2, 0, 3] rfl) h

theorem c_J7_fill_53178 {K : Nat}  (hK : 0 ≤ K) {σ : Mem} {σf : Mem} {v0 : Nat} {v1 : Int32} (hk0 : kd v0 = 3) (h : f_J7_fill_53178 σ v0 v1 = some σf) : MC l D (Ec ac z) inC z ac (z, aK, aV) (Ac z) yJ7_fill_53178 cJ7_fill_53178 4 none K [.ref (z + v0), .int v1] σ none σf := by
  refine MC.of (fun q hq => by have := hq.1; show z ≤ q; omega) (by decide +kernel) (Nat.le_of_ble_eq_true rfl) ?_
  intro p e s m below meth c args C hW ls hl
  replace hl : lv_has ls 4 [(0, .ref (z + v0)), (1, .int v1)] := hl
  have hS : va_S (Ac z) s.heap s.heap [] := va_S.rf
  have hx := C.1.1
  have hb := C.1.2.1
  unfold f_J7_fill_53178 at h
  refine lv_iconst (pc := 0) (v := 0) hx hb dJ7_fill_53178_0 (by decide) ?_
  refine lv_istore_n (pc := 1) (lv' := [(2, .int (0 : Int32)), (0, .ref (z + v0)), (1, .int v1)]) hx hb dJ7_fill_53178_1 rfl hl (by decide) rfl (fun ls hl => ?_)
  refine lv_aload_n (pc := 2) hx hb dJ7_fill_53178_2 rfl (lv_at hl 1 rfl) ?_
  refine ia_len (pc := 3) C hW hk0 rfl dJ7_fill_53178_3 ?_
  refine lv_istore_n (pc := 4) (lv' := [(3, .int (Int32.ofNat (al v0))), (2, .int (0 : Int32)), (0, .ref (z + v0)), (1, .int v1)]) hx hb dJ7_fill_53178_4 rfl hl (by decide) rfl (fun ls hl => ?_)
  exact w_J7_fill_53178_b5 C hK v0 v1 (Int32.ofNat (al v0)) FU σ (0 : Int32) hk0 hW hS (lv_sub hl [2, 3, 1, 0] rfl) h

theorem c_X4_makeRow {K : Nat}  (hK : 1 ≤ K) {σ : Mem} {σf : Mem} {v0 : Nat} {v1 : Int32} {v2 : Int32} (hk0 : kd v0 = 12) (h : f_X4_makeRow σ v0 v1 v2 = some σf) : MC l D (Ec ac z) inC z ac (z, aK, aV) (Ac z) yX4_makeRow cX4_makeRow 3 none K [.ref (z + v0), .int v1, .int v2] σ none σf := by
  refine MC.of (fun q hq => by have := hq.1; show z ≤ q; omega) (plainFor_of_name (by decide)) (Nat.le_of_ble_eq_true rfl) ?_
  intro p e s m below meth c args C hW ls hl
  replace hl : lv_has ls 3 [(0, .ref (z + v0)), (1, .int v1), (2, .int v2)] := hl
  have hS : va_S (Ac z) s.heap s.heap [] := va_S.rf
  have hx := C.1.1
  have hb := C.1.2.1
  unfold f_X4_makeRow at h
  refine lv_aload_n (pc := 0) hx hb dX4_makeRow_0 rfl (lv_at hl 0 rfl) ?_
  refine lv_iload_n (pc := 1) hx hb dX4_makeRow_1 rfl (lv_at hl 1 rfl) ?_
  refine pf_X4_1 (pc := 2) C hW hS hk0 fl_X4_15 dX4_makeRow_2 (fun H locs hW hS => ?_)
  refine lv_aload_n (pc := 5) hx hb dX4_makeRow_5 rfl (lv_at hl 0 rfl) ?_
  refine lv_iload_n (pc := 6) hx hb dX4_makeRow_6 rfl (lv_at hl 2 rfl) ?_
  refine pf_X4_2 (pc := 7) C hW hS hk0 fl_X4_19 dX4_makeRow_7 (fun H locs hW hS => ?_)
  refine lv_aload_n (pc := 10) hx hb dX4_makeRow_10 rfl (lv_at hl 0 rfl) ?_
  refine gf_X4_0 (pc := 11) C hW hk0 fl_X4_9 dX4_makeRow_11 ?_
  refine lv_iconst (pc := 14) (v := 0) hx hb dX4_makeRow_14 (by decide) ?_
  obtain ⟨σ2, hc0, h⟩ := o_b h
  refine g_stat (pc := 15) (st2 := []) (rest := []) C hW hS (c_J7_fill_53178 (K := K - 1) (by omega) (kd_snum hk0) hc0) mw_X4_22 (hRoom (by omega) (by decide)) rfl rfl rfl (Nat.le_of_ble_eq_true rfl) hl.1 dX4_makeRow_15 (fun H locs hW hS => ?_)
  exact g_vret (pc := 18) C hW hS dX4_makeRow_18 rfl (Option.some.inj h).symm

theorem c_X4_number {K : Nat}  (hK : 0 ≤ K) {σ : Mem} {v0 : Nat} {v1 : Int32} {r : Int32} (hk0 : kd v0 = 12) (h : f_X4_number σ v0 v1 = some r) : MC l D (Ec ac z) inC z ac (z, aK, aV) (Ac z) yX4_number cX4_number 2 (some .int) K [.ref (z + v0), .int v1] σ (some (.int r)) σ := by
  refine MC.of (fun q hq => by have := hq.1; show z ≤ q; omega) (plainFor_of_name (by decide)) (Nat.le_of_ble_eq_true rfl) ?_
  intro p e s m below meth c args C hW ls hl
  replace hl : lv_has ls 2 [(0, .ref (z + v0)), (1, .int v1)] := hl
  have hS : va_S (Ac z) s.heap s.heap [] := va_S.rf
  have hx := C.1.1
  have hb := C.1.2.1
  unfold f_X4_number at h
  refine lv_iload_n (pc := 0) hx hb dX4_number_0 rfl (lv_at hl 1 rfl) ?_
  refine lv_if_lt (pc := 1) (tgt := 30) hx hb dX4_number_1 (by decide) (fun hc0 => ?_) (fun hc0 => ?_)
  · replace h := o_pos hc0 h
    refine lv_iconst (pc := 30) (v := 0) hx hb dX4_number_30 (by decide) ?_
    exact g_ret (pc := 31) C hW hS rfl dX4_number_31 (congrArg (fun q => some (Value.int q)) (Option.some.inj h).symm) rfl
  · replace h := o_neg hc0 h
    refine lv_iload_n (pc := 4) hx hb dX4_number_4 rfl (lv_at hl 1 rfl) ?_
    refine lv_aload_n (pc := 5) hx hb dX4_number_5 rfl (lv_at hl 0 rfl) ?_
    refine gf_X4_2 (pc := 6) C hW hk0 fl_X4_19 dX4_number_6 ?_
    refine lv_icmp_ge (pc := 9) (tgt := 30) hx hb dX4_number_9 (by decide) (fun hc1 => ?_) (fun hc1 => ?_)
    · replace h := o_pos hc1 h
      refine lv_iconst (pc := 30) (v := 0) hx hb dX4_number_30 (by decide) ?_
      exact g_ret (pc := 31) C hW hS rfl dX4_number_31 (congrArg (fun q => some (Value.int q)) (Option.some.inj h).symm) rfl
    · replace h := o_neg hc1 h
      refine lv_iload_n (pc := 12) hx hb dX4_number_12 rfl (lv_at hl 1 rfl) ?_
      refine lv_aload_n (pc := 13) hx hb dX4_number_13 rfl (lv_at hl 0 rfl) ?_
      refine gf_X4_0 (pc := 14) C hW hk0 fl_X4_9 dX4_number_14 ?_
      refine ia_len (pc := 17) (v := 40) C hW (kd_snum hk0) (by rw [(al_snum hk0)]; decide) dX4_number_17 ?_
      refine lv_icmp_ge (pc := 18) (tgt := 30) hx hb dX4_number_18 (by decide) (fun hc2 => ?_) (fun hc2 => ?_)
      · replace h := o_pos hc2 h
        refine lv_iconst (pc := 30) (v := 0) hx hb dX4_number_30 (by decide) ?_
        exact g_ret (pc := 31) C hW hS rfl dX4_number_31 (congrArg (fun q => some (Value.int q)) (Option.some.inj h).symm) rfl
      · replace h := o_neg hc2 h
        refine lv_aload_n (pc := 21) hx hb dX4_number_21 rfl (lv_at hl 0 rfl) ?_
        refine gf_X4_0 (pc := 22) C hW hk0 fl_X4_9 dX4_number_22 ?_
        refine lv_iload_n (pc := 25) hx hb dX4_number_25 rfl (lv_at hl 1 rfl) ?_
        obtain ⟨hc3, h⟩ := o_chk h
        refine ia_ld (pc := 26) C hW (kd_snum hk0) (al_snum hk0) rfl (inb_in hc3) dX4_number_26 ?_
        refine lv_goto (pc := 27) (tgt := 31) hx hb dX4_number_27 (by decide) ?_
        exact g_ret (pc := 31) C hW hS rfl dX4_number_31 (congrArg (fun q => some (Value.int q)) (Option.some.inj h).symm) rfl

theorem c_X4_put {K : Nat}  (hK : 0 ≤ K) {σ : Mem} {σf : Mem} {v0 : Nat} {v1 : Int32} {v2 : Int32} (hk0 : kd v0 = 12) (h : f_X4_put σ v0 v1 v2 = some σf) : MC l D (Ec ac z) inC z ac (z, aK, aV) (Ac z) yX4_put cX4_put 3 none K [.ref (z + v0), .int v1, .int v2] σ none σf := by
  refine MC.of (fun q hq => by have := hq.1; show z ≤ q; omega) (plainFor_of_name (by decide)) (Nat.le_of_ble_eq_true rfl) ?_
  intro p e s m below meth c args C hW ls hl
  replace hl : lv_has ls 3 [(0, .ref (z + v0)), (1, .int v1), (2, .int v2)] := hl
  have hS : va_S (Ac z) s.heap s.heap [] := va_S.rf
  have hx := C.1.1
  have hb := C.1.2.1
  unfold f_X4_put at h
  refine lv_iload_n (pc := 0) hx hb dX4_put_0 rfl (lv_at hl 1 rfl) ?_
  refine lv_if_lt (pc := 1) (tgt := 21) hx hb dX4_put_1 (by decide) (fun hc0 => ?_) (fun hc0 => ?_)
  · replace h := o_pos hc0 h
    exact g_vret (pc := 21) C hW hS dX4_put_21 rfl (Option.some.inj h).symm
  · replace h := o_neg hc0 h
    refine lv_iload_n (pc := 4) hx hb dX4_put_4 rfl (lv_at hl 1 rfl) ?_
    refine lv_aload_n (pc := 5) hx hb dX4_put_5 rfl (lv_at hl 0 rfl) ?_
    refine gf_X4_2 (pc := 6) C hW hk0 fl_X4_19 dX4_put_6 ?_
    refine lv_icmp_ge (pc := 9) (tgt := 21) hx hb dX4_put_9 (by decide) (fun hc1 => ?_) (fun hc1 => ?_)
    · replace h := o_pos hc1 h
      exact g_vret (pc := 21) C hW hS dX4_put_21 rfl (Option.some.inj h).symm
    · replace h := o_neg hc1 h
      refine lv_iload_n (pc := 12) hx hb dX4_put_12 rfl (lv_at hl 1 rfl) ?_
      refine lv_aload_n (pc := 13) hx hb dX4_put_13 rfl (lv_at hl 0 rfl) ?_
      refine gf_X4_0 (pc := 14) C hW hk0 fl_X4_9 dX4_put_14 ?_
      refine ia_len (pc := 17) (v := 40) C hW (kd_snum hk0) (by rw [(al_snum hk0)]; decide) dX4_put_17 ?_
      refine lv_icmp_lt (pc := 18) (tgt := 22) hx hb dX4_put_18 (by decide) (fun hc2 => ?_) (fun hc2 => ?_)
      · replace h := o_pos hc2 h
        refine lv_aload_n (pc := 22) hx hb dX4_put_22 rfl (lv_at hl 0 rfl) ?_
        refine gf_X4_1 (pc := 23) C hW hk0 fl_X4_15 dX4_put_23 ?_
        refine lv_if_ne (pc := 26) (tgt := 40) hx hb dX4_put_26 (by decide) (fun hc3 => ?_) (fun hc3 => ?_)
        · replace h := o_neg hc3 h
          refine lv_aload_n (pc := 40) hx hb dX4_put_40 rfl (lv_at hl 0 rfl) ?_
          refine gf_X4_0 (pc := 41) C hW hk0 fl_X4_9 dX4_put_41 ?_
          refine lv_iload_n (pc := 44) hx hb dX4_put_44 rfl (lv_at hl 1 rfl) ?_
          refine lv_aload_n (pc := 45) hx hb dX4_put_45 rfl (lv_at hl 0 rfl) ?_
          refine gf_X4_1 (pc := 46) C hW hk0 fl_X4_15 dX4_put_46 ?_
          refine lv_iconst (pc := 49) (v := 1) hx hb dX4_put_49 (by decide) ?_
          refine lv_icmp_ne (pc := 50) (tgt := 58) hx hb dX4_put_50 (by decide) (fun hc4 => ?_) (fun hc4 => ?_)
          · replace h := o_neg hc4 h
            refine lv_iload_n (pc := 58) hx hb dX4_put_58 rfl (lv_at hl 2 rfl) ?_
            obtain ⟨hc5, h⟩ := o_chk h
            refine ia_st (pc := 59) C hW hS (kd_snum hk0) (al_snum hk0) rfl (inb_in hc5) dX4_put_59 (fun H locs hW hS => ?_)
            exact g_vret (pc := 60) C hW hS dX4_put_60 rfl (Option.some.inj h).symm
          · replace h := o_pos hc4 h
            refine lv_iload_n (pc := 53) hx hb dX4_put_53 rfl (lv_at hl 2 rfl) ?_
            refine lv_i2s (pc := 54) (v := (v2.toInt16.toInt32)) hx hb dX4_put_54 rfl ?_
            refine lv_goto (pc := 55) (tgt := 59) hx hb dX4_put_55 (by decide) ?_
            obtain ⟨hc6, h⟩ := o_chk h
            refine ia_st (pc := 59) C hW hS (kd_snum hk0) (al_snum hk0) rfl (inb_in hc6) dX4_put_59 (fun H locs hW hS => ?_)
            obtain ⟨σ8, hσ8, h⟩ := o_d h
            replace hW : WC D ac z σ8 H := by rw [← hσ8]; exact hW
            exact g_vret (pc := 60) C hW hS dX4_put_60 rfl (Option.some.inj h).symm
        · replace h := o_pos hc3 h
          refine lv_aload_n (pc := 29) hx hb dX4_put_29 rfl (lv_at hl 0 rfl) ?_
          refine gf_X4_0 (pc := 30) C hW hk0 fl_X4_9 dX4_put_30 ?_
          refine lv_iload_n (pc := 33) hx hb dX4_put_33 rfl (lv_at hl 1 rfl) ?_
          refine lv_iload_n (pc := 34) hx hb dX4_put_34 rfl (lv_at hl 2 rfl) ?_
          refine lv_i2b (pc := 35) (v := (v2.toInt8.toInt32)) hx hb dX4_put_35 rfl ?_
          obtain ⟨hc8, h⟩ := o_chk h
          refine ia_st (pc := 36) C hW hS (kd_snum hk0) (al_snum hk0) rfl (inb_in hc8) dX4_put_36 (fun H locs hW hS => ?_)
          obtain ⟨σ10, hσ10, h⟩ := o_d h
          replace hW : WC D ac z σ10 H := by rw [← hσ10]; exact hW
          refine lv_goto (pc := 37) (tgt := 60) hx hb dX4_put_37 (by decide) ?_
          exact g_vret (pc := 60) C hW hS dX4_put_60 rfl (Option.some.inj h).symm
      · replace h := o_neg hc2 h
        exact g_vret (pc := 21) C hW hS dX4_put_21 rfl (Option.some.inj h).symm

theorem c_X4_holds {K : Nat}  (hK : 0 ≤ K) {σ : Mem} {v0 : Nat} {v1 : Int32} {v2 : Int32} {r : Int32} (hk0 : kd v0 = 12) (h : f_X4_holds σ v0 v1 v2 = r) : MC l D (Ec ac z) inC z ac (z, aK, aV) (Ac z) yX4_holds cX4_holds 3 (some .boolean) K [.ref (z + v0), .int v1, .int v2] σ (some (.int r)) σ := by
  refine MC.of (fun q hq => by have := hq.1; show z ≤ q; omega) (plainFor_of_name (by decide)) (Nat.le_of_ble_eq_true rfl) ?_
  intro p e s m below meth c args C hW ls hl
  replace hl : lv_has ls 3 [(0, .ref (z + v0)), (1, .int v1), (2, .int v2)] := hl
  have hS : va_S (Ac z) s.heap s.heap [] := va_S.rf
  have hx := C.1.1
  have hb := C.1.2.1
  unfold f_X4_holds at h
  refine lv_iload_n (pc := 0) hx hb dX4_holds_0 rfl (lv_at hl 1 rfl) ?_
  refine lv_if_lt (pc := 1) (tgt := 30) hx hb dX4_holds_1 (by decide) (fun hc0 => ?_) (fun hc0 => ?_)
  · replace h := o_pos hc0 h
    refine lv_iconst (pc := 30) (v := 0) hx hb dX4_holds_30 (by decide) ?_
    exact g_ret (pc := 31) C hW hS rfl dX4_holds_31 (congrArg (fun q => some (Value.int q)) h.symm) rfl
  · replace h := o_neg hc0 h
    refine lv_iload_n (pc := 4) hx hb dX4_holds_4 rfl (lv_at hl 2 rfl) ?_
    refine lv_if_lt (pc := 5) (tgt := 30) hx hb dX4_holds_5 (by decide) (fun hc1 => ?_) (fun hc1 => ?_)
    · replace h := o_pos hc1 h
      refine lv_iconst (pc := 30) (v := 0) hx hb dX4_holds_30 (by decide) ?_
      exact g_ret (pc := 31) C hW hS rfl dX4_holds_31 (congrArg (fun q => some (Value.int q)) h.symm) rfl
    · replace h := o_neg hc1 h
      refine lv_iload_n (pc := 8) hx hb dX4_holds_8 rfl (lv_at hl 2 rfl) ?_
      refine lv_aload_n (pc := 9) hx hb dX4_holds_9 rfl (lv_at hl 0 rfl) ?_
      refine gf_X4_2 (pc := 10) C hW hk0 fl_X4_19 dX4_holds_10 ?_
      refine lv_icmp_gt (pc := 13) (tgt := 30) hx hb dX4_holds_13 (by decide) (fun hc2 => ?_) (fun hc2 => ?_)
      · replace h := o_pos hc2 h
        refine lv_iconst (pc := 30) (v := 0) hx hb dX4_holds_30 (by decide) ?_
        exact g_ret (pc := 31) C hW hS rfl dX4_holds_31 (congrArg (fun q => some (Value.int q)) h.symm) rfl
      · replace h := o_neg hc2 h
        refine lv_iload_n (pc := 16) hx hb dX4_holds_16 rfl (lv_at hl 1 rfl) ?_
        refine lv_aload_n (pc := 17) hx hb dX4_holds_17 rfl (lv_at hl 0 rfl) ?_
        refine gf_X4_2 (pc := 18) C hW hk0 fl_X4_19 dX4_holds_18 ?_
        refine lv_iload_n (pc := 21) hx hb dX4_holds_21 rfl (lv_at hl 2 rfl) ?_
        refine lv_isub (pc := 22) hx hb dX4_holds_22 ?_
        refine lv_icmp_gt (pc := 23) (tgt := 30) hx hb dX4_holds_23 (by decide) (fun hc3 => ?_) (fun hc3 => ?_)
        · replace h := o_pos hc3 h
          refine lv_iconst (pc := 30) (v := 0) hx hb dX4_holds_30 (by decide) ?_
          exact g_ret (pc := 31) C hW hS rfl dX4_holds_31 (congrArg (fun q => some (Value.int q)) h.symm) rfl
        · replace h := o_neg hc3 h
          refine lv_iconst (pc := 26) (v := 1) hx hb dX4_holds_26 (by decide) ?_
          refine lv_goto (pc := 27) (tgt := 31) hx hb dX4_holds_27 (by decide) ?_
          exact g_ret (pc := 31) C hW hS rfl dX4_holds_31 (congrArg (fun q => some (Value.int q)) h.symm) rfl

theorem w_X4_tellsOffers_b22 (C : CX cX4_tellsOffers 4 RX4 (some .boolean) D ac p m c s args meth (z, aK, aV) (Ac z)) (hK : 1 ≤ K) {r : Int32}   (σ : Mem) (v0 : Nat)  : ∀ (n : Nat) (v1 : Int32) {H : Heap} {locs : List Loc} {ls : Array Slot} (tv0 : kd v0 = 12) (hW : WC D ac z σ H) (hS : va_S (Ac z) s.heap H locs) (hl : lv_has ls 4 [(0, .ref (z + v0)), (1, .int v1)]) (h : f_X4_tellsOffers_b22 σ v0 n v1 = some r), W p l e (rma K 0 0) s m args below meth c H locs 0 0 (MQ below (QV D (Ec ac z) inC z (some (.int r)) σ (Ac z)) args s 0 0 (Ac z)) (F0 m 22 ls []) := by
  have hx := C.1.1
  have hb := C.1.2.1
  intro n
  induction n with
  | zero =>
    intro v1 H locs ls tv0 hW hS hl h
    cases h
  | succ n ih =>
    intro v1 H locs ls tv0 hW hS hl h
    rw [f_X4_tellsOffers_b22.eq_2] at h
    refine lv_iload_n (pc := 22) hx hb dX4_tellsOffers_22 rfl (lv_at hl 1 rfl) ?_
    refine lv_aload_n (pc := 23) hx hb dX4_tellsOffers_23 rfl (lv_at hl 0 rfl) ?_
    refine gf_X4_2 (pc := 24) C hW tv0 fl_X4_19 dX4_tellsOffers_24 ?_
    refine lv_icmp_ge (pc := 27) (tgt := 74) hx hb dX4_tellsOffers_27 (by decide) (fun hc2 => ?_) (fun hc2 => ?_)
    · replace h := o_pos hc2 h
      refine lv_iconst (pc := 74) (v := 1) hx hb dX4_tellsOffers_74 (by decide) ?_
      exact g_ret (pc := 75) C hW hS rfl dX4_tellsOffers_75 (congrArg (fun q => some (Value.int q)) (Option.some.inj h).symm) rfl
    · replace h := o_neg hc2 h
      refine lv_aload_n (pc := 30) hx hb dX4_tellsOffers_30 rfl (lv_at hl 0 rfl) ?_
      refine lv_iload_n (pc := 31) hx hb dX4_tellsOffers_31 rfl (lv_at hl 1 rfl) ?_
      obtain ⟨r5, hc3, h⟩ := o_b h
      refine g_virt (pc := 32) (st2 := [.int r5]) (rest := []) C hW hS (c_X4_number (K := K - 1) (by omega) tv0 hc3) mw_X4_28 (kin_12 tv0) (Ek_12 tv0) rfl (hRoom (by omega) (by decide)) rfl rfl rfl (Nat.le_of_ble_eq_true rfl) hl.1 dX4_tellsOffers_32 (fun H locs hW hS => ?_)
      refine lv_istore_n (pc := 35) (lv' := [(2, .int r5), (0, .ref (z + v0)), (1, .int v1)]) hx hb dX4_tellsOffers_35 rfl hl (by decide) rfl (fun ls hl => ?_)
      refine lv_aload_n (pc := 36) hx hb dX4_tellsOffers_36 rfl (lv_at hl 1 rfl) ?_
      refine lv_iload_n (pc := 37) hx hb dX4_tellsOffers_37 rfl (lv_at hl 2 rfl) ?_
      refine lv_iconst (pc := 38) (v := 1) hx hb dX4_tellsOffers_38 (by decide) ?_
      refine lv_iadd (pc := 39) hx hb dX4_tellsOffers_39 ?_
      obtain ⟨r7, hc5, h⟩ := o_b h
      refine g_virt (pc := 40) (st2 := [.int r7]) (rest := []) C hW hS (c_X4_number (K := K - 1) (by omega) tv0 hc5) mw_X4_28 (kin_12 tv0) (Ek_12 tv0) rfl (hRoom (by omega) (by decide)) rfl rfl rfl (Nat.le_of_ble_eq_true rfl) hl.1 dX4_tellsOffers_40 (fun H locs hW hS => ?_)
      refine lv_istore_n (pc := 43) (lv' := [(3, .int r7), (2, .int r5), (0, .ref (z + v0)), (1, .int v1)]) hx hb dX4_tellsOffers_43 rfl hl (by decide) rfl (fun ls hl => ?_)
      refine lv_iload_n (pc := 44) hx hb dX4_tellsOffers_44 rfl (lv_at hl 1 rfl) ?_
      refine lv_iconst (pc := 45) (v := 1) hx hb dX4_tellsOffers_45 (by decide) ?_
      refine lv_icmp_lt (pc := 46) (tgt := 66) hx hb dX4_tellsOffers_46 (by decide) (fun hc7 => ?_) (fun hc7 => ?_)
      · replace h := o_pos hc7 h
        refine lv_iconst (pc := 66) (v := 0) hx hb dX4_tellsOffers_66 (by decide) ?_
        exact g_ret (pc := 67) C hW hS rfl dX4_tellsOffers_67 (congrArg (fun q => some (Value.int q)) (Option.some.inj h).symm) rfl
      · replace h := o_neg hc7 h
        refine lv_iload_n (pc := 49) hx hb dX4_tellsOffers_49 rfl (lv_at hl 1 rfl) ?_
        refine lv_sipush (pc := 50) (v := 200) hx hb dX4_tellsOffers_50 (by decide) ?_
        refine lv_icmp_gt (pc := 53) (tgt := 66) hx hb dX4_tellsOffers_53 (by decide) (fun hc8 => ?_) (fun hc8 => ?_)
        · replace h := o_pos hc8 h
          refine lv_iconst (pc := 66) (v := 0) hx hb dX4_tellsOffers_66 (by decide) ?_
          exact g_ret (pc := 67) C hW hS rfl dX4_tellsOffers_67 (congrArg (fun q => some (Value.int q)) (Option.some.inj h).symm) rfl
        · replace h := o_neg hc8 h
          refine lv_iload_n (pc := 56) hx hb dX4_tellsOffers_56 rfl (lv_at hl 0 rfl) ?_
          refine lv_if_lt (pc := 57) (tgt := 66) hx hb dX4_tellsOffers_57 (by decide) (fun hc9 => ?_) (fun hc9 => ?_)
          · replace h := o_pos hc9 h
            refine lv_iconst (pc := 66) (v := 0) hx hb dX4_tellsOffers_66 (by decide) ?_
            exact g_ret (pc := 67) C hW hS rfl dX4_tellsOffers_67 (congrArg (fun q => some (Value.int q)) (Option.some.inj h).symm) rfl
          · replace h := o_neg hc9 h
            refine lv_iload_n (pc := 60) hx hb dX4_tellsOffers_60 rfl (lv_at hl 0 rfl) ?_
            refine lv_bipush (pc := 61) (v := 60) hx hb dX4_tellsOffers_61 (by decide) ?_
            refine lv_icmp_lt (pc := 63) (tgt := 68) hx hb dX4_tellsOffers_63 (by decide) (fun hc10 => ?_) (fun hc10 => ?_)
            · replace h := o_pos hc10 h
              refine lv_iinc (pc := 68) (v := (v1 + 2)) (lv' := [(1, .int (v1 + 2)), (3, .int r7), (2, .int r5), (0, .ref (z + v0))]) hx hb dX4_tellsOffers_68 hl (k := 3) rfl rfl (by decide) rfl (fun ls hl => ?_)
              refine lv_goto (pc := 71) (tgt := 22) hx hb dX4_tellsOffers_71 (by decide) ?_
              exact ih (v1 + 2) tv0 hW hS (lv_sub hl [3, 0] rfl) h
            · replace h := o_neg hc10 h
              refine lv_iconst (pc := 66) (v := 0) hx hb dX4_tellsOffers_66 (by decide) ?_
              exact g_ret (pc := 67) C hW hS rfl dX4_tellsOffers_67 (congrArg (fun q => some (Value.int q)) (Option.some.inj h).symm) rfl

theorem c_X4_tellsOffers {K : Nat}  (hK : 1 ≤ K) {σ : Mem} {v0 : Nat} {r : Int32} (hk0 : kd v0 = 12) (h : f_X4_tellsOffers σ v0 = some r) : MC l D (Ec ac z) inC z ac (z, aK, aV) (Ac z) yX4_tellsOffers cX4_tellsOffers 4 (some .boolean) K [.ref (z + v0)] σ (some (.int r)) σ := by
  refine MC.of (fun q hq => by have := hq.1; show z ≤ q; omega) (plainFor_of_name (by decide)) (Nat.le_of_ble_eq_true rfl) ?_
  intro p e s m below meth c args C hW ls hl
  replace hl : lv_has ls 4 [(0, .ref (z + v0))] := hl
  have hS : va_S (Ac z) s.heap s.heap [] := va_S.rf
  have hx := C.1.1
  have hb := C.1.2.1
  unfold f_X4_tellsOffers at h
  refine lv_aload_n (pc := 0) hx hb dX4_tellsOffers_0 rfl (lv_at hl 0 rfl) ?_
  refine gf_X4_2 (pc := 1) C hW hk0 fl_X4_19 dX4_tellsOffers_1 ?_
  refine lv_iconst (pc := 4) (v := 2) hx hb dX4_tellsOffers_4 (by decide) ?_
  refine lv_irem (pc := 5) hx hb dX4_tellsOffers_5 (by decide) ?_
  refine lv_if_ne (pc := 6) (tgt := 18) hx hb dX4_tellsOffers_6 (by decide) (fun hc0 => ?_) (fun hc0 => ?_)
  · replace h := o_neg hc0 h
    refine lv_iconst (pc := 18) (v := 0) hx hb dX4_tellsOffers_18 (by decide) ?_
    exact g_ret (pc := 19) C hW hS rfl dX4_tellsOffers_19 (congrArg (fun q => some (Value.int q)) (Option.some.inj h).symm) rfl
  · replace h := o_pos hc0 h
    refine lv_aload_n (pc := 9) hx hb dX4_tellsOffers_9 rfl (lv_at hl 0 rfl) ?_
    refine gf_X4_2 (pc := 10) C hW hk0 fl_X4_19 dX4_tellsOffers_10 ?_
    refine lv_bipush (pc := 13) (v := 12) hx hb dX4_tellsOffers_13 (by decide) ?_
    refine lv_icmp_le (pc := 15) (tgt := 20) hx hb dX4_tellsOffers_15 (by decide) (fun hc1 => ?_) (fun hc1 => ?_)
    · replace h := o_pos hc1 h
      refine lv_iconst (pc := 20) (v := 0) hx hb dX4_tellsOffers_20 (by decide) ?_
      refine lv_istore_n (pc := 21) (lv' := [(1, .int (0 : Int32)), (0, .ref (z + v0))]) hx hb dX4_tellsOffers_21 rfl hl (by decide) rfl (fun ls hl => ?_)
      exact w_X4_tellsOffers_b22 C hK σ v0 FU (0 : Int32) hk0 hW hS (lv_sub hl [1, 0] rfl) h
    · replace h := o_neg hc1 h
      refine lv_iconst (pc := 18) (v := 0) hx hb dX4_tellsOffers_18 (by decide) ?_
      exact g_ret (pc := 19) C hW hS rfl dX4_tellsOffers_19 (congrArg (fun q => some (Value.int q)) (Option.some.inj h).symm) rfl

theorem w_X4_inchesOf_b28 (C : CX cX4_inchesOf 4 RX4 (some .int) D ac p m c s args meth (z, aK, aV) (Ac z)) (hK : 1 ≤ K) {r : Int32}   (σ : Mem) (v0 : Nat) (v1 : Int32) (v2 : Int32) (v3 : Int32) (s4 : Int32 → Int32 → Option Int32) (hs4 : ∀ (v2 : Int32) (v3 : Int32) {H : Heap} {locs : List Loc} {ls : Array Slot} (_ : WC D ac z σ H) (_ : va_S (Ac z) s.heap H locs) (_ : lv_has ls 4 [(0, .ref (z + v0)), (1, .int v1), (2, .int v2), (3, .int v3)]) (_ : s4 v2 v3 = some r), W p l e (rma K 0 0) s m args below meth c H locs 0 0 (MQ below (QV D (Ec ac z) inC z (some (.int r)) σ (Ac z)) args s 0 0 (Ac z)) (F0 m 4 ls [])) {H : Heap} {locs : List Loc} {ls : Array Slot} (tv0 : kd v0 = 12) (hW : WC D ac z σ H) (hS : va_S (Ac z) s.heap H locs) (hl : lv_has ls 4 [(0, .ref (z + v0)), (1, .int v1), (2, .int v2), (3, .int v3)]) (h : f_X4_inchesOf_b28 s4 σ v0 v1 v2 v3 = some r) : W p l e (rma K 0 0) s m args below meth c H locs 0 0 (MQ below (QV D (Ec ac z) inC z (some (.int r)) σ (Ac z)) args s 0 0 (Ac z)) (F0 m 28 ls []) := by
  have hx := C.1.1
  have hb := C.1.2.1
  unfold f_X4_inchesOf_b28 at h
  refine lv_iinc (pc := 28) (v := (v3 + 1)) (lv' := [(3, .int (v3 + 1)), (0, .ref (z + v0)), (1, .int v1), (2, .int v2)]) hx hb dX4_inchesOf_28 hl (k := 3) rfl rfl (by decide) rfl (fun ls hl => ?_)
  refine lv_goto (pc := 31) (tgt := 4) hx hb dX4_inchesOf_31 (by decide) ?_
  exact hs4 v2 (v3 + 1) hW hS (lv_sub hl [1, 2, 3, 0] rfl) h

theorem w_X4_inchesOf_b4 (C : CX cX4_inchesOf 4 RX4 (some .int) D ac p m c s args meth (z, aK, aV) (Ac z)) (hK : 1 ≤ K) {r : Int32}   (σ : Mem) (v0 : Nat) (v1 : Int32)  : ∀ (n : Nat) (v2 : Int32) (v3 : Int32) {H : Heap} {locs : List Loc} {ls : Array Slot} (tv0 : kd v0 = 12) (hW : WC D ac z σ H) (hS : va_S (Ac z) s.heap H locs) (hl : lv_has ls 4 [(0, .ref (z + v0)), (1, .int v1), (2, .int v2), (3, .int v3)]) (h : f_X4_inchesOf_b4 σ v0 v1 n v2 v3 = some r), W p l e (rma K 0 0) s m args below meth c H locs 0 0 (MQ below (QV D (Ec ac z) inC z (some (.int r)) σ (Ac z)) args s 0 0 (Ac z)) (F0 m 4 ls []) := by
  have hx := C.1.1
  have hb := C.1.2.1
  intro n
  induction n with
  | zero =>
    intro v2 v3 H locs ls tv0 hW hS hl h
    cases h
  | succ n ih =>
    intro v2 v3 H locs ls tv0 hW hS hl h
    rw [f_X4_inchesOf_b4.eq_2] at h
    refine lv_iload_n (pc := 4) hx hb dX4_inchesOf_4 rfl (lv_at hl 3 rfl) ?_
    refine lv_bipush (pc := 5) (v := 6) hx hb dX4_inchesOf_5 (by decide) ?_
    refine lv_icmp_ge (pc := 7) (tgt := 34) hx hb dX4_inchesOf_7 (by decide) (fun hc0 => ?_) (fun hc0 => ?_)
    · replace h := o_pos hc0 h
      refine lv_iload_n (pc := 34) hx hb dX4_inchesOf_34 rfl (lv_at hl 2 rfl) ?_
      exact g_ret (pc := 35) C hW hS rfl dX4_inchesOf_35 (congrArg (fun q => some (Value.int q)) (Option.some.inj h).symm) rfl
    · replace h := o_neg hc0 h
      refine lv_iload_n (pc := 10) hx hb dX4_inchesOf_10 rfl (lv_at hl 1 rfl) ?_
      refine lv_iload_n (pc := 11) hx hb dX4_inchesOf_11 rfl (lv_at hl 3 rfl) ?_
      refine lv_ishr (pc := 12) hx hb dX4_inchesOf_12 ?_
      refine lv_iconst (pc := 13) (v := 1) hx hb dX4_inchesOf_13 (by decide) ?_
      refine lv_iand (pc := 14) hx hb dX4_inchesOf_14 ?_
      refine lv_if_eq (pc := 15) (tgt := 28) hx hb dX4_inchesOf_15 (by decide) (fun hc1 => ?_) (fun hc1 => ?_)
      · replace h := o_pos hc1 h
        exact w_X4_inchesOf_b28 C hK σ v0 v1 v2 v3 (f_X4_inchesOf_b4 σ v0 v1 n) (fun v2 v3 {H : Heap} {locs : List Loc} {ls : Array Slot}  hW hS hl h => ih v2 v3 tv0 hW hS hl h) tv0 hW hS (lv_sub hl [0, 1, 2, 3] rfl) h
      · replace h := o_neg hc1 h
        refine lv_iload_n (pc := 18) hx hb dX4_inchesOf_18 rfl (lv_at hl 2 rfl) ?_
        refine lv_aload_n (pc := 19) hx hb dX4_inchesOf_19 rfl (lv_at hl 0 rfl) ?_
        refine lv_iconst (pc := 20) (v := 2) hx hb dX4_inchesOf_20 (by decide) ?_
        refine lv_iload_n (pc := 21) hx hb dX4_inchesOf_21 rfl (lv_at hl 3 rfl) ?_
        refine lv_imul (pc := 22) hx hb dX4_inchesOf_22 ?_
        obtain ⟨r4, hc2, h⟩ := o_b h
        refine g_virt (pc := 23) (st2 := [.int r4, .int v2]) (rest := [.int v2]) C hW hS (c_X4_number (K := K - 1) (by omega) tv0 hc2) mw_X4_28 (kin_12 tv0) (Ek_12 tv0) rfl (hRoom (by omega) (by decide)) rfl rfl rfl (Nat.le_of_ble_eq_true rfl) hl.1 dX4_inchesOf_23 (fun H locs hW hS => ?_)
        refine lv_iadd (pc := 26) hx hb dX4_inchesOf_26 ?_
        refine lv_istore_n (pc := 27) (lv' := [(2, .int (v2 + r4)), (0, .ref (z + v0)), (1, .int v1), (3, .int v3)]) hx hb dX4_inchesOf_27 rfl hl (by decide) rfl (fun ls hl => ?_)
        exact w_X4_inchesOf_b28 C hK σ v0 v1 (v2 + r4) v3 (f_X4_inchesOf_b4 σ v0 v1 n) (fun v2 v3 {H : Heap} {locs : List Loc} {ls : Array Slot}  hW hS hl h => ih v2 v3 tv0 hW hS hl h) tv0 hW hS (lv_sub hl [1, 2, 0, 3] rfl) h

theorem c_X4_inchesOf {K : Nat}  (hK : 1 ≤ K) {σ : Mem} {v0 : Nat} {v1 : Int32} {r : Int32} (hk0 : kd v0 = 12) (h : f_X4_inchesOf σ v0 v1 = some r) : MC l D (Ec ac z) inC z ac (z, aK, aV) (Ac z) yX4_inchesOf cX4_inchesOf 4 (some .int) K [.ref (z + v0), .int v1] σ (some (.int r)) σ := by
  refine MC.of (fun q hq => by have := hq.1; show z ≤ q; omega) (plainFor_of_name (by decide)) (Nat.le_of_ble_eq_true rfl) ?_
  intro p e s m below meth c args C hW ls hl
  replace hl : lv_has ls 4 [(0, .ref (z + v0)), (1, .int v1)] := hl
  have hS : va_S (Ac z) s.heap s.heap [] := va_S.rf
  have hx := C.1.1
  have hb := C.1.2.1
  unfold f_X4_inchesOf at h
  refine lv_iconst (pc := 0) (v := 0) hx hb dX4_inchesOf_0 (by decide) ?_
  refine lv_istore_n (pc := 1) (lv' := [(2, .int (0 : Int32)), (0, .ref (z + v0)), (1, .int v1)]) hx hb dX4_inchesOf_1 rfl hl (by decide) rfl (fun ls hl => ?_)
  refine lv_iconst (pc := 2) (v := 0) hx hb dX4_inchesOf_2 (by decide) ?_
  refine lv_istore_n (pc := 3) (lv' := [(3, .int (0 : Int32)), (2, .int (0 : Int32)), (0, .ref (z + v0)), (1, .int v1)]) hx hb dX4_inchesOf_3 rfl hl (by decide) rfl (fun ls hl => ?_)
  exact w_X4_inchesOf_b4 C hK σ v0 v1 FU (0 : Int32) (0 : Int32) hk0 hW hS (lv_sub hl [2, 3, 1, 0] rfl) h

theorem w_X4_lastWeekOf_b32 (C : CX cX4_lastWeekOf 4 RX4 (some .int) D ac p m c s args meth (z, aK, aV) (Ac z)) (hK : 1 ≤ K) {r : Int32}   (σ : Mem) (v0 : Nat) (v1 : Int32) (v2 : Int32) (v3 : Int32) (s4 : Int32 → Int32 → Option Int32) (hs4 : ∀ (v2 : Int32) (v3 : Int32) {H : Heap} {locs : List Loc} {ls : Array Slot} (_ : WC D ac z σ H) (_ : va_S (Ac z) s.heap H locs) (_ : lv_has ls 4 [(0, .ref (z + v0)), (1, .int v1), (2, .int v2), (3, .int v3)]) (_ : s4 v2 v3 = some r), W p l e (rma K 0 0) s m args below meth c H locs 0 0 (MQ below (QV D (Ec ac z) inC z (some (.int r)) σ (Ac z)) args s 0 0 (Ac z)) (F0 m 4 ls [])) {H : Heap} {locs : List Loc} {ls : Array Slot} (tv0 : kd v0 = 12) (hW : WC D ac z σ H) (hS : va_S (Ac z) s.heap H locs) (hl : lv_has ls 4 [(0, .ref (z + v0)), (1, .int v1), (2, .int v2), (3, .int v3)]) (h : f_X4_lastWeekOf_b32 s4 σ v0 v1 v2 v3 = some r) : W p l e (rma K 0 0) s m args below meth c H locs 0 0 (MQ below (QV D (Ec ac z) inC z (some (.int r)) σ (Ac z)) args s 0 0 (Ac z)) (F0 m 32 ls []) := by
  have hx := C.1.1
  have hb := C.1.2.1
  unfold f_X4_lastWeekOf_b32 at h
  refine lv_iinc (pc := 32) (v := (v3 + 1)) (lv' := [(3, .int (v3 + 1)), (0, .ref (z + v0)), (1, .int v1), (2, .int v2)]) hx hb dX4_lastWeekOf_32 hl (k := 3) rfl rfl (by decide) rfl (fun ls hl => ?_)
  refine lv_goto (pc := 35) (tgt := 4) hx hb dX4_lastWeekOf_35 (by decide) ?_
  exact hs4 v2 (v3 + 1) hW hS (lv_sub hl [1, 2, 3, 0] rfl) h

theorem w_X4_lastWeekOf_b4 (C : CX cX4_lastWeekOf 4 RX4 (some .int) D ac p m c s args meth (z, aK, aV) (Ac z)) (hK : 1 ≤ K) {r : Int32}   (σ : Mem) (v0 : Nat) (v1 : Int32)  : ∀ (n : Nat) (v2 : Int32) (v3 : Int32) {H : Heap} {locs : List Loc} {ls : Array Slot} (tv0 : kd v0 = 12) (hW : WC D ac z σ H) (hS : va_S (Ac z) s.heap H locs) (hl : lv_has ls 4 [(0, .ref (z + v0)), (1, .int v1), (2, .int v2), (3, .int v3)]) (h : f_X4_lastWeekOf_b4 σ v0 v1 n v2 v3 = some r), W p l e (rma K 0 0) s m args below meth c H locs 0 0 (MQ below (QV D (Ec ac z) inC z (some (.int r)) σ (Ac z)) args s 0 0 (Ac z)) (F0 m 4 ls []) := by
  have hx := C.1.1
  have hb := C.1.2.1
  intro n
  induction n with
  | zero =>
    intro v2 v3 H locs ls tv0 hW hS hl h
    cases h
  | succ n ih =>
    intro v2 v3 H locs ls tv0 hW hS hl h
    rw [f_X4_lastWeekOf_b4.eq_2] at h
    refine lv_iload_n (pc := 4) hx hb dX4_lastWeekOf_4 rfl (lv_at hl 3 rfl) ?_
    refine lv_bipush (pc := 5) (v := 6) hx hb dX4_lastWeekOf_5 (by decide) ?_
    refine lv_icmp_ge (pc := 7) (tgt := 38) hx hb dX4_lastWeekOf_7 (by decide) (fun hc0 => ?_) (fun hc0 => ?_)
    · replace h := o_pos hc0 h
      refine lv_iload_n (pc := 38) hx hb dX4_lastWeekOf_38 rfl (lv_at hl 2 rfl) ?_
      exact g_ret (pc := 39) C hW hS rfl dX4_lastWeekOf_39 (congrArg (fun q => some (Value.int q)) (Option.some.inj h).symm) rfl
    · replace h := o_neg hc0 h
      refine lv_iload_n (pc := 10) hx hb dX4_lastWeekOf_10 rfl (lv_at hl 1 rfl) ?_
      refine lv_iload_n (pc := 11) hx hb dX4_lastWeekOf_11 rfl (lv_at hl 3 rfl) ?_
      refine lv_ishr (pc := 12) hx hb dX4_lastWeekOf_12 ?_
      refine lv_iconst (pc := 13) (v := 1) hx hb dX4_lastWeekOf_13 (by decide) ?_
      refine lv_iand (pc := 14) hx hb dX4_lastWeekOf_14 ?_
      refine lv_if_eq (pc := 15) (tgt := 32) hx hb dX4_lastWeekOf_15 (by decide) (fun hc1 => ?_) (fun hc1 => ?_)
      · replace h := o_pos hc1 h
        exact w_X4_lastWeekOf_b32 C hK σ v0 v1 v2 v3 (f_X4_lastWeekOf_b4 σ v0 v1 n) (fun v2 v3 {H : Heap} {locs : List Loc} {ls : Array Slot}  hW hS hl h => ih v2 v3 tv0 hW hS hl h) tv0 hW hS (lv_sub hl [0, 1, 2, 3] rfl) h
      · replace h := o_neg hc1 h
        refine lv_iload_n (pc := 18) hx hb dX4_lastWeekOf_18 rfl (lv_at hl 2 rfl) ?_
        refine lv_aload_n (pc := 19) hx hb dX4_lastWeekOf_19 rfl (lv_at hl 0 rfl) ?_
        refine lv_iconst (pc := 20) (v := 2) hx hb dX4_lastWeekOf_20 (by decide) ?_
        refine lv_iload_n (pc := 21) hx hb dX4_lastWeekOf_21 rfl (lv_at hl 3 rfl) ?_
        refine lv_imul (pc := 22) hx hb dX4_lastWeekOf_22 ?_
        refine lv_iconst (pc := 23) (v := 1) hx hb dX4_lastWeekOf_23 (by decide) ?_
        refine lv_iadd (pc := 24) hx hb dX4_lastWeekOf_24 ?_
        obtain ⟨r4, hc2, h⟩ := o_b h
        refine g_virt (pc := 25) (st2 := [.int r4, .int v2]) (rest := [.int v2]) C hW hS (c_X4_number (K := K - 1) (by omega) tv0 hc2) mw_X4_28 (kin_12 tv0) (Ek_12 tv0) rfl (hRoom (by omega) (by decide)) rfl rfl rfl (Nat.le_of_ble_eq_true rfl) hl.1 dX4_lastWeekOf_25 (fun H locs hW hS => ?_)
        refine g_stat (pc := 28) (st2 := [.int (f_J9_max_7cf53 v2 r4)]) (rest := []) C hW hS (c_J9_max_7cf53 (K := K - 1) (by omega) rfl) mw_X4_32 (hRoom (by omega) (by decide)) rfl rfl rfl (Nat.le_of_ble_eq_true rfl) hl.1 dX4_lastWeekOf_28 (fun H locs hW hS => ?_)
        refine lv_istore_n (pc := 31) (lv' := [(2, .int (f_J9_max_7cf53 v2 r4)), (0, .ref (z + v0)), (1, .int v1), (3, .int v3)]) hx hb dX4_lastWeekOf_31 rfl hl (by decide) rfl (fun ls hl => ?_)
        exact w_X4_lastWeekOf_b32 C hK σ v0 v1 (f_J9_max_7cf53 v2 r4) v3 (f_X4_lastWeekOf_b4 σ v0 v1 n) (fun v2 v3 {H : Heap} {locs : List Loc} {ls : Array Slot}  hW hS hl h => ih v2 v3 tv0 hW hS hl h) tv0 hW hS (lv_sub hl [1, 2, 0, 3] rfl) h

theorem c_X4_lastWeekOf {K : Nat}  (hK : 1 ≤ K) {σ : Mem} {v0 : Nat} {v1 : Int32} {r : Int32} (hk0 : kd v0 = 12) (h : f_X4_lastWeekOf σ v0 v1 = some r) : MC l D (Ec ac z) inC z ac (z, aK, aV) (Ac z) yX4_lastWeekOf cX4_lastWeekOf 4 (some .int) K [.ref (z + v0), .int v1] σ (some (.int r)) σ := by
  refine MC.of (fun q hq => by have := hq.1; show z ≤ q; omega) (plainFor_of_name (by decide)) (Nat.le_of_ble_eq_true rfl) ?_
  intro p e s m below meth c args C hW ls hl
  replace hl : lv_has ls 4 [(0, .ref (z + v0)), (1, .int v1)] := hl
  have hS : va_S (Ac z) s.heap s.heap [] := va_S.rf
  have hx := C.1.1
  have hb := C.1.2.1
  unfold f_X4_lastWeekOf at h
  refine lv_iconst (pc := 0) (v := 0) hx hb dX4_lastWeekOf_0 (by decide) ?_
  refine lv_istore_n (pc := 1) (lv' := [(2, .int (0 : Int32)), (0, .ref (z + v0)), (1, .int v1)]) hx hb dX4_lastWeekOf_1 rfl hl (by decide) rfl (fun ls hl => ?_)
  refine lv_iconst (pc := 2) (v := 0) hx hb dX4_lastWeekOf_2 (by decide) ?_
  refine lv_istore_n (pc := 3) (lv' := [(3, .int (0 : Int32)), (2, .int (0 : Int32)), (0, .ref (z + v0)), (1, .int v1)]) hx hb dX4_lastWeekOf_3 rfl hl (by decide) rfl (fun ls hl => ?_)
  exact w_X4_lastWeekOf_b4 C hK σ v0 v1 FU (0 : Int32) (0 : Int32) hk0 hW hS (lv_sub hl [2, 3, 1, 0] rfl) h

theorem c_X7_become {K : Nat}  (hK : 0 ≤ K) {σ : Mem} {σf : Mem} {v0 : Nat} {v1 : Nat} (hk0 : kd v0 = 10) (hk1 : kd v1 = 10) (h : f_X7_become σ v0 v1 = σf) : MC l D (Ec ac z) inC z ac (z, aK, aV) (Ac z) yX7_become cX7_become 2 none K [.ref (z + v0), .ref (z + v1)] σ none σf := by
  refine MC.of (fun q hq => by have := hq.1; show z ≤ q; omega) (plainFor_of_name (by decide)) (Nat.le_of_ble_eq_true rfl) ?_
  intro p e s m below meth c args C hW ls hl
  replace hl : lv_has ls 2 [(0, .ref (z + v0)), (1, .ref (z + v1))] := hl
  have hS : va_S (Ac z) s.heap s.heap [] := va_S.rf
  have hx := C.1.1
  have hb := C.1.2.1
  unfold f_X7_become at h
  refine lv_aload_n (pc := 0) hx hb dX7_become_0 rfl (lv_at hl 0 rfl) ?_
  refine lv_aload_n (pc := 1) hx hb dX7_become_1 rfl (lv_at hl 1 rfl) ?_
  refine gf_X7_0 (pc := 2) C hW hk1 fl_X7_15 dX7_become_2 ?_
  refine pf_X7_0 (pc := 5) C hW hS hk0 fl_X7_15 dX7_become_5 (fun H locs hW hS => ?_)
  refine lv_aload_n (pc := 8) hx hb dX7_become_8 rfl (lv_at hl 0 rfl) ?_
  refine lv_aload_n (pc := 9) hx hb dX7_become_9 rfl (lv_at hl 1 rfl) ?_
  refine gf_X7_1 (pc := 10) C hW hk1 fl_X7_18 dX7_become_10 ?_
  refine pf_X7_1 (pc := 13) C hW hS hk0 fl_X7_18 dX7_become_13 (fun H locs hW hS => ?_)
  obtain ⟨σ1, hσ1, h⟩ := o_d h
  replace hW : WC D ac z σ1 H := by rw [← hσ1]; exact hW
  refine lv_aload_n (pc := 16) hx hb dX7_become_16 rfl (lv_at hl 0 rfl) ?_
  refine lv_aload_n (pc := 17) hx hb dX7_become_17 rfl (lv_at hl 1 rfl) ?_
  refine gf_X7_2 (pc := 18) C hW hk1 fl_X7_21 dX7_become_18 ?_
  refine pf_X7_2 (pc := 21) C hW hS hk0 fl_X7_21 dX7_become_21 (fun H locs hW hS => ?_)
  refine lv_aload_n (pc := 24) hx hb dX7_become_24 rfl (lv_at hl 0 rfl) ?_
  refine lv_aload_n (pc := 25) hx hb dX7_become_25 rfl (lv_at hl 1 rfl) ?_
  refine gf_X7_3 (pc := 26) C hW hk1 fl_X7_24 dX7_become_26 ?_
  refine pf_X7_3 (pc := 29) C hW hS hk0 fl_X7_24 dX7_become_29 (fun H locs hW hS => ?_)
  obtain ⟨σ2, hσ2, h⟩ := o_d h
  replace hW : WC D ac z σ2 H := by rw [← hσ2]; exact hW
  refine lv_aload_n (pc := 32) hx hb dX7_become_32 rfl (lv_at hl 0 rfl) ?_
  refine lv_aload_n (pc := 33) hx hb dX7_become_33 rfl (lv_at hl 1 rfl) ?_
  refine gf_X7_4 (pc := 34) C hW hk1 fl_X7_27 dX7_become_34 ?_
  refine pf_X7_4 (pc := 37) C hW hS hk0 fl_X7_27 dX7_become_37 (fun H locs hW hS => ?_)
  refine lv_aload_n (pc := 40) hx hb dX7_become_40 rfl (lv_at hl 0 rfl) ?_
  refine lv_aload_n (pc := 41) hx hb dX7_become_41 rfl (lv_at hl 1 rfl) ?_
  refine gf_X7_5 (pc := 42) C hW hk1 fl_X7_9 dX7_become_42 ?_
  refine pf_X7_5 (pc := 45) C hW hS hk0 fl_X7_9 dX7_become_45 (fun H locs hW hS => ?_)
  obtain ⟨σ3, hσ3, h⟩ := o_d h
  replace hW : WC D ac z σ3 H := by rw [← hσ3]; exact hW
  exact g_vret (pc := 48) C hW hS dX7_become_48 rfl h.symm

theorem c_J6_bitCount_0f7a4 {K : Nat}  (hK : 0 ≤ K) {σ : Mem} {v0 : Int32} {r : Int32} (h : f_J6_bitCount_0f7a4 v0 = r) : MC l D (Ec ac z) inC z ac (z, aK, aV) (Ac z) yJ6_bitCount_0f7a4 cJ6_bitCount_0f7a4 1 (some .int) K [.int v0] σ (some (.int r)) σ := by
  refine MC.of (fun q hq => by have := hq.1; show z ≤ q; omega) (by decide +kernel) (Nat.le_of_ble_eq_true rfl) ?_
  intro p e s m below meth c args C hW ls hl
  replace hl : lv_has ls 1 [(0, .int v0)] := hl
  have hS : va_S (Ac z) s.heap s.heap [] := va_S.rf
  have hx := C.1.1
  have hb := C.1.2.1
  unfold f_J6_bitCount_0f7a4 at h
  refine lv_iload_n (pc := 0) hx hb dJ6_bitCount_0f7a4_0 rfl (lv_at hl 0 rfl) ?_
  refine lv_iload_n (pc := 1) hx hb dJ6_bitCount_0f7a4_1 rfl (lv_at hl 0 rfl) ?_
  refine lv_iconst (pc := 2) (v := 1) hx hb dJ6_bitCount_0f7a4_2 (by decide) ?_
  refine lv_iushr (pc := 3) (v := (iush v0 (1 : Int32))) hx hb dJ6_bitCount_0f7a4_3 rfl ?_
  refine lv_ldcw (pc := 4) hx hb C.1.2.2.2.1 (C.1.2.2.2.2 _ cn_J6_265) dJ6_bitCount_0f7a4_4 ?_
  refine lv_iand (pc := 7) hx hb dJ6_bitCount_0f7a4_7 ?_
  refine lv_isub (pc := 8) hx hb dJ6_bitCount_0f7a4_8 ?_
  obtain ⟨x1, hxx1, h⟩ := o_d h
  refine g_top hxx1 ?_
  refine lv_istore_n (pc := 9) (lv' := [(0, .int x1)]) hx hb dJ6_bitCount_0f7a4_9 rfl hl (by decide) rfl (fun ls hl => ?_)
  refine lv_iload_n (pc := 10) hx hb dJ6_bitCount_0f7a4_10 rfl (lv_at hl 0 rfl) ?_
  refine lv_ldcw (pc := 11) hx hb C.1.2.2.2.1 (C.1.2.2.2.2 _ cn_J6_266) dJ6_bitCount_0f7a4_11 ?_
  refine lv_iand (pc := 14) hx hb dJ6_bitCount_0f7a4_14 ?_
  refine lv_iload_n (pc := 15) hx hb dJ6_bitCount_0f7a4_15 rfl (lv_at hl 0 rfl) ?_
  refine lv_iconst (pc := 16) (v := 2) hx hb dJ6_bitCount_0f7a4_16 (by decide) ?_
  refine lv_iushr (pc := 17) (v := (iush x1 (2 : Int32))) hx hb dJ6_bitCount_0f7a4_17 rfl ?_
  refine lv_ldcw (pc := 18) hx hb C.1.2.2.2.1 (C.1.2.2.2.2 _ cn_J6_266) dJ6_bitCount_0f7a4_18 ?_
  refine lv_iand (pc := 21) hx hb dJ6_bitCount_0f7a4_21 ?_
  refine lv_iadd (pc := 22) hx hb dJ6_bitCount_0f7a4_22 ?_
  obtain ⟨x2, hxx2, h⟩ := o_d h
  refine g_top hxx2 ?_
  refine lv_istore_n (pc := 23) (lv' := [(0, .int x2)]) hx hb dJ6_bitCount_0f7a4_23 rfl hl (by decide) rfl (fun ls hl => ?_)
  refine lv_iload_n (pc := 24) hx hb dJ6_bitCount_0f7a4_24 rfl (lv_at hl 0 rfl) ?_
  refine lv_iload_n (pc := 25) hx hb dJ6_bitCount_0f7a4_25 rfl (lv_at hl 0 rfl) ?_
  refine lv_iconst (pc := 26) (v := 4) hx hb dJ6_bitCount_0f7a4_26 (by decide) ?_
  refine lv_iushr (pc := 27) (v := (iush x2 (4 : Int32))) hx hb dJ6_bitCount_0f7a4_27 rfl ?_
  refine lv_iadd (pc := 28) hx hb dJ6_bitCount_0f7a4_28 ?_
  refine lv_ldcw (pc := 29) hx hb C.1.2.2.2.1 (C.1.2.2.2.2 _ cn_J6_267) dJ6_bitCount_0f7a4_29 ?_
  refine lv_iand (pc := 32) hx hb dJ6_bitCount_0f7a4_32 ?_
  obtain ⟨x3, hxx3, h⟩ := o_d h
  refine g_top hxx3 ?_
  refine lv_istore_n (pc := 33) (lv' := [(0, .int x3)]) hx hb dJ6_bitCount_0f7a4_33 rfl hl (by decide) rfl (fun ls hl => ?_)
  refine lv_iload_n (pc := 34) hx hb dJ6_bitCount_0f7a4_34 rfl (lv_at hl 0 rfl) ?_
  refine lv_iload_n (pc := 35) hx hb dJ6_bitCount_0f7a4_35 rfl (lv_at hl 0 rfl) ?_
  refine lv_bipush (pc := 36) (v := 8) hx hb dJ6_bitCount_0f7a4_36 (by decide) ?_
  refine lv_iushr (pc := 38) (v := (iush x3 (8 : Int32))) hx hb dJ6_bitCount_0f7a4_38 rfl ?_
  refine lv_iadd (pc := 39) hx hb dJ6_bitCount_0f7a4_39 ?_
  refine lv_istore_n (pc := 40) (lv' := [(0, .int (x3 + (iush x3 (8 : Int32))))]) hx hb dJ6_bitCount_0f7a4_40 rfl hl (by decide) rfl (fun ls hl => ?_)
  refine lv_iload_n (pc := 41) hx hb dJ6_bitCount_0f7a4_41 rfl (lv_at hl 0 rfl) ?_
  refine lv_iload_n (pc := 42) hx hb dJ6_bitCount_0f7a4_42 rfl (lv_at hl 0 rfl) ?_
  refine lv_bipush (pc := 43) (v := 16) hx hb dJ6_bitCount_0f7a4_43 (by decide) ?_
  refine lv_iushr (pc := 45) (v := (iush (x3 + (iush x3 (8 : Int32))) (16 : Int32))) hx hb dJ6_bitCount_0f7a4_45 rfl ?_
  refine lv_iadd (pc := 46) hx hb dJ6_bitCount_0f7a4_46 ?_
  obtain ⟨x4, hxx4, h⟩ := o_d h
  refine g_top hxx4 ?_
  refine lv_istore_n (pc := 47) (lv' := [(0, .int x4)]) hx hb dJ6_bitCount_0f7a4_47 rfl hl (by decide) rfl (fun ls hl => ?_)
  refine lv_iload_n (pc := 48) hx hb dJ6_bitCount_0f7a4_48 rfl (lv_at hl 0 rfl) ?_
  refine lv_bipush (pc := 49) (v := 63) hx hb dJ6_bitCount_0f7a4_49 (by decide) ?_
  refine lv_iand (pc := 51) hx hb dJ6_bitCount_0f7a4_51 ?_
  exact g_ret (pc := 52) C hW hS rfl dJ6_bitCount_0f7a4_52 (congrArg (fun q => some (Value.int q)) h.symm) rfl

end
