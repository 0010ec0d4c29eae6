section
variable {p : Program} {l : Launch} {e : Env} {s : State} {m : MethodId} {args : Array Value} {below : List Frame} {meth : Method} {c : Code} {D : va_G} {ac : Nat → ClassId} {z : Nat} {aK aV : Nat → Nat} {K : Nat}

theorem c_X9_ripe {K : Nat}  (hK : 6 ≤ K) {σ : Mem} {σf : Mem} {v1 : Int32} {v2 : Int32} {r : Int32} (h : f_X9_ripe σ v1 v2 = some (r, σf)) : MC l D (Er ac (z + 80)) inR (z + 80) ac (z, aK, aV) (Ar (z + 80)) yX9_ripe cX9_ripe 3 (some .int) K [.ref (z + 80 + 0), .int v1, .int v2] σ (some (.int r)) σf := by
  refine MC.of (fun q hq => by have := hq.1; show z ≤ q; omega) (plainFor_of_name (by decide)) (Nat.le_of_ble_eq_true rfl) ?_
  intro p e s m below meth c args C hW ls hl
  replace hl : lv_has ls 3 [(0, .ref (z + 80 + 0)), (1, .int v1), (2, .int v2)] := hl
  have hS : va_S (Ar (z + 80)) s.heap s.heap [] := va_S.rf
  have hx := C.1.1
  have hb := C.1.2.1
  unfold f_X9_ripe at h
  refine lv_aload_n (pc := 0) hx hb dX9_ripe_0 rfl (lv_at hl 0 rfl) ?_
  refine lv_iload_n (pc := 1) hx hb dX9_ripe_1 rfl (lv_at hl 1 rfl) ?_
  refine g_virt (pc := 2) (st2 := [.int (f_X9_isMan σ v1)]) (rest := []) C hW hS (c_X9_isMan (K := K - 1) (by omega) rfl) mw_X9_176 inR0 Er_0 rfl (hRoom (by omega) (by decide)) rfl rfl rfl (Nat.le_of_ble_eq_true rfl) hl.1 dX9_ripe_2 (fun H locs hW hS => ?_)
  refine lv_if_ne (pc := 5) (tgt := 11) hx hb dX9_ripe_5 (by decide) (fun hc0 => ?_) (fun hc0 => ?_)
  · replace h := o_neg hc0 h
    refine lv_iload_n (pc := 11) hx hb dX9_ripe_11 rfl (lv_at hl 2 rfl) ?_
    refine lv_iconst (pc := 12) (v := 0) hx hb dX9_ripe_12 (by decide) ?_
    refine lv_sipush (pc := 13) (v := 1998) hx hb dX9_ripe_13 (by decide) ?_
    refine g_stat (pc := 16) (st2 := [.int (f_X9_in v2 (0 : Int32) (1998 : Int32))]) (rest := []) C hW hS (c_X9_in (K := K - 1) (by omega) rfl) mw_X9_84 (hRoom (by omega) (by decide)) rfl rfl rfl (Nat.le_of_ble_eq_true rfl) hl.1 dX9_ripe_16 (fun H locs hW hS => ?_)
    refine lv_if_eq (pc := 19) (tgt := 31) hx hb dX9_ripe_19 (by decide) (fun hc1 => ?_) (fun hc1 => ?_)
    · replace h := o_pos hc1 h
      refine lv_bipush (pc := 31) (v := -7) hx hb dX9_ripe_31 (by decide) ?_
      exact g_ret (pc := 33) C hW hS rfl dX9_ripe_33 (congrArg (fun q => some (Value.int q)) (o_r h).1) (o_r h).2
    · replace h := o_neg hc1 h
      refine lv_aload_n (pc := 22) hx hb dX9_ripe_22 rfl (lv_at hl 0 rfl) ?_
      refine lv_iload_n (pc := 23) hx hb dX9_ripe_23 rfl (lv_at hl 1 rfl) ?_
      refine lv_iload_n (pc := 24) hx hb dX9_ripe_24 rfl (lv_at hl 2 rfl) ?_
      obtain ⟨r4, σ5, hc2, h⟩ := o_b2 h
      refine g_virt (pc := 25) (st2 := [.int r4]) (rest := []) C hW hS (c_X9_ripeOf (K := K - 1) (by omega) hc2) mw_X9_240 inR0 Er_0 rfl (hRoom (by omega) (by decide)) rfl rfl rfl (Nat.le_of_ble_eq_true rfl) hl.1 dX9_ripe_25 (fun H locs hW hS => ?_)
      refine lv_goto (pc := 28) (tgt := 33) hx hb dX9_ripe_28 (by decide) ?_
      exact g_ret (pc := 33) C hW hS rfl dX9_ripe_33 (congrArg (fun q => some (Value.int q)) (o_r h).1) (o_r h).2
  · replace h := o_pos hc0 h
    refine lv_bipush (pc := 8) (v := -5) hx hb dX9_ripe_8 (by decide) ?_
    exact g_ret (pc := 10) C hW hS rfl dX9_ripe_10 (congrArg (fun q => some (Value.int q)) (o_r h).1) (o_r h).2

theorem c_X9_soonest {K : Nat}  (hK : 6 ≤ K) {σ : Mem} {σf : Mem} {v1 : Int32} {v2 : Int32} {r : Int32} (h : f_X9_soonest σ v1 v2 = some (r, σf)) : MC l D (Er ac (z + 80)) inR (z + 80) ac (z, aK, aV) (Ar (z + 80)) yX9_soonest cX9_soonest 3 (some .int) K [.ref (z + 80 + 0), .int v1, .int v2] σ (some (.int r)) σf := by
  refine MC.of (fun q hq => by have := hq.1; show z ≤ q; omega) (plainFor_of_name (by decide)) (Nat.le_of_ble_eq_true rfl) ?_
  intro p e s m below meth c args C hW ls hl
  replace hl : lv_has ls 3 [(0, .ref (z + 80 + 0)), (1, .int v1), (2, .int v2)] := hl
  have hS : va_S (Ar (z + 80)) s.heap s.heap [] := va_S.rf
  have hx := C.1.1
  have hb := C.1.2.1
  unfold f_X9_soonest at h
  refine lv_aload_n (pc := 0) hx hb dX9_soonest_0 rfl (lv_at hl 0 rfl) ?_
  refine lv_iload_n (pc := 1) hx hb dX9_soonest_1 rfl (lv_at hl 1 rfl) ?_
  refine g_virt (pc := 2) (st2 := [.int (f_X9_isMan σ v1)]) (rest := []) C hW hS (c_X9_isMan (K := K - 1) (by omega) rfl) mw_X9_176 inR0 Er_0 rfl (hRoom (by omega) (by decide)) rfl rfl rfl (Nat.le_of_ble_eq_true rfl) hl.1 dX9_soonest_2 (fun H locs hW hS => ?_)
  refine lv_if_ne (pc := 5) (tgt := 11) hx hb dX9_soonest_5 (by decide) (fun hc0 => ?_) (fun hc0 => ?_)
  · replace h := o_neg hc0 h
    refine lv_iload_n (pc := 11) hx hb dX9_soonest_11 rfl (lv_at hl 2 rfl) ?_
    refine lv_iconst (pc := 12) (v := 1) hx hb dX9_soonest_12 (by decide) ?_
    refine lv_sipush (pc := 13) (v := 200) hx hb dX9_soonest_13 (by decide) ?_
    refine g_stat (pc := 16) (st2 := [.int (f_X9_in v2 (1 : Int32) (200 : Int32))]) (rest := []) C hW hS (c_X9_in (K := K - 1) (by omega) rfl) mw_X9_84 (hRoom (by omega) (by decide)) rfl rfl rfl (Nat.le_of_ble_eq_true rfl) hl.1 dX9_soonest_16 (fun H locs hW hS => ?_)
    refine lv_if_ne (pc := 19) (tgt := 25) hx hb dX9_soonest_19 (by decide) (fun hc1 => ?_) (fun hc1 => ?_)
    · replace h := o_neg hc1 h
      refine lv_aload_n (pc := 25) hx hb dX9_soonest_25 rfl (lv_at hl 0 rfl) ?_
      refine gf_X9_3 (pc := 26) C hW fl_X9_16 dX9_soonest_26 ?_
      refine lv_iconst (pc := 29) (v := 4) hx hb dX9_soonest_29 (by decide) ?_
      refine lv_iload_n (pc := 30) hx hb dX9_soonest_30 rfl (lv_at hl 1 rfl) ?_
      refine lv_imul (pc := 31) hx hb dX9_soonest_31 ?_
      refine lv_iconst (pc := 32) (v := 3) hx hb dX9_soonest_32 (by decide) ?_
      refine lv_iadd (pc := 33) hx hb dX9_soonest_33 ?_
      obtain ⟨hc2, h⟩ := o_chk h
      refine ir_ld (pc := 34) (k := 3) C hW (by decide) (by decide) rfl rfl (inb_in hc2) dX9_soonest_34 ?_
      refine lv_iconst (pc := 35) (v := 1) hx hb dX9_soonest_35 (by decide) ?_
      refine lv_icmp_ne (pc := 36) (tgt := 43) hx hb dX9_soonest_36 (by decide) (fun hc3 => ?_) (fun hc3 => ?_)
      · replace h := o_neg hc3 h
        refine lv_aload_n (pc := 43) hx hb dX9_soonest_43 rfl (lv_at hl 0 rfl) ?_
        refine lv_iload_n (pc := 44) hx hb dX9_soonest_44 rfl (lv_at hl 1 rfl) ?_
        refine lv_iload_n (pc := 45) hx hb dX9_soonest_45 rfl (lv_at hl 2 rfl) ?_
        obtain ⟨r6, σ7, hc4, h⟩ := o_b2 h
        refine g_virt (pc := 46) (st2 := [.int r6]) (rest := []) C hW hS (c_X9_ripeOf (K := K - 1) (by omega) hc4) mw_X9_240 inR0 Er_0 rfl (hRoom (by omega) (by decide)) rfl rfl rfl (Nat.le_of_ble_eq_true rfl) hl.1 dX9_soonest_46 (fun H locs hW hS => ?_)
        exact g_ret (pc := 49) C hW hS rfl dX9_soonest_49 (congrArg (fun q => some (Value.int q)) (o_r h).1) (o_r h).2
      · replace h := o_pos hc3 h
        refine lv_iconst (pc := 39) (v := -1) hx hb dX9_soonest_39 (by decide) ?_
        refine lv_goto (pc := 40) (tgt := 49) hx hb dX9_soonest_40 (by decide) ?_
        exact g_ret (pc := 49) C hW hS rfl dX9_soonest_49 (congrArg (fun q => some (Value.int q)) (o_r h).1) (o_r h).2
    · replace h := o_pos hc1 h
      refine lv_bipush (pc := 22) (v := -7) hx hb dX9_soonest_22 (by decide) ?_
      exact g_ret (pc := 24) C hW hS rfl dX9_soonest_24 (congrArg (fun q => some (Value.int q)) (o_r h).1) (o_r h).2
  · replace h := o_pos hc0 h
    refine lv_bipush (pc := 8) (v := -5) hx hb dX9_soonest_8 (by decide) ?_
    exact g_ret (pc := 10) C hW hS rfl dX9_soonest_10 (congrArg (fun q => some (Value.int q)) (o_r h).1) (o_r h).2

theorem w_X9_offersWrong_b96 (C : CX cX9_offersWrong 4 RX9 (some .int) D ac p m c s args meth (z, aK, aV) (Ar (z + 80))) (hK : 1 ≤ K) {r : Int32}   (σ : Mem) (v1 : Int32) (v3 : Int32) (k0 : Int32) (k1 : Int32) (k2 : Int32) (k3 : Int32) (s55 : Int32 → Int32 → Option Int32) (hs55 : ∀ (v2 : Int32) (v3 : Int32) {H : Heap} {locs : List Loc} {ls : Array Slot} (_ : WR D ac (z + 80) σ H) (_ : va_S (Ar (z + 80)) s.heap H locs) (_ : lv_has ls 4 [(0, .ref (z + 80 + 0)), (1, .int v1), (2, .int v2), (3, .int v3)]) (_ : s55 v2 v3 = some r), W p l e (rma K 0 0) s m args below meth c H locs 0 0 (MQ below (QV D (Er ac (z + 80)) inR (z + 80) (some (.int r)) σ (Ar (z + 80))) args s 0 0 (Ar (z + 80))) (F0 m 55 ls [])) {H : Heap} {locs : List Loc} {ls : Array Slot} (hW : WR D ac (z + 80) σ H) (hS : va_S (Ar (z + 80)) s.heap H locs) (hl : lv_has ls 4 [(0, .ref (z + 80 + 0)), (1, .int v1), (3, .int v3)]) (h : f_X9_offersWrong_b96 s55 σ v1 v3 k0 k1 k2 k3 = some r) : W p l e (rma K 0 0) s m args below meth c H locs 0 0 (MQ below (QV D (Er ac (z + 80)) inR (z + 80) (some (.int r)) σ (Ar (z + 80))) args s 0 0 (Ar (z + 80))) (F0 m 96 ls [.int k3, .int k2, .int k1, .int k0]) := by
  have hx := C.1.1
  have hb := C.1.2.1
  unfold f_X9_offersWrong_b96 at h
  refine g_stat (pc := 96) (st2 := [.int (f_X9_in k1 k2 k3), .int k0]) (rest := [.int k0]) C hW hS (c_X9_in (K := K - 1) (by omega) rfl) mw_X9_84 (hRoom (by omega) (by decide)) rfl rfl rfl (Nat.le_of_ble_eq_true rfl) hl.1 dX9_offersWrong_96 (fun H locs hW hS => ?_)
  refine lv_iand (pc := 99) hx hb dX9_offersWrong_99 ?_
  refine lv_istore_n (pc := 100) (lv' := [(2, .int (k0 &&& (f_X9_in k1 k2 k3))), (0, .ref (z + 80 + 0)), (1, .int v1), (3, .int v3)]) hx hb dX9_offersWrong_100 rfl hl (by decide) rfl (fun ls hl => ?_)
  refine lv_iinc (pc := 101) (v := (v3 + 1)) (lv' := [(3, .int (v3 + 1)), (2, .int (k0 &&& (f_X9_in k1 k2 k3))), (0, .ref (z + 80 + 0)), (1, .int v1)]) hx hb dX9_offersWrong_101 hl (k := 3) rfl rfl (by decide) rfl (fun ls hl => ?_)
  refine lv_goto (pc := 104) (tgt := 55) hx hb dX9_offersWrong_104 (by decide) ?_
  exact hs55 (k0 &&& (f_X9_in k1 k2 k3)) (v3 + 1) hW hS (lv_sub hl [2, 3, 1, 0] rfl) h

theorem w_X9_offersWrong_b55 (C : CX cX9_offersWrong 4 RX9 (some .int) D ac p m c s args meth (z, aK, aV) (Ar (z + 80))) (hK : 1 ≤ K) {r : Int32}   (σ : Mem) (v1 : Int32)  : ∀ (n : Nat) (v2 : Int32) (v3 : Int32) {H : Heap} {locs : List Loc} {ls : Array Slot} (hW : WR D ac (z + 80) σ H) (hS : va_S (Ar (z + 80)) s.heap H locs) (hl : lv_has ls 4 [(0, .ref (z + 80 + 0)), (1, .int v1), (2, .int v2), (3, .int v3)]) (h : f_X9_offersWrong_b55 σ v1 n v2 v3 = some r), W p l e (rma K 0 0) s m args below meth c H locs 0 0 (MQ below (QV D (Er ac (z + 80)) inR (z + 80) (some (.int r)) σ (Ar (z + 80))) args s 0 0 (Ar (z + 80))) (F0 m 55 ls []) := by
  have hx := C.1.1
  have hb := C.1.2.1
  intro n
  induction n with
  | zero =>
    intro v2 v3 H locs ls  hW hS hl h
    cases h
  | succ n ih =>
    intro v2 v3 H locs ls  hW hS hl h
    rw [f_X9_offersWrong_b55.eq_2] at h
    refine lv_iload_n (pc := 55) hx hb dX9_offersWrong_55 rfl (lv_at hl 3 rfl) ?_
    refine lv_aload_n (pc := 56) hx hb dX9_offersWrong_56 rfl (lv_at hl 0 rfl) ?_
    refine gf_X9_20 (pc := 57) C hW fl_X9_37 dX9_offersWrong_57 ?_
    refine lv_iload_n (pc := 60) hx hb dX9_offersWrong_60 rfl (lv_at hl 1 rfl) ?_
    obtain ⟨hc7, h⟩ := o_chk h
    refine ir_ld (pc := 61) (k := 10) C hW (by decide) (by decide) rfl rfl (inb_in hc7) dX9_offersWrong_61 ?_
    refine lv_icmp_ge (pc := 62) (tgt := 107) hx hb dX9_offersWrong_62 (by decide) (fun hc8 => ?_) (fun hc8 => ?_)
    · replace h := o_pos hc8 h
      refine lv_iload_n (pc := 107) hx hb dX9_offersWrong_107 rfl (lv_at hl 2 rfl) ?_
      refine lv_if_eq (pc := 108) (tgt := 115) hx hb dX9_offersWrong_108 (by decide) (fun hc9 => ?_) (fun hc9 => ?_)
      · replace h := o_pos hc9 h
        refine lv_bipush (pc := 115) (v := -2) hx hb dX9_offersWrong_115 (by decide) ?_
        exact g_ret (pc := 117) C hW hS rfl dX9_offersWrong_117 (congrArg (fun q => some (Value.int q)) (Option.some.inj h).symm) rfl
      · replace h := o_neg hc9 h
        refine lv_iconst (pc := 111) (v := 0) hx hb dX9_offersWrong_111 (by decide) ?_
        refine lv_goto (pc := 112) (tgt := 117) hx hb dX9_offersWrong_112 (by decide) ?_
        exact g_ret (pc := 117) C hW hS rfl dX9_offersWrong_117 (congrArg (fun q => some (Value.int q)) (Option.some.inj h).symm) rfl
    · replace h := o_neg hc8 h
      refine lv_iload_n (pc := 65) hx hb dX9_offersWrong_65 rfl (lv_at hl 2 rfl) ?_
      refine lv_aload_n (pc := 66) hx hb dX9_offersWrong_66 rfl (lv_at hl 0 rfl) ?_
      refine gf_X9_21 (pc := 67) C hW fl_X9_40 dX9_offersWrong_67 ?_
      refine lv_bipush (pc := 70) (v := 40) hx hb dX9_offersWrong_70 (by decide) ?_
      refine lv_iload_n (pc := 72) hx hb dX9_offersWrong_72 rfl (lv_at hl 1 rfl) ?_
      refine lv_imul (pc := 73) hx hb dX9_offersWrong_73 ?_
      refine lv_iload_n (pc := 74) hx hb dX9_offersWrong_74 rfl (lv_at hl 3 rfl) ?_
      refine lv_iadd (pc := 75) hx hb dX9_offersWrong_75 ?_
      obtain ⟨hc10, h⟩ := o_chk h
      refine ir_ld (pc := 76) (k := 11) C hW (by decide) (by decide) rfl rfl (inb_in hc10) dX9_offersWrong_76 ?_
      refine lv_iconst (pc := 77) (v := 1) hx hb dX9_offersWrong_77 (by decide) ?_
      refine lv_iload_n (pc := 78) hx hb dX9_offersWrong_78 rfl (lv_at hl 3 rfl) ?_
      refine lv_iconst (pc := 79) (v := 2) hx hb dX9_offersWrong_79 (by decide) ?_
      refine lv_irem (pc := 80) hx hb dX9_offersWrong_80 (by decide) ?_
      refine lv_isub (pc := 81) hx hb dX9_offersWrong_81 ?_
      refine lv_iload_n (pc := 82) hx hb dX9_offersWrong_82 rfl (lv_at hl 3 rfl) ?_
      refine lv_iconst (pc := 83) (v := 2) hx hb dX9_offersWrong_83 (by decide) ?_
      refine lv_irem (pc := 84) hx hb dX9_offersWrong_84 (by decide) ?_
      refine lv_if_ne (pc := 85) (tgt := 94) hx hb dX9_offersWrong_85 (by decide) (fun hc11 => ?_) (fun hc11 => ?_)
      · replace h := o_neg hc11 h
        refine lv_bipush (pc := 94) (v := 59) hx hb dX9_offersWrong_94 (by decide) ?_
        exact w_X9_offersWrong_b96 C hK σ v1 v3 v2 (σ 11 ((((40 : Int32) * v1) + v3).toNatClampNeg)) ((1 : Int32) - (irm v3 (2 : Int32))) (59 : Int32) (f_X9_offersWrong_b55 σ v1 n) (fun v2 v3 {H : Heap} {locs : List Loc} {ls : Array Slot}  hW hS hl h => ih v2 v3 hW hS hl h) hW hS (lv_sub hl [0, 1, 3] rfl) h
      · replace h := o_pos hc11 h
        refine lv_sipush (pc := 88) (v := 200) hx hb dX9_offersWrong_88 (by decide) ?_
        refine lv_goto (pc := 91) (tgt := 96) hx hb dX9_offersWrong_91 (by decide) ?_
        exact w_X9_offersWrong_b96 C hK σ v1 v3 v2 (σ 11 ((((40 : Int32) * v1) + v3).toNatClampNeg)) ((1 : Int32) - (irm v3 (2 : Int32))) (200 : Int32) (f_X9_offersWrong_b55 σ v1 n) (fun v2 v3 {H : Heap} {locs : List Loc} {ls : Array Slot}  hW hS hl h => ih v2 v3 hW hS hl h) hW hS (lv_sub hl [0, 1, 3] rfl) h

theorem w_X9_offersWrong_b52 (C : CX cX9_offersWrong 4 RX9 (some .int) D ac p m c s args meth (z, aK, aV) (Ar (z + 80))) (hK : 1 ≤ K) {r : Int32}   (σ : Mem) (v1 : Int32) (k0 : Int32)  {H : Heap} {locs : List Loc} {ls : Array Slot} (hW : WR D ac (z + 80) σ H) (hS : va_S (Ar (z + 80)) s.heap H locs) (hl : lv_has ls 4 [(0, .ref (z + 80 + 0)), (1, .int v1)]) (h : f_X9_offersWrong_b52 σ v1 k0 = some r) : W p l e (rma K 0 0) s m args below meth c H locs 0 0 (MQ below (QV D (Er ac (z + 80)) inR (z + 80) (some (.int r)) σ (Ar (z + 80))) args s 0 0 (Ar (z + 80))) (F0 m 52 ls [.int k0]) := by
  have hx := C.1.1
  have hb := C.1.2.1
  unfold f_X9_offersWrong_b52 at h
  refine lv_istore_n (pc := 52) (lv' := [(2, .int k0), (0, .ref (z + 80 + 0)), (1, .int v1)]) hx hb dX9_offersWrong_52 rfl hl (by decide) rfl (fun ls hl => ?_)
  refine lv_iconst (pc := 53) (v := 0) hx hb dX9_offersWrong_53 (by decide) ?_
  refine lv_istore_n (pc := 54) (lv' := [(3, .int (0 : Int32)), (2, .int k0), (0, .ref (z + 80 + 0)), (1, .int v1)]) hx hb dX9_offersWrong_54 rfl hl (by decide) rfl (fun ls hl => ?_)
  exact w_X9_offersWrong_b55 C hK σ v1 FU k0 (0 : Int32) hW hS (lv_sub hl [2, 3, 1, 0] rfl) h

theorem w_X9_offersWrong_b51 (C : CX cX9_offersWrong 4 RX9 (some .int) D ac p m c s args meth (z, aK, aV) (Ar (z + 80))) (hK : 1 ≤ K) {r : Int32}   (σ : Mem) (v1 : Int32)  {H : Heap} {locs : List Loc} {ls : Array Slot} (hW : WR D ac (z + 80) σ H) (hS : va_S (Ar (z + 80)) s.heap H locs) (hl : lv_has ls 4 [(0, .ref (z + 80 + 0)), (1, .int v1)]) (h : f_X9_offersWrong_b51 σ v1 = some r) : W p l e (rma K 0 0) s m args below meth c H locs 0 0 (MQ below (QV D (Er ac (z + 80)) inR (z + 80) (some (.int r)) σ (Ar (z + 80))) args s 0 0 (Ar (z + 80))) (F0 m 51 ls []) := by
  have hx := C.1.1
  have hb := C.1.2.1
  unfold f_X9_offersWrong_b51 at h
  refine lv_iconst (pc := 51) (v := 0) hx hb dX9_offersWrong_51 (by decide) ?_
  exact w_X9_offersWrong_b52 C hK σ v1 (0 : Int32) hW hS (lv_sub hl [0, 1] rfl) h

theorem c_X9_offersWrong {K : Nat}  (hK : 1 ≤ K) {σ : Mem} {v1 : Int32} {r : Int32} (h : f_X9_offersWrong σ v1 = some r) : MC l D (Er ac (z + 80)) inR (z + 80) ac (z, aK, aV) (Ar (z + 80)) yX9_offersWrong cX9_offersWrong 4 (some .int) K [.ref (z + 80 + 0), .int v1] σ (some (.int r)) σ := by
  refine MC.of (fun q hq => by have := hq.1; show z ≤ q; omega) (plainFor_of_name (by decide)) (Nat.le_of_ble_eq_true rfl) ?_
  intro p e s m below meth c args C hW ls hl
  replace hl : lv_has ls 4 [(0, .ref (z + 80 + 0)), (1, .int v1)] := hl
  have hS : va_S (Ar (z + 80)) s.heap s.heap [] := va_S.rf
  have hx := C.1.1
  have hb := C.1.2.1
  unfold f_X9_offersWrong at h
  refine lv_iload_n (pc := 0) hx hb dX9_offersWrong_0 rfl (lv_at hl 1 rfl) ?_
  refine lv_iconst (pc := 1) (v := 0) hx hb dX9_offersWrong_1 (by decide) ?_
  refine lv_iconst (pc := 2) (v := 3) hx hb dX9_offersWrong_2 (by decide) ?_
  refine g_stat (pc := 3) (st2 := [.int (f_X9_in v1 (0 : Int32) (3 : Int32))]) (rest := []) C hW hS (c_X9_in (K := K - 1) (by omega) rfl) mw_X9_84 (hRoom (by omega) (by decide)) rfl rfl rfl (Nat.le_of_ble_eq_true rfl) hl.1 dX9_offersWrong_3 (fun H locs hW hS => ?_)
  refine lv_if_ne (pc := 6) (tgt := 12) hx hb dX9_offersWrong_6 (by decide) (fun hc0 => ?_) (fun hc0 => ?_)
  · replace h := o_neg hc0 h
    refine lv_aload_n (pc := 12) hx hb dX9_offersWrong_12 rfl (lv_at hl 0 rfl) ?_
    refine gf_X9_19 (pc := 13) C hW fl_X9_34 dX9_offersWrong_13 ?_
    refine lv_iload_n (pc := 16) hx hb dX9_offersWrong_16 rfl (lv_at hl 1 rfl) ?_
    obtain ⟨hc1, h⟩ := o_chk h
    refine ir_ld (pc := 17) (k := 9) C hW (by decide) (by decide) rfl rfl (inb_in hc1) dX9_offersWrong_17 ?_
    refine lv_iconst (pc := 18) (v := -1) hx hb dX9_offersWrong_18 (by decide) ?_
    refine lv_icmp_ne (pc := 19) (tgt := 25) hx hb dX9_offersWrong_19 (by decide) (fun hc2 => ?_) (fun hc2 => ?_)
    · replace h := o_neg hc2 h
      refine lv_aload_n (pc := 25) hx hb dX9_offersWrong_25 rfl (lv_at hl 0 rfl) ?_
      refine gf_X9_20 (pc := 26) C hW fl_X9_37 dX9_offersWrong_26 ?_
      refine lv_iload_n (pc := 29) hx hb dX9_offersWrong_29 rfl (lv_at hl 1 rfl) ?_
      obtain ⟨hc3, h⟩ := o_chk h
      refine ir_ld (pc := 30) (k := 10) C hW (by decide) (by decide) rfl rfl (inb_in hc3) dX9_offersWrong_30 ?_
      refine lv_bipush (pc := 31) (v := 12) hx hb dX9_offersWrong_31 (by decide) ?_
      refine lv_icmp_gt (pc := 33) (tgt := 51) hx hb dX9_offersWrong_33 (by decide) (fun hc4 => ?_) (fun hc4 => ?_)
      · replace h := o_pos hc4 h
        exact w_X9_offersWrong_b51 C hK σ v1 hW hS (lv_sub hl [0, 1] rfl) h
      · replace h := o_neg hc4 h
        refine lv_aload_n (pc := 36) hx hb dX9_offersWrong_36 rfl (lv_at hl 0 rfl) ?_
        refine gf_X9_20 (pc := 37) C hW fl_X9_37 dX9_offersWrong_37 ?_
        refine lv_iload_n (pc := 40) hx hb dX9_offersWrong_40 rfl (lv_at hl 1 rfl) ?_
        obtain ⟨hc5, h⟩ := o_chk h
        refine ir_ld (pc := 41) (k := 10) C hW (by decide) (by decide) rfl rfl (inb_in hc5) dX9_offersWrong_41 ?_
        refine lv_iconst (pc := 42) (v := 2) hx hb dX9_offersWrong_42 (by decide) ?_
        refine lv_irem (pc := 43) hx hb dX9_offersWrong_43 (by decide) ?_
        refine lv_if_ne (pc := 44) (tgt := 51) hx hb dX9_offersWrong_44 (by decide) (fun hc6 => ?_) (fun hc6 => ?_)
        · replace h := o_neg hc6 h
          exact w_X9_offersWrong_b51 C hK σ v1 hW hS (lv_sub hl [0, 1] rfl) h
        · replace h := o_pos hc6 h
          refine lv_iconst (pc := 47) (v := 1) hx hb dX9_offersWrong_47 (by decide) ?_
          refine lv_goto (pc := 48) (tgt := 52) hx hb dX9_offersWrong_48 (by decide) ?_
          exact w_X9_offersWrong_b52 C hK σ v1 (1 : Int32) hW hS (lv_sub hl [0, 1] rfl) h
    · replace h := o_pos hc2 h
      refine lv_bipush (pc := 22) (v := -11) hx hb dX9_offersWrong_22 (by decide) ?_
      exact g_ret (pc := 24) C hW hS rfl dX9_offersWrong_24 (congrArg (fun q => some (Value.int q)) (Option.some.inj h).symm) rfl
  · replace h := o_pos hc0 h
    refine lv_bipush (pc := 9) (v := -2) hx hb dX9_offersWrong_9 (by decide) ?_
    exact g_ret (pc := 11) C hW hS rfl dX9_offersWrong_11 (congrArg (fun q => some (Value.int q)) (Option.some.inj h).symm) rfl

theorem w_X9_canTake_b154 (C : CX cX9_canTake 9 RX9 (some .boolean) D ac p m c s args meth (z, aK, aV) (Ar (z + 80))) (hK : 5 ≤ K) {r : Int32} {σf : Mem}   (σ : Mem) (v1 : Int32) (v2 : Int32) (v3 : Int32) (v4 : Int32) (v5 : Int32) (v6 : Int32) (s10 : Mem → Int32 → Int32 → Option (Int32 × Mem)) (hs10 : ∀ (σ : Mem) (v4 : Int32) (v5 : Int32) {H : Heap} {locs : List Loc} {ls : Array Slot} (_ : WR D ac (z + 80) σ H) (_ : va_S (Ar (z + 80)) s.heap H locs) (_ : lv_has ls 9 [(0, .ref (z + 80 + 0)), (1, .int v1), (2, .int v2), (3, .int v3), (4, .int v4), (5, .int v5)]) (_ : s10 σ v4 v5 = some (r, σf)), W p l e (rma K 0 0) s m args below meth c H locs 0 0 (MQ below (QV D (Er ac (z + 80)) inR (z + 80) (some (.int r)) σf (Ar (z + 80))) args s 0 0 (Ar (z + 80))) (F0 m 10 ls [])) (s25 : Mem → Int32 → Int32 → Option (Int32 × Mem)) (hs25 : ∀ (σ : Mem) (v4 : Int32) (v6 : Int32) {H : Heap} {locs : List Loc} {ls : Array Slot} (_ : WR D ac (z + 80) σ H) (_ : va_S (Ar (z + 80)) s.heap H locs) (_ : lv_has ls 9 [(0, .ref (z + 80 + 0)), (1, .int v1), (2, .int v2), (3, .int v3), (4, .int v4), (5, .int v5), (6, .int v6)]) (_ : s25 σ v4 v6 = some (r, σf)), W p l e (rma K 0 0) s m args below meth c H locs 0 0 (MQ below (QV D (Er ac (z + 80)) inR (z + 80) (some (.int r)) σf (Ar (z + 80))) args s 0 0 (Ar (z + 80))) (F0 m 25 ls [])) {H : Heap} {locs : List Loc} {ls : Array Slot} (hW : WR D ac (z + 80) σ H) (hS : va_S (Ar (z + 80)) s.heap H locs) (hl : lv_has ls 9 [(0, .ref (z + 80 + 0)), (1, .int v1), (2, .int v2), (3, .int v3), (4, .int v4), (5, .int v5), (6, .int v6)]) (h : f_X9_canTake_b154 s10 s25 σ v1 v2 v3 v4 v5 v6 = some (r, σf)) : W p l e (rma K 0 0) s m args below meth c H locs 0 0 (MQ below (QV D (Er ac (z + 80)) inR (z + 80) (some (.int r)) σf (Ar (z + 80))) args s 0 0 (Ar (z + 80))) (F0 m 154 ls []) := by
  have hx := C.1.1
  have hb := C.1.2.1
  unfold f_X9_canTake_b154 at h
  refine lv_iinc (pc := 154) (v := (v6 + 1)) (lv' := [(6, .int (v6 + 1)), (0, .ref (z + 80 + 0)), (1, .int v1), (2, .int v2), (3, .int v3), (4, .int v4), (5, .int v5)]) hx hb dX9_canTake_154 hl (k := 6) rfl rfl (by decide) rfl (fun ls hl => ?_)
  refine lv_goto (pc := 157) (tgt := 25) hx hb dX9_canTake_157 (by decide) ?_
  exact hs25 σ v4 (v6 + 1) hW hS (lv_sub hl [1, 2, 3, 4, 5, 6, 0] rfl) h

theorem w_X9_canTake_b153 (C : CX cX9_canTake 9 RX9 (some .boolean) D ac p m c s args meth (z, aK, aV) (Ar (z + 80))) (hK : 5 ≤ K) {r : Int32} {σf : Mem}   (σ : Mem) (v1 : Int32) (v2 : Int32) (v3 : Int32) (v4 : Int32) (v5 : Int32) (v6 : Int32) (k1 : Int32) (k2 : Int32) (s10 : Mem → Int32 → Int32 → Option (Int32 × Mem)) (hs10 : ∀ (σ : Mem) (v4 : Int32) (v5 : Int32) {H : Heap} {locs : List Loc} {ls : Array Slot} (_ : WR D ac (z + 80) σ H) (_ : va_S (Ar (z + 80)) s.heap H locs) (_ : lv_has ls 9 [(0, .ref (z + 80 + 0)), (1, .int v1), (2, .int v2), (3, .int v3), (4, .int v4), (5, .int v5)]) (_ : s10 σ v4 v5 = some (r, σf)), W p l e (rma K 0 0) s m args below meth c H locs 0 0 (MQ below (QV D (Er ac (z + 80)) inR (z + 80) (some (.int r)) σf (Ar (z + 80))) args s 0 0 (Ar (z + 80))) (F0 m 10 ls [])) (s25 : Mem → Int32 → Int32 → Option (Int32 × Mem)) (hs25 : ∀ (σ : Mem) (v4 : Int32) (v6 : Int32) {H : Heap} {locs : List Loc} {ls : Array Slot} (_ : WR D ac (z + 80) σ H) (_ : va_S (Ar (z + 80)) s.heap H locs) (_ : lv_has ls 9 [(0, .ref (z + 80 + 0)), (1, .int v1), (2, .int v2), (3, .int v3), (4, .int v4), (5, .int v5), (6, .int v6)]) (_ : s25 σ v4 v6 = some (r, σf)), W p l e (rma K 0 0) s m args below meth c H locs 0 0 (MQ below (QV D (Er ac (z + 80)) inR (z + 80) (some (.int r)) σf (Ar (z + 80))) args s 0 0 (Ar (z + 80))) (F0 m 25 ls [])) {H : Heap} {locs : List Loc} {ls : Array Slot} (hW : WR D ac (z + 80) σ H) (hS : va_S (Ar (z + 80)) s.heap H locs) (hl : lv_has ls 9 [(0, .ref (z + 80 + 0)), (1, .int v1), (2, .int v2), (3, .int v3), (4, .int v4), (5, .int v5), (6, .int v6)]) (h : f_X9_canTake_b153 s10 s25 σ v1 v2 v3 v4 v5 v6 k1 k2 = some (r, σf)) : W p l e (rma K 0 0) s m args below meth c H locs 0 0 (MQ below (QV D (Er ac (z + 80)) inR (z + 80) (some (.int r)) σf (Ar (z + 80))) args s 0 0 (Ar (z + 80))) (F0 m 153 ls [.int k2, .int k1, .ref (z + 80 + 3)]) := by
  have hx := C.1.1
  have hb := C.1.2.1
  unfold f_X9_canTake_b153 at h
  obtain ⟨hc25, h⟩ := o_chk h
  refine ir_st (pc := 153) (k := 3) C hW hS (by decide) (by decide) rfl rfl (inb_in hc25) dX9_canTake_153 (fun H locs hW hS => ?_)
  exact w_X9_canTake_b154 C hK (ms σ 3 (k1.toNatClampNeg) k2) v1 v2 v3 v4 v5 v6 s10 hs10 s25 hs25 hW hS (lv_sub hl [0, 1, 2, 3, 4, 5, 6] rfl) h

theorem w_X9_canTake_b103 (C : CX cX9_canTake 9 RX9 (some .boolean) D ac p m c s args meth (z, aK, aV) (Ar (z + 80))) (hK : 5 ≤ K) {r : Int32} {σf : Mem}   (σ : Mem) (v1 : Int32) (v2 : Int32) (v3 : Int32) (v5 : Int32) (v6 : Int32) (v7 : Int32) (k0 : Int32) (k1 : Int32) (s10 : Mem → Int32 → Int32 → Option (Int32 × Mem)) (hs10 : ∀ (σ : Mem) (v4 : Int32) (v5 : Int32) {H : Heap} {locs : List Loc} {ls : Array Slot} (_ : WR D ac (z + 80) σ H) (_ : va_S (Ar (z + 80)) s.heap H locs) (_ : lv_has ls 9 [(0, .ref (z + 80 + 0)), (1, .int v1), (2, .int v2), (3, .int v3), (4, .int v4), (5, .int v5)]) (_ : s10 σ v4 v5 = some (r, σf)), W p l e (rma K 0 0) s m args below meth c H locs 0 0 (MQ below (QV D (Er ac (z + 80)) inR (z + 80) (some (.int r)) σf (Ar (z + 80))) args s 0 0 (Ar (z + 80))) (F0 m 10 ls [])) (s25 : Mem → Int32 → Int32 → Option (Int32 × Mem)) (hs25 : ∀ (σ : Mem) (v4 : Int32) (v6 : Int32) {H : Heap} {locs : List Loc} {ls : Array Slot} (_ : WR D ac (z + 80) σ H) (_ : va_S (Ar (z + 80)) s.heap H locs) (_ : lv_has ls 9 [(0, .ref (z + 80 + 0)), (1, .int v1), (2, .int v2), (3, .int v3), (4, .int v4), (5, .int v5), (6, .int v6)]) (_ : s25 σ v4 v6 = some (r, σf)), W p l e (rma K 0 0) s m args below meth c H locs 0 0 (MQ below (QV D (Er ac (z + 80)) inR (z + 80) (some (.int r)) σf (Ar (z + 80))) args s 0 0 (Ar (z + 80))) (F0 m 25 ls [])) {H : Heap} {locs : List Loc} {ls : Array Slot} (hW : WR D ac (z + 80) σ H) (hS : va_S (Ar (z + 80)) s.heap H locs) (hl : lv_has ls 9 [(0, .ref (z + 80 + 0)), (1, .int v1), (2, .int v2), (3, .int v3), (5, .int v5), (6, .int v6), (7, .int v7)]) (h : f_X9_canTake_b103 s10 s25 σ v1 v2 v3 v5 v6 v7 k0 k1 = some (r, σf)) : W p l e (rma K 0 0) s m args below meth c H locs 0 0 (MQ below (QV D (Er ac (z + 80)) inR (z + 80) (some (.int r)) σf (Ar (z + 80))) args s 0 0 (Ar (z + 80))) (F0 m 103 ls [.int k1, .int k0]) := by
  have hx := C.1.1
  have hb := C.1.2.1
  unfold f_X9_canTake_b103 at h
  refine lv_iand (pc := 103) hx hb dX9_canTake_103 ?_
  refine lv_istore (pc := 104) (lv' := [(4, .int (k0 &&& k1)), (0, .ref (z + 80 + 0)), (1, .int v1), (2, .int v2), (3, .int v3), (5, .int v5), (6, .int v6), (7, .int v7)]) hx hb dX9_canTake_104 hl (by decide) rfl (fun ls hl => ?_)
  refine lv_aload_n (pc := 106) hx hb dX9_canTake_106 rfl (lv_at hl 1 rfl) ?_
  refine gf_X9_3 (pc := 107) C hW fl_X9_16 dX9_canTake_107 ?_
  refine lv_iconst (pc := 110) (v := 4) hx hb dX9_canTake_110 (by decide) ?_
  refine lv_iload_n (pc := 111) hx hb dX9_canTake_111 rfl (lv_at hl 3 rfl) ?_
  refine lv_imul (pc := 112) hx hb dX9_canTake_112 ?_
  obtain ⟨hc18, h⟩ := o_chk h
  refine ir_ld (pc := 113) (k := 3) C hW (by decide) (by decide) rfl rfl (inb_in hc18) dX9_canTake_113 ?_
  refine lv_aload_n (pc := 114) hx hb dX9_canTake_114 rfl (lv_at hl 1 rfl) ?_
  refine gf_X9_21 (pc := 115) C hW fl_X9_40 dX9_canTake_115 ?_
  refine lv_iload (pc := 118) hx hb dX9_canTake_118 (lv_at hl 7 rfl) ?_
  obtain ⟨hc19, h⟩ := o_chk h
  refine ir_ld (pc := 120) (k := 11) C hW (by decide) (by decide) rfl rfl (inb_in hc19) dX9_canTake_120 ?_
  refine lv_isub (pc := 121) hx hb dX9_canTake_121 ?_
  refine lv_aload_n (pc := 122) hx hb dX9_canTake_122 rfl (lv_at hl 1 rfl) ?_
  refine lv_iconst (pc := 123) (v := 1) hx hb dX9_canTake_123 (by decide) ?_
  refine lv_iload_n (pc := 124) hx hb dX9_canTake_124 rfl (lv_at hl 3 rfl) ?_
  refine lv_aload_n (pc := 125) hx hb dX9_canTake_125 rfl (lv_at hl 1 rfl) ?_
  refine gf_X9_6 (pc := 126) C hW fl_X9_91 dX9_canTake_126 ?_
  obtain ⟨r22, σ23, hc20, h⟩ := o_b2 h
  refine g_virt (pc := 129) (st2 := [.int r22, .int ((σ 3 (((4 : Int32) * v2).toNatClampNeg)) - (σ 11 (v7.toNatClampNeg)))]) (rest := [.int ((σ 3 (((4 : Int32) * v2).toNatClampNeg)) - (σ 11 (v7.toNatClampNeg)))]) C hW hS (c_X9_asksOf (K := K - 1) (by omega) hc20) mw_X9_179 inR0 Er_0 rfl (hRoom (by omega) (by decide)) rfl rfl rfl (Nat.le_of_ble_eq_true rfl) hl.1 dX9_canTake_129 (fun H locs hW hS => ?_)
  refine lv_isub (pc := 132) hx hb dX9_canTake_132 ?_
  obtain ⟨x24, hxx24, h⟩ := o_d h
  refine g_top hxx24 ?_
  refine lv_istore (pc := 133) (lv' := [(8, .int x24), (4, .int (k0 &&& k1)), (0, .ref (z + 80 + 0)), (1, .int v1), (2, .int v2), (3, .int v3), (5, .int v5), (6, .int v6), (7, .int v7)]) hx hb dX9_canTake_133 hl (by decide) rfl (fun ls hl => ?_)
  refine lv_aload_n (pc := 135) hx hb dX9_canTake_135 rfl (lv_at hl 2 rfl) ?_
  refine gf_X9_3 (pc := 136) C hW fl_X9_16 dX9_canTake_136 ?_
  refine lv_iconst (pc := 139) (v := 4) hx hb dX9_canTake_139 (by decide) ?_
  refine lv_iload_n (pc := 140) hx hb dX9_canTake_140 rfl (lv_at hl 4 rfl) ?_
  refine lv_imul (pc := 141) hx hb dX9_canTake_141 ?_
  refine lv_iload (pc := 142) hx hb dX9_canTake_142 (lv_at hl 0 rfl) ?_
  refine lv_if_ge (pc := 144) (tgt := 151) hx hb dX9_canTake_144 (by decide) (fun hc24 => ?_) (fun hc24 => ?_)
  · replace h := o_pos hc24 h
    refine lv_iload (pc := 151) hx hb dX9_canTake_151 (lv_at hl 0 rfl) ?_
    exact w_X9_canTake_b153 C hK σ23 v1 v2 v3 (k0 &&& k1) v5 v6 ((4 : Int32) * v2) x24 s10 hs10 s25 hs25 hW hS (lv_sub hl [2, 3, 4, 5, 1, 6, 7] rfl) h
  · replace h := o_neg hc24 h
    refine lv_iconst (pc := 147) (v := 0) hx hb dX9_canTake_147 (by decide) ?_
    refine lv_goto (pc := 148) (tgt := 153) hx hb dX9_canTake_148 (by decide) ?_
    exact w_X9_canTake_b153 C hK σ23 v1 v2 v3 (k0 &&& k1) v5 v6 ((4 : Int32) * v2) (0 : Int32) s10 hs10 s25 hs25 hW hS (lv_sub hl [2, 3, 4, 5, 1, 6, 7] rfl) h

theorem w_X9_canTake_b25 (C : CX cX9_canTake 9 RX9 (some .boolean) D ac p m c s args meth (z, aK, aV) (Ar (z + 80))) (hK : 5 ≤ K) {r : Int32} {σf : Mem}   (v1 : Int32) (v2 : Int32) (v3 : Int32) (v5 : Int32) (s10 : Mem → Int32 → Int32 → Option (Int32 × Mem)) (hs10 : ∀ (σ : Mem) (v4 : Int32) (v5 : Int32) {H : Heap} {locs : List Loc} {ls : Array Slot} (_ : WR D ac (z + 80) σ H) (_ : va_S (Ar (z + 80)) s.heap H locs) (_ : lv_has ls 9 [(0, .ref (z + 80 + 0)), (1, .int v1), (2, .int v2), (3, .int v3), (4, .int v4), (5, .int v5)]) (_ : s10 σ v4 v5 = some (r, σf)), W p l e (rma K 0 0) s m args below meth c H locs 0 0 (MQ below (QV D (Er ac (z + 80)) inR (z + 80) (some (.int r)) σf (Ar (z + 80))) args s 0 0 (Ar (z + 80))) (F0 m 10 ls [])) : ∀ (n : Nat) (σ : Mem) (v4 : Int32) (v6 : Int32) {H : Heap} {locs : List Loc} {ls : Array Slot} (hW : WR D ac (z + 80) σ H) (hS : va_S (Ar (z + 80)) s.heap H locs) (hl : lv_has ls 9 [(0, .ref (z + 80 + 0)), (1, .int v1), (2, .int v2), (3, .int v3), (4, .int v4), (5, .int v5), (6, .int v6)]) (h : f_X9_canTake_b25 s10 v1 v2 v3 v5 n σ v4 v6 = some (r, σf)), W p l e (rma K 0 0) s m args below meth c H locs 0 0 (MQ below (QV D (Er ac (z + 80)) inR (z + 80) (some (.int r)) σf (Ar (z + 80))) args s 0 0 (Ar (z + 80))) (F0 m 25 ls []) := by
  have hx := C.1.1
  have hb := C.1.2.1
  intro n
  induction n with
  | zero =>
    intro σ v4 v6 H locs ls  hW hS hl h
    cases h
  | succ n ih =>
    intro σ v4 v6 H locs ls  hW hS hl h
    rw [f_X9_canTake_b25.eq_2] at h
    refine lv_iload (pc := 25) hx hb dX9_canTake_25 (lv_at hl 6 rfl) ?_
    refine lv_aload_n (pc := 27) hx hb dX9_canTake_27 rfl (lv_at hl 0 rfl) ?_
    refine gf_X9_20 (pc := 28) C hW fl_X9_37 dX9_canTake_28 ?_
    refine lv_iload_n (pc := 31) hx hb dX9_canTake_31 rfl (lv_at hl 1 rfl) ?_
    obtain ⟨hc7, h⟩ := o_chk h
    refine ir_ld (pc := 32) (k := 10) C hW (by decide) (by decide) rfl rfl (inb_in hc7) dX9_canTake_32 ?_
    refine lv_iconst (pc := 33) (v := 2) hx hb dX9_canTake_33 (by decide) ?_
    refine lv_idiv (pc := 34) hx hb dX9_canTake_34 (by decide) ?_
    refine lv_icmp_ge (pc := 35) (tgt := 160) hx hb dX9_canTake_35 (by decide) (fun hc8 => ?_) (fun hc8 => ?_)
    · replace h := o_pos hc8 h
      refine lv_aload_n (pc := 160) hx hb dX9_canTake_160 rfl (lv_at hl 0 rfl) ?_
      refine lv_dup (pc := 161) hx hb dX9_canTake_161 rfl ?_
      refine gf_X9_6 (pc := 162) C hW fl_X9_91 dX9_canTake_162 ?_
      refine lv_iconst (pc := 165) (v := 1) hx hb dX9_canTake_165 (by decide) ?_
      refine lv_iadd (pc := 166) hx hb dX9_canTake_166 ?_
      refine pf_X9_6 (pc := 167) C hW hS fl_X9_91 dX9_canTake_167 (fun H locs hW hS => ?_)
      refine lv_iinc (pc := 170) (v := (v5 + 1)) (lv' := [(5, .int (v5 + 1)), (0, .ref (z + 80 + 0)), (1, .int v1), (2, .int v2), (3, .int v3), (4, .int v4), (6, .int v6)]) hx hb dX9_canTake_170 hl (k := 5) rfl rfl (by decide) rfl (fun ls hl => ?_)
      refine lv_goto (pc := 173) (tgt := 10) hx hb dX9_canTake_173 (by decide) ?_
      exact hs10 (ms σ 0 6 ((σ 0 6) + (1 : Int32))) v4 (v5 + 1) hW hS (lv_sub hl [1, 2, 3, 4, 5, 0] rfl) h
    · replace h := o_neg hc8 h
      refine lv_bipush (pc := 38) (v := 40) hx hb dX9_canTake_38 (by decide) ?_
      refine lv_iload_n (pc := 40) hx hb dX9_canTake_40 rfl (lv_at hl 1 rfl) ?_
      refine lv_imul (pc := 41) hx hb dX9_canTake_41 ?_
      refine lv_iconst (pc := 42) (v := 2) hx hb dX9_canTake_42 (by decide) ?_
      refine lv_iload (pc := 43) hx hb dX9_canTake_43 (lv_at hl 6 rfl) ?_
      refine lv_imul (pc := 45) hx hb dX9_canTake_45 ?_
      refine lv_iadd (pc := 46) hx hb dX9_canTake_46 ?_
      obtain ⟨x10, hxx10, h⟩ := o_d h
      refine g_top hxx10 ?_
      refine lv_istore (pc := 47) (lv' := [(7, .int x10), (0, .ref (z + 80 + 0)), (1, .int v1), (2, .int v2), (3, .int v3), (4, .int v4), (5, .int v5), (6, .int v6)]) hx hb dX9_canTake_47 hl (by decide) rfl (fun ls hl => ?_)
      refine lv_iload_n (pc := 49) hx hb dX9_canTake_49 rfl (lv_at hl 4 rfl) ?_
      refine lv_iload (pc := 50) hx hb dX9_canTake_50 (lv_at hl 7 rfl) ?_
      refine lv_ishr (pc := 52) hx hb dX9_canTake_52 ?_
      refine lv_iconst (pc := 53) (v := 1) hx hb dX9_canTake_53 (by decide) ?_
      refine lv_iand (pc := 54) hx hb dX9_canTake_54 ?_
      refine lv_iconst (pc := 55) (v := 1) hx hb dX9_canTake_55 (by decide) ?_
      refine lv_icmp_ne (pc := 56) (tgt := 154) hx hb dX9_canTake_56 (by decide) (fun hc10 => ?_) (fun hc10 => ?_)
      · replace h := o_neg hc10 h
        exact w_X9_canTake_b154 C hK σ v1 v2 v3 v4 v5 v6 s10 hs10 (f_X9_canTake_b25 s10 v1 v2 v3 v5 n) (fun σ v4 v6 {H : Heap} {locs : List Loc} {ls : Array Slot}  hW hS hl h => ih σ v4 v6 hW hS hl h) hW hS (lv_sub hl [1, 2, 3, 4, 5, 6, 7] rfl) h
      · replace h := o_pos hc10 h
        refine lv_aload_n (pc := 59) hx hb dX9_canTake_59 rfl (lv_at hl 1 rfl) ?_
        refine gf_X9_21 (pc := 60) C hW fl_X9_40 dX9_canTake_60 ?_
        refine lv_iload (pc := 63) hx hb dX9_canTake_63 (lv_at hl 0 rfl) ?_
        refine lv_iconst (pc := 65) (v := 1) hx hb dX9_canTake_65 (by decide) ?_
        refine lv_iadd (pc := 66) hx hb dX9_canTake_66 ?_
        obtain ⟨hc11, h⟩ := o_chk h
        refine ir_ld (pc := 67) (k := 11) C hW (by decide) (by decide) rfl rfl (inb_in hc11) dX9_canTake_67 ?_
        refine lv_iload (pc := 68) hx hb dX9_canTake_68 (lv_at hl 6 rfl) ?_
        refine lv_icmp_ne (pc := 70) (tgt := 154) hx hb dX9_canTake_70 (by decide) (fun hc12 => ?_) (fun hc12 => ?_)
        · replace h := o_neg hc12 h
          exact w_X9_canTake_b154 C hK σ v1 v2 v3 v4 v5 v6 s10 hs10 (f_X9_canTake_b25 s10 v1 v2 v3 v5 n) (fun σ v4 v6 {H : Heap} {locs : List Loc} {ls : Array Slot}  hW hS hl h => ih σ v4 v6 hW hS hl h) hW hS (lv_sub hl [1, 2, 3, 4, 5, 6, 7] rfl) h
        · replace h := o_pos hc12 h
          refine lv_iload (pc := 73) hx hb dX9_canTake_73 (lv_at hl 5 rfl) ?_
          refine lv_aload_n (pc := 75) hx hb dX9_canTake_75 rfl (lv_at hl 1 rfl) ?_
          refine lv_iload_n (pc := 76) hx hb dX9_canTake_76 rfl (lv_at hl 3 rfl) ?_
          refine lv_aload_n (pc := 77) hx hb dX9_canTake_77 rfl (lv_at hl 1 rfl) ?_
          refine gf_X9_3 (pc := 78) C hW fl_X9_16 dX9_canTake_78 ?_
          refine lv_iconst (pc := 81) (v := 4) hx hb dX9_canTake_81 (by decide) ?_
          refine lv_iload_n (pc := 82) hx hb dX9_canTake_82 rfl (lv_at hl 3 rfl) ?_
          refine lv_imul (pc := 83) hx hb dX9_canTake_83 ?_
          obtain ⟨hc13, h⟩ := o_chk h
          refine ir_ld (pc := 84) (k := 3) C hW (by decide) (by decide) rfl rfl (inb_in hc13) dX9_canTake_84 ?_
          obtain ⟨r16, hc14, h⟩ := o_b h
          refine g_virt (pc := 85) (st2 := [.int r16, .int v4]) (rest := [.int v4]) C hW hS (c_X9_countsOf (K := K - 1) (by omega) hc14) mw_X9_182 inR0 Er_0 rfl (hRoom (by omega) (by decide)) rfl rfl rfl (Nat.le_of_ble_eq_true rfl) hl.1 dX9_canTake_85 (fun H locs hW hS => ?_)
          refine lv_aload_n (pc := 88) hx hb dX9_canTake_88 rfl (lv_at hl 1 rfl) ?_
          refine gf_X9_21 (pc := 89) C hW fl_X9_40 dX9_canTake_89 ?_
          refine lv_iload (pc := 92) hx hb dX9_canTake_92 (lv_at hl 0 rfl) ?_
          obtain ⟨hc16, h⟩ := o_chk h
          refine ir_ld (pc := 94) (k := 11) C hW (by decide) (by decide) rfl rfl (inb_in hc16) dX9_canTake_94 ?_
          refine lv_icmp_lt (pc := 95) (tgt := 102) hx hb dX9_canTake_95 (by decide) (fun hc17 => ?_) (fun hc17 => ?_)
          · replace h := o_pos hc17 h
            refine lv_iconst (pc := 102) (v := 0) hx hb dX9_canTake_102 (by decide) ?_
            exact w_X9_canTake_b103 C hK σ v1 v2 v3 v5 v6 x10 v4 (0 : Int32) s10 hs10 (f_X9_canTake_b25 s10 v1 v2 v3 v5 n) (fun σ v4 v6 {H : Heap} {locs : List Loc} {ls : Array Slot}  hW hS hl h => ih σ v4 v6 hW hS hl h) hW hS (lv_sub hl [1, 2, 3, 4, 6, 7, 0] rfl) h
          · replace h := o_neg hc17 h
            refine lv_iconst (pc := 98) (v := 1) hx hb dX9_canTake_98 (by decide) ?_
            refine lv_goto (pc := 99) (tgt := 103) hx hb dX9_canTake_99 (by decide) ?_
            exact w_X9_canTake_b103 C hK σ v1 v2 v3 v5 v6 x10 v4 (1 : Int32) s10 hs10 (f_X9_canTake_b25 s10 v1 v2 v3 v5 n) (fun σ v4 v6 {H : Heap} {locs : List Loc} {ls : Array Slot}  hW hS hl h => ih σ v4 v6 hW hS hl h) hW hS (lv_sub hl [1, 2, 3, 4, 6, 7, 0] rfl) h

theorem w_X9_canTake_b10 (C : CX cX9_canTake 9 RX9 (some .boolean) D ac p m c s args meth (z, aK, aV) (Ar (z + 80))) (hK : 5 ≤ K) {r : Int32} {σf : Mem}   (v1 : Int32) (v2 : Int32) (v3 : Int32)  : ∀ (n : Nat) (σ : Mem) (v4 : Int32) (v5 : Int32) {H : Heap} {locs : List Loc} {ls : Array Slot} (hW : WR D ac (z + 80) σ H) (hS : va_S (Ar (z + 80)) s.heap H locs) (hl : lv_has ls 9 [(0, .ref (z + 80 + 0)), (1, .int v1), (2, .int v2), (3, .int v3), (4, .int v4), (5, .int v5)]) (h : f_X9_canTake_b10 v1 v2 v3 n σ v4 v5 = some (r, σf)), W p l e (rma K 0 0) s m args below meth c H locs 0 0 (MQ below (QV D (Er ac (z + 80)) inR (z + 80) (some (.int r)) σf (Ar (z + 80))) args s 0 0 (Ar (z + 80))) (F0 m 10 ls []) := by
  have hx := C.1.1
  have hb := C.1.2.1
  intro n
  induction n with
  | zero =>
    intro σ v4 v5 H locs ls  hW hS hl h
    cases h
  | succ n ih =>
    intro σ v4 v5 H locs ls  hW hS hl h
    rw [f_X9_canTake_b10.eq_2] at h
    refine lv_iload (pc := 10) hx hb dX9_canTake_10 (lv_at hl 5 rfl) ?_
    refine lv_bipush (pc := 12) (v := 60) hx hb dX9_canTake_12 (by decide) ?_
    refine lv_icmp_ge (pc := 14) (tgt := 176) hx hb dX9_canTake_14 (by decide) (fun hc2 => ?_) (fun hc2 => ?_)
    · replace h := o_pos hc2 h
      refine lv_aload_n (pc := 176) hx hb dX9_canTake_176 rfl (lv_at hl 0 rfl) ?_
      obtain ⟨σ5, hc3, h⟩ := o_b h
      refine g_virt (pc := 177) (st2 := []) (rest := []) C hW hS (c_X9_laysBack (K := K - 1) (by omega) hc3) mw_X9_234 inR0 Er_0 rfl (hRoom (by omega) (by decide)) rfl rfl rfl (Nat.le_of_ble_eq_true rfl) hl.1 dX9_canTake_177 (fun H locs hW hS => ?_)
      refine lv_iload (pc := 180) hx hb dX9_canTake_180 (lv_at hl 4 rfl) ?_
      obtain ⟨hb0, h⟩ := o_chk h
      exact g_ret (pc := 182) C hW hS (nar_b hb0) dX9_canTake_182 (congrArg (fun q => some (Value.int q)) (o_r h).1) (o_r h).2
    · replace h := o_neg hc2 h
      refine lv_aload_n (pc := 17) hx hb dX9_canTake_17 rfl (lv_at hl 0 rfl) ?_
      refine lv_iload_n (pc := 18) hx hb dX9_canTake_18 rfl (lv_at hl 2 rfl) ?_
      obtain ⟨σ7, hc5, h⟩ := o_b h
      refine g_virt (pc := 19) (st2 := []) (rest := []) C hW hS (c_X9_grow (K := K - 1) (by omega) hc5) mw_X9_216 inR0 Er_0 rfl (hRoom (by omega) (by decide)) rfl rfl rfl (Nat.le_of_ble_eq_true rfl) hl.1 dX9_canTake_19 (fun H locs hW hS => ?_)
      refine lv_iconst (pc := 22) (v := 0) hx hb dX9_canTake_22 (by decide) ?_
      refine lv_istore (pc := 23) (lv' := [(6, .int (0 : Int32)), (0, .ref (z + 80 + 0)), (1, .int v1), (2, .int v2), (3, .int v3), (4, .int v4), (5, .int v5)]) hx hb dX9_canTake_23 hl (by decide) rfl (fun ls hl => ?_)
      exact w_X9_canTake_b25 C hK v1 v2 v3 v5 (f_X9_canTake_b10 v1 v2 v3 n) (fun σ v4 v5 {H : Heap} {locs : List Loc} {ls : Array Slot}  hW hS hl h => ih σ v4 v5 hW hS hl h) FU σ7 v4 (0 : Int32) hW hS (lv_sub hl [1, 2, 3, 4, 5, 6, 0] rfl) h

theorem c_X9_canTake {K : Nat}  (hK : 5 ≤ K) {σ : Mem} {σf : Mem} {v1 : Int32} {v2 : Int32} {v3 : Int32} {r : Int32} (h : f_X9_canTake σ v1 v2 v3 = some (r, σf)) : MC l D (Er ac (z + 80)) inR (z + 80) ac (z, aK, aV) (Ar (z + 80)) yX9_canTake cX9_canTake 9 (some .boolean) K [.ref (z + 80 + 0), .int v1, .int v2, .int v3] σ (some (.int r)) σf := by
  refine MC.of (fun q hq => by have := hq.1; show z ≤ q; omega) (plainFor_of_name (by decide)) (Nat.le_of_ble_eq_true rfl) ?_
  intro p e s m below meth c args C hW ls hl
  replace hl : lv_has ls 9 [(0, .ref (z + 80 + 0)), (1, .int v1), (2, .int v2), (3, .int v3)] := hl
  have hS : va_S (Ar (z + 80)) s.heap s.heap [] := va_S.rf
  have hx := C.1.1
  have hb := C.1.2.1
  unfold f_X9_canTake at h
  refine lv_iconst (pc := 0) (v := 1) hx hb dX9_canTake_0 (by decide) ?_
  refine lv_istore (pc := 1) (lv' := [(4, .int (1 : Int32)), (0, .ref (z + 80 + 0)), (1, .int v1), (2, .int v2), (3, .int v3)]) hx hb dX9_canTake_1 hl (by decide) rfl (fun ls hl => ?_)
  refine lv_aload_n (pc := 3) hx hb dX9_canTake_3 rfl (lv_at hl 1 rfl) ?_
  obtain ⟨σ2, hc0, h⟩ := o_b h
  refine g_virt (pc := 4) (st2 := []) (rest := []) C hW hS (c_X9_keeps (K := K - 1) (by omega) hc0) mw_X9_231 inR0 Er_0 rfl (hRoom (by omega) (by decide)) rfl rfl rfl (Nat.le_of_ble_eq_true rfl) hl.1 dX9_canTake_4 (fun H locs hW hS => ?_)
  refine lv_iconst (pc := 7) (v := 0) hx hb dX9_canTake_7 (by decide) ?_
  refine lv_istore (pc := 8) (lv' := [(5, .int (0 : Int32)), (4, .int (1 : Int32)), (0, .ref (z + 80 + 0)), (1, .int v1), (2, .int v2), (3, .int v3)]) hx hb dX9_canTake_8 hl (by decide) rfl (fun ls hl => ?_)
  exact w_X9_canTake_b10 C hK v1 v2 v3 FU σ2 (1 : Int32) (0 : Int32) hW hS (lv_sub hl [2, 3, 4, 5, 1, 0] rfl) h

theorem w_X9_take_b166 (C : CX cX9_take 10 RX9 (some .int) D ac p m c s args meth (z, aK, aV) (Ar (z + 80))) (hK : 6 ≤ K) {r : Int32} {σf : Mem}   (σ : Mem) (v3 : Int32) (v5 : Int32) (v6 : Int32)  {H : Heap} {locs : List Loc} {ls : Array Slot} (hW : WR D ac (z + 80) σ H) (hS : va_S (Ar (z + 80)) s.heap H locs) (hl : lv_has ls 10 [(3, .int v3), (5, .int v5), (6, .int v6)]) (h : f_X9_take_b166 σ v3 v5 v6 = some (r, σf)) : W p l e (rma K 0 0) s m args below meth c H locs 0 0 (MQ below (QV D (Er ac (z + 80)) inR (z + 80) (some (.int r)) σf (Ar (z + 80))) args s 0 0 (Ar (z + 80))) (F0 m 166 ls []) := by
  have hx := C.1.1
  have hb := C.1.2.1
  unfold f_X9_take_b166 at h
  refine lv_iload_n (pc := 166) hx hb dX9_take_166 rfl (lv_at hl 0 rfl) ?_
  refine lv_if_ne (pc := 167) (tgt := 175) hx hb dX9_take_167 (by decide) (fun hc9 => ?_) (fun hc9 => ?_)
  · replace h := o_neg hc9 h
    refine lv_iload (pc := 175) hx hb dX9_take_175 (lv_at hl 2 rfl) ?_
    exact g_ret (pc := 177) C hW hS rfl dX9_take_177 (congrArg (fun q => some (Value.int q)) (o_r h).1) (o_r h).2
  · replace h := o_pos hc9 h
    refine lv_iload (pc := 170) hx hb dX9_take_170 (lv_at hl 1 rfl) ?_
    refine lv_goto (pc := 172) (tgt := 177) hx hb dX9_take_172 (by decide) ?_
    exact g_ret (pc := 177) C hW hS rfl dX9_take_177 (congrArg (fun q => some (Value.int q)) (o_r h).1) (o_r h).2

theorem w_X9_take_b160 (C : CX cX9_take 10 RX9 (some .int) D ac p m c s args meth (z, aK, aV) (Ar (z + 80))) (hK : 6 ≤ K) {r : Int32} {σf : Mem}   (σ : Mem) (v1 : Int32) (v2 : Int32) (v3 : Int32) (v5 : Int32) (v6 : Int32) (v7 : Int32) (s47 : Mem → Int32 → Int32 → Int32 → Option (Int32 × Mem)) (hs47 : ∀ (σ : Mem) (v5 : Int32) (v6 : Int32) (v7 : Int32) {H : Heap} {locs : List Loc} {ls : Array Slot} (_ : WR D ac (z + 80) σ H) (_ : va_S (Ar (z + 80)) s.heap H locs) (_ : lv_has ls 10 [(0, .ref (z + 80 + 0)), (1, .int v1), (2, .int v2), (3, .int v3), (5, .int v5), (6, .int v6), (7, .int v7)]) (_ : s47 σ v5 v6 v7 = some (r, σf)), W p l e (rma K 0 0) s m args below meth c H locs 0 0 (MQ below (QV D (Er ac (z + 80)) inR (z + 80) (some (.int r)) σf (Ar (z + 80))) args s 0 0 (Ar (z + 80))) (F0 m 47 ls [])) {H : Heap} {locs : List Loc} {ls : Array Slot} (hW : WR D ac (z + 80) σ H) (hS : va_S (Ar (z + 80)) s.heap H locs) (hl : lv_has ls 10 [(0, .ref (z + 80 + 0)), (1, .int v1), (2, .int v2), (3, .int v3), (5, .int v5), (6, .int v6), (7, .int v7)]) (h : f_X9_take_b160 s47 σ v1 v2 v3 v5 v6 v7 = some (r, σf)) : W p l e (rma K 0 0) s m args below meth c H locs 0 0 (MQ below (QV D (Er ac (z + 80)) inR (z + 80) (some (.int r)) σf (Ar (z + 80))) args s 0 0 (Ar (z + 80))) (F0 m 160 ls []) := by
  have hx := C.1.1
  have hb := C.1.2.1
  unfold f_X9_take_b160 at h
  refine lv_iinc (pc := 160) (v := (v7 + 1)) (lv' := [(7, .int (v7 + 1)), (0, .ref (z + 80 + 0)), (1, .int v1), (2, .int v2), (3, .int v3), (5, .int v5), (6, .int v6)]) hx hb dX9_take_160 hl (k := 6) rfl rfl (by decide) rfl (fun ls hl => ?_)
  refine lv_goto (pc := 163) (tgt := 47) hx hb dX9_take_163 (by decide) ?_
  exact hs47 σ v5 v6 (v7 + 1) hW hS (lv_sub hl [1, 2, 3, 4, 5, 6, 0] rfl) h

theorem w_X9_take_b125 (C : CX cX9_take 10 RX9 (some .int) D ac p m c s args meth (z, aK, aV) (Ar (z + 80))) (hK : 6 ≤ K) {r : Int32} {σf : Mem}   (σ : Mem) (v1 : Int32) (v2 : Int32) (v3 : Int32) (v5 : Int32) (v6 : Int32) (v7 : Int32) (v9 : Int32) (k0 : Int32) (k1 : Int32) (s47 : Mem → Int32 → Int32 → Int32 → Option (Int32 × Mem)) (hs47 : ∀ (σ : Mem) (v5 : Int32) (v6 : Int32) (v7 : Int32) {H : Heap} {locs : List Loc} {ls : Array Slot} (_ : WR D ac (z + 80) σ H) (_ : va_S (Ar (z + 80)) s.heap H locs) (_ : lv_has ls 10 [(0, .ref (z + 80 + 0)), (1, .int v1), (2, .int v2), (3, .int v3), (5, .int v5), (6, .int v6), (7, .int v7)]) (_ : s47 σ v5 v6 v7 = some (r, σf)), W p l e (rma K 0 0) s m args below meth c H locs 0 0 (MQ below (QV D (Er ac (z + 80)) inR (z + 80) (some (.int r)) σf (Ar (z + 80))) args s 0 0 (Ar (z + 80))) (F0 m 47 ls [])) (s81 : Mem → Int32 → Int32 → Option (Int32 × Mem)) (hs81 : ∀ (σ : Mem) (v8 : Int32) (v9 : Int32) {H : Heap} {locs : List Loc} {ls : Array Slot} (_ : WR D ac (z + 80) σ H) (_ : va_S (Ar (z + 80)) s.heap H locs) (_ : lv_has ls 10 [(0, .ref (z + 80 + 0)), (1, .int v1), (2, .int v2), (3, .int v3), (5, .int v5), (6, .int v6), (7, .int v7), (8, .int v8), (9, .int v9)]) (_ : s81 σ v8 v9 = some (r, σf)), W p l e (rma K 0 0) s m args below meth c H locs 0 0 (MQ below (QV D (Er ac (z + 80)) inR (z + 80) (some (.int r)) σf (Ar (z + 80))) args s 0 0 (Ar (z + 80))) (F0 m 81 ls [])) {H : Heap} {locs : List Loc} {ls : Array Slot} (hW : WR D ac (z + 80) σ H) (hS : va_S (Ar (z + 80)) s.heap H locs) (hl : lv_has ls 10 [(0, .ref (z + 80 + 0)), (1, .int v1), (2, .int v2), (3, .int v3), (5, .int v5), (6, .int v6), (7, .int v7), (9, .int v9)]) (h : f_X9_take_b125 s47 s81 σ v1 v2 v3 v5 v6 v7 v9 k0 k1 = some (r, σf)) : W p l e (rma K 0 0) s m args below meth c H locs 0 0 (MQ below (QV D (Er ac (z + 80)) inR (z + 80) (some (.int r)) σf (Ar (z + 80))) args s 0 0 (Ar (z + 80))) (F0 m 125 ls [.int k1, .int k0]) := by
  have hx := C.1.1
  have hb := C.1.2.1
  unfold f_X9_take_b125 at h
  refine lv_iadd (pc := 125) hx hb dX9_take_125 ?_
  refine lv_istore (pc := 126) (lv' := [(8, .int (k0 + k1)), (0, .ref (z + 80 + 0)), (1, .int v1), (2, .int v2), (3, .int v3), (5, .int v5), (6, .int v6), (7, .int v7), (9, .int v9)]) hx hb dX9_take_126 hl (by decide) rfl (fun ls hl => ?_)
  refine lv_iinc (pc := 128) (v := (v9 + 1)) (lv' := [(9, .int (v9 + 1)), (8, .int (k0 + k1)), (0, .ref (z + 80 + 0)), (1, .int v1), (2, .int v2), (3, .int v3), (5, .int v5), (6, .int v6), (7, .int v7)]) hx hb dX9_take_128 hl (k := 8) rfl rfl (by decide) rfl (fun ls hl => ?_)
  refine lv_goto (pc := 131) (tgt := 81) hx hb dX9_take_131 (by decide) ?_
  exact hs81 σ (k0 + k1) (v9 + 1) hW hS (lv_sub hl [2, 3, 4, 5, 6, 7, 8, 1, 0] rfl) h

theorem w_X9_take_b81 (C : CX cX9_take 10 RX9 (some .int) D ac p m c s args meth (z, aK, aV) (Ar (z + 80))) (hK : 6 ≤ K) {r : Int32} {σf : Mem}   (v1 : Int32) (v2 : Int32) (v3 : Int32) (v5 : Int32) (v6 : Int32) (v7 : Int32) (s47 : Mem → Int32 → Int32 → Int32 → Option (Int32 × Mem)) (hs47 : ∀ (σ : Mem) (v5 : Int32) (v6 : Int32) (v7 : Int32) {H : Heap} {locs : List Loc} {ls : Array Slot} (_ : WR D ac (z + 80) σ H) (_ : va_S (Ar (z + 80)) s.heap H locs) (_ : lv_has ls 10 [(0, .ref (z + 80 + 0)), (1, .int v1), (2, .int v2), (3, .int v3), (5, .int v5), (6, .int v6), (7, .int v7)]) (_ : s47 σ v5 v6 v7 = some (r, σf)), W p l e (rma K 0 0) s m args below meth c H locs 0 0 (MQ below (QV D (Er ac (z + 80)) inR (z + 80) (some (.int r)) σf (Ar (z + 80))) args s 0 0 (Ar (z + 80))) (F0 m 47 ls [])) : ∀ (n : Nat) (σ : Mem) (v8 : Int32) (v9 : Int32) {H : Heap} {locs : List Loc} {ls : Array Slot} (hW : WR D ac (z + 80) σ H) (hS : va_S (Ar (z + 80)) s.heap H locs) (hl : lv_has ls 10 [(0, .ref (z + 80 + 0)), (1, .int v1), (2, .int v2), (3, .int v3), (5, .int v5), (6, .int v6), (7, .int v7), (8, .int v8), (9, .int v9)]) (h : f_X9_take_b81 s47 v1 v2 v3 v5 v6 v7 n σ v8 v9 = some (r, σf)), W p l e (rma K 0 0) s m args below meth c H locs 0 0 (MQ below (QV D (Er ac (z + 80)) inR (z + 80) (some (.int r)) σf (Ar (z + 80))) args s 0 0 (Ar (z + 80))) (F0 m 81 ls []) := by
  have hx := C.1.1
  have hb := C.1.2.1
  intro n
  induction n with
  | zero =>
    intro σ v8 v9 H locs ls  hW hS hl h
    cases h
  | succ n ih =>
    intro σ v8 v9 H locs ls  hW hS hl h
    rw [f_X9_take_b81.eq_2] at h
    refine lv_iload (pc := 81) hx hb dX9_take_81 (lv_at hl 8 rfl) ?_
    refine lv_aload_n (pc := 83) hx hb dX9_take_83 rfl (lv_at hl 0 rfl) ?_
    refine gf_X9_20 (pc := 84) C hW fl_X9_37 dX9_take_84 ?_
    refine lv_iload_n (pc := 87) hx hb dX9_take_87 rfl (lv_at hl 1 rfl) ?_
    obtain ⟨hc10, h⟩ := o_chk h
    refine ir_ld (pc := 88) (k := 10) C hW (by decide) (by decide) rfl rfl (inb_in hc10) dX9_take_88 ?_
    refine lv_iconst (pc := 89) (v := 2) hx hb dX9_take_89 (by decide) ?_
    refine lv_idiv (pc := 90) hx hb dX9_take_90 (by decide) ?_
    refine lv_icmp_ge (pc := 91) (tgt := 134) hx hb dX9_take_91 (by decide) (fun hc11 => ?_) (fun hc11 => ?_)
    · replace h := o_pos hc11 h
      refine lv_iload (pc := 134) hx hb dX9_take_134 (lv_at hl 7 rfl) ?_
      refine lv_iload (pc := 136) hx hb dX9_take_136 (lv_at hl 5 rfl) ?_
      refine lv_icmp_le (pc := 138) (tgt := 160) hx hb dX9_take_138 (by decide) (fun hc12 => ?_) (fun hc12 => ?_)
      · replace h := o_pos hc12 h
        exact w_X9_take_b160 C hK σ v1 v2 v3 v5 v6 v7 s47 hs47 hW hS (lv_sub hl [0, 1, 2, 3, 4, 5, 6] rfl) h
      · replace h := o_neg hc12 h
        refine lv_aload_n (pc := 141) hx hb dX9_take_141 rfl (lv_at hl 0 rfl) ?_
        refine lv_iload_n (pc := 142) hx hb dX9_take_142 rfl (lv_at hl 1 rfl) ?_
        refine lv_iload_n (pc := 143) hx hb dX9_take_143 rfl (lv_at hl 2 rfl) ?_
        refine lv_iload (pc := 144) hx hb dX9_take_144 (lv_at hl 6 rfl) ?_
        obtain ⟨r15, σ16, hc13, h⟩ := o_b2 h
        refine g_virt (pc := 146) (st2 := [.int r15]) (rest := []) C hW hS (c_X9_canTake (K := K - 1) (by omega) hc13) mw_X9_246 inR0 Er_0 rfl (hRoom (by omega) (by decide)) rfl rfl rfl (Nat.le_of_ble_eq_true rfl) hl.1 dX9_take_146 (fun H locs hW hS => ?_)
        refine lv_if_eq (pc := 149) (tgt := 160) hx hb dX9_take_149 (by decide) (fun hc16 => ?_) (fun hc16 => ?_)
        · replace h := o_pos hc16 h
          exact w_X9_take_b160 C hK σ16 v1 v2 v3 v5 v6 v7 s47 hs47 hW hS (lv_sub hl [0, 1, 2, 3, 4, 5, 6] rfl) h
        · replace h := o_neg hc16 h
          refine lv_iload (pc := 152) hx hb dX9_take_152 (lv_at hl 6 rfl) ?_
          refine lv_istore (pc := 154) (lv' := [(5, .int v7), (0, .ref (z + 80 + 0)), (1, .int v1), (2, .int v2), (3, .int v3), (6, .int v6), (7, .int v7), (8, .int v8), (9, .int v9)]) hx hb dX9_take_154 hl (by decide) rfl (fun ls hl => ?_)
          refine lv_iload (pc := 156) hx hb dX9_take_156 (lv_at hl 7 rfl) ?_
          refine lv_istore (pc := 158) (lv' := [(6, .int v8), (5, .int v7), (0, .ref (z + 80 + 0)), (1, .int v1), (2, .int v2), (3, .int v3), (7, .int v7), (8, .int v8), (9, .int v9)]) hx hb dX9_take_158 hl (by decide) rfl (fun ls hl => ?_)
          exact w_X9_take_b160 C hK σ16 v1 v2 v3 v7 v8 v7 s47 hs47 hW hS (lv_sub hl [2, 3, 4, 5, 1, 0, 6] rfl) h
    · replace h := o_neg hc11 h
      refine lv_iload (pc := 94) hx hb dX9_take_94 (lv_at hl 7 rfl) ?_
      refine lv_iload (pc := 96) hx hb dX9_take_96 (lv_at hl 6 rfl) ?_
      refine lv_iload (pc := 98) hx hb dX9_take_98 (lv_at hl 8 rfl) ?_
      refine lv_ishr (pc := 100) hx hb dX9_take_100 ?_
      refine lv_iconst (pc := 101) (v := 1) hx hb dX9_take_101 (by decide) ?_
      refine lv_iand (pc := 102) hx hb dX9_take_102 ?_
      refine lv_iconst (pc := 103) (v := 1) hx hb dX9_take_103 (by decide) ?_
      refine lv_icmp_ne (pc := 104) (tgt := 124) hx hb dX9_take_104 (by decide) (fun hc17 => ?_) (fun hc17 => ?_)
      · replace h := o_neg hc17 h
        refine lv_iconst (pc := 124) (v := 0) hx hb dX9_take_124 (by decide) ?_
        exact w_X9_take_b125 C hK σ v1 v2 v3 v5 v6 v7 v9 v8 (0 : Int32) s47 hs47 (f_X9_take_b81 s47 v1 v2 v3 v5 v6 v7 n) (fun σ v8 v9 {H : Heap} {locs : List Loc} {ls : Array Slot}  hW hS hl h => ih σ v8 v9 hW hS hl h) hW hS (lv_sub hl [0, 1, 2, 3, 4, 5, 6, 8] rfl) h
      · replace h := o_pos hc17 h
        refine lv_aload_n (pc := 107) hx hb dX9_take_107 rfl (lv_at hl 0 rfl) ?_
        refine gf_X9_21 (pc := 108) C hW fl_X9_40 dX9_take_108 ?_
        refine lv_bipush (pc := 111) (v := 40) hx hb dX9_take_111 (by decide) ?_
        refine lv_iload_n (pc := 113) hx hb dX9_take_113 rfl (lv_at hl 1 rfl) ?_
        refine lv_imul (pc := 114) hx hb dX9_take_114 ?_
        refine lv_iconst (pc := 115) (v := 2) hx hb dX9_take_115 (by decide) ?_
        refine lv_iload (pc := 116) hx hb dX9_take_116 (lv_at hl 8 rfl) ?_
        refine lv_imul (pc := 118) hx hb dX9_take_118 ?_
        refine lv_iadd (pc := 119) hx hb dX9_take_119 ?_
        obtain ⟨hc18, h⟩ := o_chk h
        refine ir_ld (pc := 120) (k := 11) C hW (by decide) (by decide) rfl rfl (inb_in hc18) dX9_take_120 ?_
        refine lv_goto (pc := 121) (tgt := 125) hx hb dX9_take_121 (by decide) ?_
        exact w_X9_take_b125 C hK σ v1 v2 v3 v5 v6 v7 v9 v8 (σ 11 ((((40 : Int32) * v1) + ((2 : Int32) * v9)).toNatClampNeg)) s47 hs47 (f_X9_take_b81 s47 v1 v2 v3 v5 v6 v7 n) (fun σ v8 v9 {H : Heap} {locs : List Loc} {ls : Array Slot}  hW hS hl h => ih σ v8 v9 hW hS hl h) hW hS (lv_sub hl [0, 1, 2, 3, 4, 5, 6, 8] rfl) h

theorem w_X9_take_b47 (C : CX cX9_take 10 RX9 (some .int) D ac p m c s args meth (z, aK, aV) (Ar (z + 80))) (hK : 6 ≤ K) {r : Int32} {σf : Mem}   (v1 : Int32) (v2 : Int32) (v3 : Int32)  : ∀ (n : Nat) (σ : Mem) (v5 : Int32) (v6 : Int32) (v7 : Int32) {H : Heap} {locs : List Loc} {ls : Array Slot} (hW : WR D ac (z + 80) σ H) (hS : va_S (Ar (z + 80)) s.heap H locs) (hl : lv_has ls 10 [(0, .ref (z + 80 + 0)), (1, .int v1), (2, .int v2), (3, .int v3), (5, .int v5), (6, .int v6), (7, .int v7)]) (h : f_X9_take_b47 v1 v2 v3 n σ v5 v6 v7 = some (r, σf)), W p l e (rma K 0 0) s m args below meth c H locs 0 0 (MQ below (QV D (Er ac (z + 80)) inR (z + 80) (some (.int r)) σf (Ar (z + 80))) args s 0 0 (Ar (z + 80))) (F0 m 47 ls []) := by
  have hx := C.1.1
  have hb := C.1.2.1
  intro n
  induction n with
  | zero =>
    intro σ v5 v6 v7 H locs ls  hW hS hl h
    cases h
  | succ n ih =>
    intro σ v5 v6 v7 H locs ls  hW hS hl h
    rw [f_X9_take_b47.eq_2] at h
    refine lv_iload (pc := 47) hx hb dX9_take_47 (lv_at hl 6 rfl) ?_
    refine lv_iconst (pc := 49) (v := 1) hx hb dX9_take_49 (by decide) ?_
    refine lv_aload_n (pc := 50) hx hb dX9_take_50 rfl (lv_at hl 0 rfl) ?_
    refine gf_X9_20 (pc := 51) C hW fl_X9_37 dX9_take_51 ?_
    refine lv_iload_n (pc := 54) hx hb dX9_take_54 rfl (lv_at hl 1 rfl) ?_
    obtain ⟨hc5, h⟩ := o_chk h
    refine ir_ld (pc := 55) (k := 10) C hW (by decide) (by decide) rfl rfl (inb_in hc5) dX9_take_55 ?_
    refine lv_iconst (pc := 56) (v := 2) hx hb dX9_take_56 (by decide) ?_
    refine lv_idiv (pc := 57) hx hb dX9_take_57 (by decide) ?_
    refine lv_ishl (pc := 58) hx hb dX9_take_58 ?_
    refine lv_icmp_ge (pc := 59) (tgt := 166) hx hb dX9_take_59 (by decide) (fun hc6 => ?_) (fun hc6 => ?_)
    · replace h := o_pos hc6 h
      exact w_X9_take_b166 C hK σ v3 v5 v6 hW hS (lv_sub hl [3, 4, 5] rfl) h
    · replace h := o_neg hc6 h
      refine lv_aload_n (pc := 62) hx hb dX9_take_62 rfl (lv_at hl 0 rfl) ?_
      refine gf_X9_3 (pc := 63) C hW fl_X9_16 dX9_take_63 ?_
      refine lv_iconst (pc := 66) (v := 4) hx hb dX9_take_66 (by decide) ?_
      refine lv_iload_n (pc := 67) hx hb dX9_take_67 rfl (lv_at hl 2 rfl) ?_
      refine lv_imul (pc := 68) hx hb dX9_take_68 ?_
      refine lv_iconst (pc := 69) (v := 3) hx hb dX9_take_69 (by decide) ?_
      refine lv_iadd (pc := 70) hx hb dX9_take_70 ?_
      obtain ⟨hc7, h⟩ := o_chk h
      refine ir_ld (pc := 71) (k := 3) C hW (by decide) (by decide) rfl rfl (inb_in hc7) dX9_take_71 ?_
      refine lv_if_ne (pc := 72) (tgt := 166) hx hb dX9_take_72 (by decide) (fun hc8 => ?_) (fun hc8 => ?_)
      · replace h := o_neg hc8 h
        exact w_X9_take_b166 C hK σ v3 v5 v6 hW hS (lv_sub hl [3, 4, 5] rfl) h
      · replace h := o_pos hc8 h
        refine lv_iconst (pc := 75) (v := 0) hx hb dX9_take_75 (by decide) ?_
        refine lv_istore (pc := 76) (lv' := [(8, .int (0 : Int32)), (0, .ref (z + 80 + 0)), (1, .int v1), (2, .int v2), (3, .int v3), (5, .int v5), (6, .int v6), (7, .int v7)]) hx hb dX9_take_76 hl (by decide) rfl (fun ls hl => ?_)
        refine lv_iconst (pc := 78) (v := 0) hx hb dX9_take_78 (by decide) ?_
        refine lv_istore (pc := 79) (lv' := [(9, .int (0 : Int32)), (8, .int (0 : Int32)), (0, .ref (z + 80 + 0)), (1, .int v1), (2, .int v2), (3, .int v3), (5, .int v5), (6, .int v6), (7, .int v7)]) hx hb dX9_take_79 hl (by decide) rfl (fun ls hl => ?_)
        exact w_X9_take_b81 C hK v1 v2 v3 v5 v6 v7 (f_X9_take_b47 v1 v2 v3 n) (fun σ v5 v6 v7 {H : Heap} {locs : List Loc} {ls : Array Slot}  hW hS hl h => ih σ v5 v6 v7 hW hS hl h) FU σ (0 : Int32) (0 : Int32) hW hS (lv_sub hl [2, 3, 4, 5, 6, 7, 8, 1, 0] rfl) h

theorem c_X9_take {K : Nat}  (hK : 6 ≤ K) {σ : Mem} {σf : Mem} {v1 : Int32} {v2 : Int32} {v3 : Int32} {r : Int32} (h : f_X9_take σ v1 v2 v3 = some (r, σf)) : MC l D (Er ac (z + 80)) inR (z + 80) ac (z, aK, aV) (Ar (z + 80)) yX9_take cX9_take 10 (some .int) K [.ref (z + 80 + 0), .int v1, .int v2, .int v3] σ (some (.int r)) σf := by
  refine MC.of (fun q hq => by have := hq.1; show z ≤ q; omega) (plainFor_of_name (by decide)) (Nat.le_of_ble_eq_true rfl) ?_
  intro p e s m below meth c args C hW ls hl
  replace hl : lv_has ls 10 [(0, .ref (z + 80 + 0)), (1, .int v1), (2, .int v2), (3, .int v3)] := hl
  have hS : va_S (Ar (z + 80)) s.heap s.heap [] := va_S.rf
  have hx := C.1.1
  have hb := C.1.2.1
  unfold f_X9_take at h
  refine lv_aload_n (pc := 0) hx hb dX9_take_0 rfl (lv_at hl 0 rfl) ?_
  refine lv_iload_n (pc := 1) hx hb dX9_take_1 rfl (lv_at hl 1 rfl) ?_
  obtain ⟨r2, hc0, h⟩ := o_b h
  refine g_virt (pc := 2) (st2 := [.int r2]) (rest := []) C hW hS (c_X9_offersWrong (K := K - 1) (by omega) hc0) mw_X9_243 inR0 Er_0 rfl (hRoom (by omega) (by decide)) rfl rfl rfl (Nat.le_of_ble_eq_true rfl) hl.1 dX9_take_2 (fun H locs hW hS => ?_)
  refine lv_istore (pc := 5) (lv' := [(4, .int r2), (0, .ref (z + 80 + 0)), (1, .int v1), (2, .int v2), (3, .int v3)]) hx hb dX9_take_5 hl (by decide) rfl (fun ls hl => ?_)
  refine lv_iload (pc := 7) hx hb dX9_take_7 (lv_at hl 0 rfl) ?_
  refine lv_if_eq (pc := 9) (tgt := 15) hx hb dX9_take_9 (by decide) (fun hc2 => ?_) (fun hc2 => ?_)
  · replace h := o_pos hc2 h
    refine lv_aload_n (pc := 15) hx hb dX9_take_15 rfl (lv_at hl 1 rfl) ?_
    refine lv_iload_n (pc := 16) hx hb dX9_take_16 rfl (lv_at hl 3 rfl) ?_
    refine g_virt (pc := 17) (st2 := [.int (f_X9_isMan σ v2)]) (rest := []) C hW hS (c_X9_isMan (K := K - 1) (by omega) rfl) mw_X9_176 inR0 Er_0 rfl (hRoom (by omega) (by decide)) rfl rfl rfl (Nat.le_of_ble_eq_true rfl) hl.1 dX9_take_17 (fun H locs hW hS => ?_)
    refine lv_if_ne (pc := 20) (tgt := 26) hx hb dX9_take_20 (by decide) (fun hc3 => ?_) (fun hc3 => ?_)
    · replace h := o_neg hc3 h
      refine lv_iload_n (pc := 26) hx hb dX9_take_26 rfl (lv_at hl 4 rfl) ?_
      refine lv_iconst (pc := 27) (v := 0) hx hb dX9_take_27 (by decide) ?_
      refine lv_iconst (pc := 28) (v := 1) hx hb dX9_take_28 (by decide) ?_
      refine g_stat (pc := 29) (st2 := [.int (f_X9_in v3 (0 : Int32) (1 : Int32))]) (rest := []) C hW hS (c_X9_in (K := K - 1) (by omega) rfl) mw_X9_84 (hRoom (by omega) (by decide)) rfl rfl rfl (Nat.le_of_ble_eq_true rfl) hl.1 dX9_take_29 (fun H locs hW hS => ?_)
      refine lv_if_ne (pc := 32) (tgt := 38) hx hb dX9_take_32 (by decide) (fun hc4 => ?_) (fun hc4 => ?_)
      · replace h := o_neg hc4 h
        refine lv_iconst (pc := 38) (v := 0) hx hb dX9_take_38 (by decide) ?_
        refine lv_istore (pc := 39) (lv' := [(5, .int (0 : Int32)), (4, .int r2), (0, .ref (z + 80 + 0)), (1, .int v1), (2, .int v2), (3, .int v3)]) hx hb dX9_take_39 hl (by decide) rfl (fun ls hl => ?_)
        refine lv_iconst (pc := 41) (v := 0) hx hb dX9_take_41 (by decide) ?_
        refine lv_istore (pc := 42) (lv' := [(6, .int (0 : Int32)), (5, .int (0 : Int32)), (4, .int r2), (0, .ref (z + 80 + 0)), (1, .int v1), (2, .int v2), (3, .int v3)]) hx hb dX9_take_42 hl (by decide) rfl (fun ls hl => ?_)
        refine lv_iconst (pc := 44) (v := 1) hx hb dX9_take_44 (by decide) ?_
        refine lv_istore (pc := 45) (lv' := [(7, .int (1 : Int32)), (6, .int (0 : Int32)), (5, .int (0 : Int32)), (4, .int r2), (0, .ref (z + 80 + 0)), (1, .int v1), (2, .int v2), (3, .int v3)]) hx hb dX9_take_45 hl (by decide) rfl (fun ls hl => ?_)
        exact w_X9_take_b47 C hK v1 v2 v3 FU σ (0 : Int32) (0 : Int32) (1 : Int32) hW hS (lv_sub hl [4, 5, 6, 7, 2, 1, 0] rfl) h
      · replace h := o_pos hc4 h
        refine lv_bipush (pc := 35) (v := -7) hx hb dX9_take_35 (by decide) ?_
        exact g_ret (pc := 37) C hW hS rfl dX9_take_37 (congrArg (fun q => some (Value.int q)) (o_r h).1) (o_r h).2
    · replace h := o_pos hc3 h
      refine lv_bipush (pc := 23) (v := -5) hx hb dX9_take_23 (by decide) ?_
      exact g_ret (pc := 25) C hW hS rfl dX9_take_25 (congrArg (fun q => some (Value.int q)) (o_r h).1) (o_r h).2
  · replace h := o_neg hc2 h
    refine lv_iload (pc := 12) hx hb dX9_take_12 (lv_at hl 0 rfl) ?_
    exact g_ret (pc := 14) C hW hS rfl dX9_take_14 (congrArg (fun q => some (Value.int q)) (o_r h).1) (o_r h).2

theorem w_X9_canBe_b52 (C : CX cX9_canBe 4 RX9 (some .boolean) D ac p m c s args meth (z, aK, aV) (Ar (z + 80))) (hK : 1 ≤ K) {r : Int32}   (σ : Mem) (v1 : Int32) (v2 : Int32)  : ∀ (n : Nat) (v3 : Int32) {H : Heap} {locs : List Loc} {ls : Array Slot} (hW : WR D ac (z + 80) σ H) (hS : va_S (Ar (z + 80)) s.heap H locs) (hl : lv_has ls 4 [(0, .ref (z + 80 + 0)), (1, .int v1), (2, .int v2), (3, .int v3)]) (h : f_X9_canBe_b52 σ v1 v2 n v3 = some r), W p l e (rma K 0 0) s m args below meth c H locs 0 0 (MQ below (QV D (Er ac (z + 80)) inR (z + 80) (some (.int r)) σ (Ar (z + 80))) args s 0 0 (Ar (z + 80))) (F0 m 52 ls []) := by
  have hx := C.1.1
  have hb := C.1.2.1
  intro n
  induction n with
  | zero =>
    intro v3 H locs ls  hW hS hl h
    cases h
  | succ n ih =>
    intro v3 H locs ls  hW hS hl h
    rw [f_X9_canBe_b52.eq_2] at h
    refine lv_iload_n (pc := 52) hx hb dX9_canBe_52 rfl (lv_at hl 3 rfl) ?_
    refine lv_iload_n (pc := 53) hx hb dX9_canBe_53 rfl (lv_at hl 2 rfl) ?_
    refine lv_icmp_ge (pc := 54) (tgt := 93) hx hb dX9_canBe_54 (by decide) (fun hc8 => ?_) (fun hc8 => ?_)
    · replace h := o_pos hc8 h
      refine lv_iconst (pc := 93) (v := 1) hx hb dX9_canBe_93 (by decide) ?_
      exact g_ret (pc := 94) C hW hS rfl dX9_canBe_94 (congrArg (fun q => some (Value.int q)) (Option.some.inj h).symm) rfl
    · replace h := o_neg hc8 h
      refine lv_aload_n (pc := 57) hx hb dX9_canBe_57 rfl (lv_at hl 0 rfl) ?_
      refine gf_X9_5 (pc := 58) C hW fl_X9_19 dX9_canBe_58 ?_
      refine lv_bipush (pc := 61) (v := 6) hx hb dX9_canBe_61 (by decide) ?_
      refine lv_aload_n (pc := 63) hx hb dX9_canBe_63 rfl (lv_at hl 0 rfl) ?_
      refine gf_X9_42 (pc := 64) C hW fl_X9_64 dX9_canBe_64 ?_
      refine lv_iload_n (pc := 67) hx hb dX9_canBe_67 rfl (lv_at hl 3 rfl) ?_
      obtain ⟨hc9, h⟩ := o_chk h
      refine ir_ld (pc := 68) (k := 19) C hW (by decide) (by decide) rfl rfl (inb_in hc9) dX9_canBe_68 ?_
      refine lv_imul (pc := 69) hx hb dX9_canBe_69 ?_
      obtain ⟨hc10, h⟩ := o_chk h
      refine ir_ld (pc := 70) (k := 4) C hW (by decide) (by decide) rfl rfl (inb_in hc10) dX9_canBe_70 ?_
      refine lv_aload_n (pc := 71) hx hb dX9_canBe_71 rfl (lv_at hl 0 rfl) ?_
      refine gf_X9_5 (pc := 72) C hW fl_X9_19 dX9_canBe_72 ?_
      refine lv_bipush (pc := 75) (v := 6) hx hb dX9_canBe_75 (by decide) ?_
      refine lv_iload_n (pc := 77) hx hb dX9_canBe_77 rfl (lv_at hl 1 rfl) ?_
      refine lv_imul (pc := 78) hx hb dX9_canBe_78 ?_
      refine lv_iconst (pc := 79) (v := 1) hx hb dX9_canBe_79 (by decide) ?_
      refine lv_iadd (pc := 80) hx hb dX9_canBe_80 ?_
      obtain ⟨hc11, h⟩ := o_chk h
      refine ir_ld (pc := 81) (k := 4) C hW (by decide) (by decide) rfl rfl (inb_in hc11) dX9_canBe_81 ?_
      refine lv_icmp_ne (pc := 82) (tgt := 87) hx hb dX9_canBe_82 (by decide) (fun hc12 => ?_) (fun hc12 => ?_)
      · replace h := o_neg hc12 h
        refine lv_iinc (pc := 87) (v := (v3 + 1)) (lv' := [(3, .int (v3 + 1)), (0, .ref (z + 80 + 0)), (1, .int v1), (2, .int v2)]) hx hb dX9_canBe_87 hl (k := 3) rfl rfl (by decide) rfl (fun ls hl => ?_)
        refine lv_goto (pc := 90) (tgt := 52) hx hb dX9_canBe_90 (by decide) ?_
        exact ih (v3 + 1) hW hS (lv_sub hl [1, 2, 3, 0] rfl) h
      · replace h := o_pos hc12 h
        refine lv_iconst (pc := 85) (v := 0) hx hb dX9_canBe_85 (by decide) ?_
        exact g_ret (pc := 86) C hW hS rfl dX9_canBe_86 (congrArg (fun q => some (Value.int q)) (Option.some.inj h).symm) rfl

theorem w_X9_canBe_b50 (C : CX cX9_canBe 4 RX9 (some .boolean) D ac p m c s args meth (z, aK, aV) (Ar (z + 80))) (hK : 1 ≤ K) {r : Int32}   (σ : Mem) (v1 : Int32) (v2 : Int32)  {H : Heap} {locs : List Loc} {ls : Array Slot} (hW : WR D ac (z + 80) σ H) (hS : va_S (Ar (z + 80)) s.heap H locs) (hl : lv_has ls 4 [(0, .ref (z + 80 + 0)), (1, .int v1), (2, .int v2)]) (h : f_X9_canBe_b50 σ v1 v2 = some r) : W p l e (rma K 0 0) s m args below meth c H locs 0 0 (MQ below (QV D (Er ac (z + 80)) inR (z + 80) (some (.int r)) σ (Ar (z + 80))) args s 0 0 (Ar (z + 80))) (F0 m 50 ls []) := by
  have hx := C.1.1
  have hb := C.1.2.1
  unfold f_X9_canBe_b50 at h
  refine lv_iconst (pc := 50) (v := 1) hx hb dX9_canBe_50 (by decide) ?_
  refine lv_istore_n (pc := 51) (lv' := [(3, .int (1 : Int32)), (0, .ref (z + 80 + 0)), (1, .int v1), (2, .int v2)]) hx hb dX9_canBe_51 rfl hl (by decide) rfl (fun ls hl => ?_)
  exact w_X9_canBe_b52 C hK σ v1 v2 FU (1 : Int32) hW hS (lv_sub hl [1, 2, 3, 0] rfl) h

theorem c_X9_canBe {K : Nat}  (hK : 1 ≤ K) {σ : Mem} {v1 : Int32} {v2 : Int32} {r : Int32} (h : f_X9_canBe σ v1 v2 = some r) : MC l D (Er ac (z + 80)) inR (z + 80) ac (z, aK, aV) (Ar (z + 80)) yX9_canBe cX9_canBe 4 (some .boolean) K [.ref (z + 80 + 0), .int v1, .int v2] σ (some (.int r)) σ := by
  refine MC.of (fun q hq => by have := hq.1; show z ≤ q; omega) (plainFor_of_name (by decide)) (Nat.le_of_ble_eq_true rfl) ?_
  intro p e s m below meth c args C hW ls hl
  replace hl : lv_has ls 4 [(0, .ref (z + 80 + 0)), (1, .int v1), (2, .int v2)] := hl
  have hS : va_S (Ar (z + 80)) s.heap s.heap [] := va_S.rf
  have hx := C.1.1
  have hb := C.1.2.1
  unfold f_X9_canBe at h
  refine lv_aload_n (pc := 0) hx hb dX9_canBe_0 rfl (lv_at hl 0 rfl) ?_
  refine lv_iload_n (pc := 1) hx hb dX9_canBe_1 rfl (lv_at hl 1 rfl) ?_
  obtain ⟨r2, hc0, h⟩ := o_b h
  refine g_virt (pc := 2) (st2 := [.int r2]) (rest := []) C hW hS (c_X9_stands (K := K - 1) (by omega) hc0) mw_X9_164 inR0 Er_0 rfl (hRoom (by omega) (by decide)) rfl rfl rfl (Nat.le_of_ble_eq_true rfl) hl.1 dX9_canBe_2 (fun H locs hW hS => ?_)
  refine lv_if_eq (pc := 5) (tgt := 48) hx hb dX9_canBe_5 (by decide) (fun hc2 => ?_) (fun hc2 => ?_)
  · replace h := o_pos hc2 h
    refine lv_iconst (pc := 48) (v := 0) hx hb dX9_canBe_48 (by decide) ?_
    exact g_ret (pc := 49) C hW hS rfl dX9_canBe_49 (congrArg (fun q => some (Value.int q)) (Option.some.inj h).symm) rfl
  · replace h := o_neg hc2 h
    refine lv_iload_n (pc := 8) hx hb dX9_canBe_8 rfl (lv_at hl 2 rfl) ?_
    refine lv_if_le (pc := 9) (tgt := 50) hx hb dX9_canBe_9 (by decide) (fun hc3 => ?_) (fun hc3 => ?_)
    · replace h := o_pos hc3 h
      exact w_X9_canBe_b50 C hK σ v1 v2 hW hS (lv_sub hl [0, 1, 2] rfl) h
    · replace h := o_neg hc3 h
      refine lv_aload_n (pc := 12) hx hb dX9_canBe_12 rfl (lv_at hl 0 rfl) ?_
      refine gf_X9_5 (pc := 13) C hW fl_X9_19 dX9_canBe_13 ?_
      refine lv_bipush (pc := 16) (v := 6) hx hb dX9_canBe_16 (by decide) ?_
      refine lv_iload_n (pc := 18) hx hb dX9_canBe_18 rfl (lv_at hl 1 rfl) ?_
      refine lv_imul (pc := 19) hx hb dX9_canBe_19 ?_
      obtain ⟨hc4, h⟩ := o_chk h
      refine ir_ld (pc := 20) (k := 4) C hW (by decide) (by decide) rfl rfl (inb_in hc4) dX9_canBe_20 ?_
      refine lv_aload_n (pc := 21) hx hb dX9_canBe_21 rfl (lv_at hl 0 rfl) ?_
      refine gf_X9_5 (pc := 22) C hW fl_X9_19 dX9_canBe_22 ?_
      refine lv_bipush (pc := 25) (v := 6) hx hb dX9_canBe_25 (by decide) ?_
      refine lv_aload_n (pc := 27) hx hb dX9_canBe_27 rfl (lv_at hl 0 rfl) ?_
      refine gf_X9_42 (pc := 28) C hW fl_X9_64 dX9_canBe_28 ?_
      refine lv_iload_n (pc := 31) hx hb dX9_canBe_31 rfl (lv_at hl 2 rfl) ?_
      refine lv_iconst (pc := 32) (v := 1) hx hb dX9_canBe_32 (by decide) ?_
      refine lv_isub (pc := 33) hx hb dX9_canBe_33 ?_
      refine lv_iconst (pc := 34) (v := 0) hx hb dX9_canBe_34 (by decide) ?_
      refine lv_bipush (pc := 35) (v := 7) hx hb dX9_canBe_35 (by decide) ?_
      refine g_stat (pc := 37) (st2 := [.int (f_X9_within (v2 - (1 : Int32)) (0 : Int32) (7 : Int32)), .ref (z + 80 + 19), .int (6 : Int32), .ref (z + 80 + 4), .int (σ 4 (((6 : Int32) * v1).toNatClampNeg))]) (rest := [.ref (z + 80 + 19), .int (6 : Int32), .ref (z + 80 + 4), .int (σ 4 (((6 : Int32) * v1).toNatClampNeg))]) C hW hS (c_X9_within (K := K - 1) (by omega) rfl) mw_X9_173 (hRoom (by omega) (by decide)) rfl rfl rfl (Nat.le_of_ble_eq_true rfl) hl.1 dX9_canBe_37 (fun H locs hW hS => ?_)
      obtain ⟨hc5, h⟩ := o_chk h
      refine ir_ld (pc := 40) (k := 19) C hW (by decide) (by decide) rfl rfl (inb_in hc5) dX9_canBe_40 ?_
      refine lv_imul (pc := 41) hx hb dX9_canBe_41 ?_
      refine lv_iconst (pc := 42) (v := 1) hx hb dX9_canBe_42 (by decide) ?_
      refine lv_iadd (pc := 43) hx hb dX9_canBe_43 ?_
      obtain ⟨hc6, h⟩ := o_chk h
      refine ir_ld (pc := 44) (k := 4) C hW (by decide) (by decide) rfl rfl (inb_in hc6) dX9_canBe_44 ?_
      refine lv_icmp_eq (pc := 45) (tgt := 50) hx hb dX9_canBe_45 (by decide) (fun hc7 => ?_) (fun hc7 => ?_)
      · replace h := o_pos hc7 h
        exact w_X9_canBe_b50 C hK σ v1 v2 hW hS (lv_sub hl [0, 1, 2] rfl) h
      · replace h := o_neg hc7 h
        refine lv_iconst (pc := 48) (v := 0) hx hb dX9_canBe_48 (by decide) ?_
        exact g_ret (pc := 49) C hW hS rfl dX9_canBe_49 (congrArg (fun q => some (Value.int q)) (Option.some.inj h).symm) rfl

theorem c_X9_closes {K : Nat}  (hK : 0 ≤ K) {σ : Mem} {v1 : Int32} {r : Int32} (h : f_X9_closes σ v1 = some r) : MC l D (Er ac (z + 80)) inR (z + 80) ac (z, aK, aV) (Ar (z + 80)) yX9_closes cX9_closes 2 (some .boolean) K [.ref (z + 80 + 0), .int v1] σ (some (.int r)) σ := by
  refine MC.of (fun q hq => by have := hq.1; show z ≤ q; omega) (plainFor_of_name (by decide)) (Nat.le_of_ble_eq_true rfl) ?_
  intro p e s m below meth c args C hW ls hl
  replace hl : lv_has ls 2 [(0, .ref (z + 80 + 0)), (1, .int v1)] := hl
  have hS : va_S (Ar (z + 80)) s.heap s.heap [] := va_S.rf
  have hx := C.1.1
  have hb := C.1.2.1
  unfold f_X9_closes at h
  refine lv_iload_n (pc := 0) hx hb dX9_closes_0 rfl (lv_at hl 1 rfl) ?_
  refine lv_if_le (pc := 1) (tgt := 41) hx hb dX9_closes_1 (by decide) (fun hc0 => ?_) (fun hc0 => ?_)
  · replace h := o_pos hc0 h
    refine lv_iconst (pc := 41) (v := 0) hx hb dX9_closes_41 (by decide) ?_
    exact g_ret (pc := 42) C hW hS rfl dX9_closes_42 (congrArg (fun q => some (Value.int q)) (Option.some.inj h).symm) rfl
  · replace h := o_neg hc0 h
    refine lv_aload_n (pc := 4) hx hb dX9_closes_4 rfl (lv_at hl 0 rfl) ?_
    refine gf_X9_5 (pc := 5) C hW fl_X9_19 dX9_closes_5 ?_
    refine lv_bipush (pc := 8) (v := 6) hx hb dX9_closes_8 (by decide) ?_
    refine lv_aload_n (pc := 10) hx hb dX9_closes_10 rfl (lv_at hl 0 rfl) ?_
    refine gf_X9_42 (pc := 11) C hW fl_X9_64 dX9_closes_11 ?_
    refine lv_iload_n (pc := 14) hx hb dX9_closes_14 rfl (lv_at hl 1 rfl) ?_
    obtain ⟨hc1, h⟩ := o_chk h
    refine ir_ld (pc := 15) (k := 19) C hW (by decide) (by decide) rfl rfl (inb_in hc1) dX9_closes_15 ?_
    refine lv_imul (pc := 16) hx hb dX9_closes_16 ?_
    refine lv_iconst (pc := 17) (v := 1) hx hb dX9_closes_17 (by decide) ?_
    refine lv_iadd (pc := 18) hx hb dX9_closes_18 ?_
    obtain ⟨hc2, h⟩ := o_chk h
    refine ir_ld (pc := 19) (k := 4) C hW (by decide) (by decide) rfl rfl (inb_in hc2) dX9_closes_19 ?_
    refine lv_aload_n (pc := 20) hx hb dX9_closes_20 rfl (lv_at hl 0 rfl) ?_
    refine gf_X9_5 (pc := 21) C hW fl_X9_19 dX9_closes_21 ?_
    refine lv_bipush (pc := 24) (v := 6) hx hb dX9_closes_24 (by decide) ?_
    refine lv_aload_n (pc := 26) hx hb dX9_closes_26 rfl (lv_at hl 0 rfl) ?_
    refine gf_X9_42 (pc := 27) C hW fl_X9_64 dX9_closes_27 ?_
    refine lv_iconst (pc := 30) (v := 0) hx hb dX9_closes_30 (by decide) ?_
    refine ir_ld (pc := 31) (k := 19) C hW (by decide) (by decide) rfl (j := 0) (by decide) (inb_in (by decide)) dX9_closes_31 ?_
    refine lv_imul (pc := 32) hx hb dX9_closes_32 ?_
    obtain ⟨hc3, h⟩ := o_chk h
    refine ir_ld (pc := 33) (k := 4) C hW (by decide) (by decide) rfl rfl (inb_in hc3) dX9_closes_33 ?_
    refine lv_icmp_ne (pc := 34) (tgt := 41) hx hb dX9_closes_34 (by decide) (fun hc4 => ?_) (fun hc4 => ?_)
    · replace h := o_neg hc4 h
      refine lv_iconst (pc := 41) (v := 0) hx hb dX9_closes_41 (by decide) ?_
      exact g_ret (pc := 42) C hW hS rfl dX9_closes_42 (congrArg (fun q => some (Value.int q)) (Option.some.inj h).symm) rfl
    · replace h := o_pos hc4 h
      refine lv_iconst (pc := 37) (v := 1) hx hb dX9_closes_37 (by decide) ?_
      refine lv_goto (pc := 38) (tgt := 42) hx hb dX9_closes_38 (by decide) ?_
      exact g_ret (pc := 42) C hW hS rfl dX9_closes_42 (congrArg (fun q => some (Value.int q)) (Option.some.inj h).symm) rfl

theorem w_X9_findsRing_b93 (C : CX cX9_findsRing 3 RX9 (some .boolean) D ac p m c s args meth (z, aK, aV) (Ar (z + 80))) (hK : 2 ≤ K) {r : Int32} {σf : Mem}   (σ : Mem) (v1 : Int32) (s9 : Mem → Int32 → Option (Int32 × Mem)) (hs9 : ∀ (σ : Mem) (v1 : Int32) {H : Heap} {locs : List Loc} {ls : Array Slot} (_ : WR D ac (z + 80) σ H) (_ : va_S (Ar (z + 80)) s.heap H locs) (_ : lv_has ls 3 [(0, .ref (z + 80 + 0)), (1, .int v1)]) (_ : s9 σ v1 = some (r, σf)), W p l e (rma K 0 0) s m args below meth c H locs 0 0 (MQ below (QV D (Er ac (z + 80)) inR (z + 80) (some (.int r)) σf (Ar (z + 80))) args s 0 0 (Ar (z + 80))) (F0 m 9 ls [])) {H : Heap} {locs : List Loc} {ls : Array Slot} (hW : WR D ac (z + 80) σ H) (hS : va_S (Ar (z + 80)) s.heap H locs) (hl : lv_has ls 3 [(0, .ref (z + 80 + 0)), (1, .int v1)]) (h : f_X9_findsRing_b93 s9 σ v1 = some (r, σf)) : W p l e (rma K 0 0) s m args below meth c H locs 0 0 (MQ below (QV D (Er ac (z + 80)) inR (z + 80) (some (.int r)) σf (Ar (z + 80))) args s 0 0 (Ar (z + 80))) (F0 m 93 ls []) := by
  have hx := C.1.1
  have hb := C.1.2.1
  unfold f_X9_findsRing_b93 at h
  refine lv_goto (pc := 93) (tgt := 9) hx hb dX9_findsRing_93 (by decide) ?_
  exact hs9 σ v1 hW hS (lv_sub hl [0, 1] rfl) h

theorem w_X9_findsRing_b45 (C : CX cX9_findsRing 3 RX9 (some .boolean) D ac p m c s args meth (z, aK, aV) (Ar (z + 80))) (hK : 2 ≤ K) {r : Int32} {σf : Mem}   (σ : Mem) (v1 : Int32) (v2 : Int32) (s9 : Mem → Int32 → Option (Int32 × Mem)) (hs9 : ∀ (σ : Mem) (v1 : Int32) {H : Heap} {locs : List Loc} {ls : Array Slot} (_ : WR D ac (z + 80) σ H) (_ : va_S (Ar (z + 80)) s.heap H locs) (_ : lv_has ls 3 [(0, .ref (z + 80 + 0)), (1, .int v1)]) (_ : s9 σ v1 = some (r, σf)), W p l e (rma K 0 0) s m args below meth c H locs 0 0 (MQ below (QV D (Er ac (z + 80)) inR (z + 80) (some (.int r)) σf (Ar (z + 80))) args s 0 0 (Ar (z + 80))) (F0 m 9 ls [])) {H : Heap} {locs : List Loc} {ls : Array Slot} (hW : WR D ac (z + 80) σ H) (hS : va_S (Ar (z + 80)) s.heap H locs) (hl : lv_has ls 3 [(0, .ref (z + 80 + 0)), (1, .int v1), (2, .int v2)]) (h : f_X9_findsRing_b45 s9 σ v1 v2 = some (r, σf)) : W p l e (rma K 0 0) s m args below meth c H locs 0 0 (MQ below (QV D (Er ac (z + 80)) inR (z + 80) (some (.int r)) σf (Ar (z + 80))) args s 0 0 (Ar (z + 80))) (F0 m 45 ls []) := by
  have hx := C.1.1
  have hb := C.1.2.1
  unfold f_X9_findsRing_b45 at h
  refine lv_iload_n (pc := 45) hx hb dX9_findsRing_45 rfl (lv_at hl 2 rfl) ?_
  refine lv_aload_n (pc := 46) hx hb dX9_findsRing_46 rfl (lv_at hl 0 rfl) ?_
  refine gf_X9_4 (pc := 47) C hW fl_X9_88 dX9_findsRing_47 ?_
  refine lv_icmp_ne (pc := 50) (tgt := 59) hx hb dX9_findsRing_50 (by decide) (fun hc7 => ?_) (fun hc7 => ?_)
  · replace h := o_neg hc7 h
    refine lv_aload_n (pc := 59) hx hb dX9_findsRing_59 rfl (lv_at hl 0 rfl) ?_
    refine gf_X9_42 (pc := 60) C hW fl_X9_64 dX9_findsRing_60 ?_
    refine lv_iload_n (pc := 63) hx hb dX9_findsRing_63 rfl (lv_at hl 1 rfl) ?_
    refine lv_iload_n (pc := 64) hx hb dX9_findsRing_64 rfl (lv_at hl 2 rfl) ?_
    obtain ⟨hc8, h⟩ := o_chk h
    refine ir_st (pc := 65) (k := 19) C hW hS (by decide) (by decide) rfl rfl (inb_in hc8) dX9_findsRing_65 (fun H locs hW hS => ?_)
    refine lv_aload_n (pc := 66) hx hb dX9_findsRing_66 rfl (lv_at hl 0 rfl) ?_
    refine lv_iload_n (pc := 67) hx hb dX9_findsRing_67 rfl (lv_at hl 1 rfl) ?_
    obtain ⟨r11, hc9, h⟩ := o_b h
    refine g_virt (pc := 68) (st2 := [.int r11]) (rest := []) C hW hS (c_X9_closes (K := K - 1) (by omega) hc9) mw_X9_253 inR0 Er_0 rfl (hRoom (by omega) (by decide)) rfl rfl rfl (Nat.le_of_ble_eq_true rfl) hl.1 dX9_findsRing_68 (fun H locs hW hS => ?_)
    refine lv_if_eq (pc := 71) (tgt := 83) hx hb dX9_findsRing_71 (by decide) (fun hc11 => ?_) (fun hc11 => ?_)
    · replace h := o_pos hc11 h
      refine lv_iinc (pc := 83) (v := (v1 + 1)) (lv' := [(1, .int (v1 + 1)), (0, .ref (z + 80 + 0)), (2, .int v2)]) hx hb dX9_findsRing_83 hl (k := 1) rfl rfl (by decide) rfl (fun ls hl => ?_)
      refine lv_aload_n (pc := 86) hx hb dX9_findsRing_86 rfl (lv_at hl 1 rfl) ?_
      refine gf_X9_42 (pc := 87) C hW fl_X9_64 dX9_findsRing_87 ?_
      refine lv_iload_n (pc := 90) hx hb dX9_findsRing_90 rfl (lv_at hl 0 rfl) ?_
      refine lv_iconst (pc := 91) (v := -1) hx hb dX9_findsRing_91 (by decide) ?_
      obtain ⟨hc12, h⟩ := o_chk h
      refine ir_st (pc := 92) (k := 19) C hW hS (by decide) (by decide) rfl rfl (inb_in hc12) dX9_findsRing_92 (fun H locs hW hS => ?_)
      obtain ⟨σ14, hσ14, h⟩ := o_d h
      replace hW : WR D ac (z + 80) σ14 H := by rw [← hσ14]; exact hW
      exact w_X9_findsRing_b93 C hK σ14 (v1 + 1) s9 hs9 hW hS (lv_sub hl [1, 0] rfl) h
    · replace h := o_neg hc11 h
      refine lv_aload_n (pc := 74) hx hb dX9_findsRing_74 rfl (lv_at hl 0 rfl) ?_
      refine lv_iload_n (pc := 75) hx hb dX9_findsRing_75 rfl (lv_at hl 1 rfl) ?_
      refine lv_iconst (pc := 76) (v := 1) hx hb dX9_findsRing_76 (by decide) ?_
      refine lv_iadd (pc := 77) hx hb dX9_findsRing_77 ?_
      refine pf_X9_43 (pc := 78) C hW hS fl_X9_256 dX9_findsRing_78 (fun H locs hW hS => ?_)
      obtain ⟨σ15, hσ15, h⟩ := o_d h
      replace hW : WR D ac (z + 80) σ15 H := by rw [← hσ15]; exact hW
      refine lv_iconst (pc := 81) (v := 1) hx hb dX9_findsRing_81 (by decide) ?_
      exact g_ret (pc := 82) C hW hS rfl dX9_findsRing_82 (congrArg (fun q => some (Value.int q)) (o_r h).1) (o_r h).2
  · replace h := o_pos hc7 h
    refine lv_iinc (pc := 53) (v := (v1 + (-1))) (lv' := [(1, .int (v1 + (-1))), (0, .ref (z + 80 + 0)), (2, .int v2)]) hx hb dX9_findsRing_53 hl (k := 1) rfl rfl (by decide) rfl (fun ls hl => ?_)
    refine lv_goto (pc := 56) (tgt := 93) hx hb dX9_findsRing_56 (by decide) ?_
    exact w_X9_findsRing_b93 C hK σ (v1 + (-1)) s9 hs9 hW hS (lv_sub hl [1, 0] rfl) h

theorem w_X9_findsRing_b22 (C : CX cX9_findsRing 3 RX9 (some .boolean) D ac p m c s args meth (z, aK, aV) (Ar (z + 80))) (hK : 2 ≤ K) {r : Int32} {σf : Mem}   (v1 : Int32) (s9 : Mem → Int32 → Option (Int32 × Mem)) (hs9 : ∀ (σ : Mem) (v1 : Int32) {H : Heap} {locs : List Loc} {ls : Array Slot} (_ : WR D ac (z + 80) σ H) (_ : va_S (Ar (z + 80)) s.heap H locs) (_ : lv_has ls 3 [(0, .ref (z + 80 + 0)), (1, .int v1)]) (_ : s9 σ v1 = some (r, σf)), W p l e (rma K 0 0) s m args below meth c H locs 0 0 (MQ below (QV D (Er ac (z + 80)) inR (z + 80) (some (.int r)) σf (Ar (z + 80))) args s 0 0 (Ar (z + 80))) (F0 m 9 ls [])) : ∀ (n : Nat) (σ : Mem) (v2 : Int32) {H : Heap} {locs : List Loc} {ls : Array Slot} (hW : WR D ac (z + 80) σ H) (hS : va_S (Ar (z + 80)) s.heap H locs) (hl : lv_has ls 3 [(0, .ref (z + 80 + 0)), (1, .int v1), (2, .int v2)]) (h : f_X9_findsRing_b22 s9 v1 n σ v2 = some (r, σf)), W p l e (rma K 0 0) s m args below meth c H locs 0 0 (MQ below (QV D (Er ac (z + 80)) inR (z + 80) (some (.int r)) σf (Ar (z + 80))) args s 0 0 (Ar (z + 80))) (F0 m 22 ls []) := by
  have hx := C.1.1
  have hb := C.1.2.1
  intro n
  induction n with
  | zero =>
    intro σ v2 H locs ls  hW hS hl h
    cases h
  | succ n ih =>
    intro σ v2 H locs ls  hW hS hl h
    rw [f_X9_findsRing_b22.eq_2] at h
    refine lv_iload_n (pc := 22) hx hb dX9_findsRing_22 rfl (lv_at hl 2 rfl) ?_
    refine lv_aload_n (pc := 23) hx hb dX9_findsRing_23 rfl (lv_at hl 0 rfl) ?_
    refine gf_X9_4 (pc := 24) C hW fl_X9_88 dX9_findsRing_24 ?_
    refine lv_icmp_ge (pc := 27) (tgt := 45) hx hb dX9_findsRing_27 (by decide) (fun hc3 => ?_) (fun hc3 => ?_)
    · replace h := o_pos hc3 h
      exact w_X9_findsRing_b45 C hK σ v1 v2 s9 hs9 hW hS (lv_sub hl [0, 1, 2] rfl) h
    · replace h := o_neg hc3 h
      refine lv_aload_n (pc := 30) hx hb dX9_findsRing_30 rfl (lv_at hl 0 rfl) ?_
      refine lv_iload_n (pc := 31) hx hb dX9_findsRing_31 rfl (lv_at hl 2 rfl) ?_
      refine lv_iload_n (pc := 32) hx hb dX9_findsRing_32 rfl (lv_at hl 1 rfl) ?_
      obtain ⟨r6, hc4, h⟩ := o_b h
      refine g_virt (pc := 33) (st2 := [.int r6]) (rest := []) C hW hS (c_X9_canBe (K := K - 1) (by omega) hc4) mw_X9_249 inR0 Er_0 rfl (hRoom (by omega) (by decide)) rfl rfl rfl (Nat.le_of_ble_eq_true rfl) hl.1 dX9_findsRing_33 (fun H locs hW hS => ?_)
      refine lv_if_ne (pc := 36) (tgt := 45) hx hb dX9_findsRing_36 (by decide) (fun hc6 => ?_) (fun hc6 => ?_)
      · replace h := o_neg hc6 h
        exact w_X9_findsRing_b45 C hK σ v1 v2 s9 hs9 hW hS (lv_sub hl [0, 1, 2] rfl) h
      · replace h := o_pos hc6 h
        refine lv_iinc (pc := 39) (v := (v2 + 1)) (lv' := [(2, .int (v2 + 1)), (0, .ref (z + 80 + 0)), (1, .int v1)]) hx hb dX9_findsRing_39 hl (k := 2) rfl rfl (by decide) rfl (fun ls hl => ?_)
        refine lv_goto (pc := 42) (tgt := 22) hx hb dX9_findsRing_42 (by decide) ?_
        exact ih σ (v2 + 1) hW hS (lv_sub hl [1, 2, 0] rfl) h

theorem w_X9_findsRing_b9 (C : CX cX9_findsRing 3 RX9 (some .boolean) D ac p m c s args meth (z, aK, aV) (Ar (z + 80))) (hK : 2 ≤ K) {r : Int32} {σf : Mem}    : ∀ (n : Nat) (σ : Mem) (v1 : Int32) {H : Heap} {locs : List Loc} {ls : Array Slot} (hW : WR D ac (z + 80) σ H) (hS : va_S (Ar (z + 80)) s.heap H locs) (hl : lv_has ls 3 [(0, .ref (z + 80 + 0)), (1, .int v1)]) (h : f_X9_findsRing_b9 n σ v1 = some (r, σf)), W p l e (rma K 0 0) s m args below meth c H locs 0 0 (MQ below (QV D (Er ac (z + 80)) inR (z + 80) (some (.int r)) σf (Ar (z + 80))) args s 0 0 (Ar (z + 80))) (F0 m 9 ls []) := by
  have hx := C.1.1
  have hb := C.1.2.1
  intro n
  induction n with
  | zero =>
    intro σ v1 H locs ls  hW hS hl h
    cases h
  | succ n ih =>
    intro σ v1 H locs ls  hW hS hl h
    rw [f_X9_findsRing_b9.eq_2] at h
    refine lv_iload_n (pc := 9) hx hb dX9_findsRing_9 rfl (lv_at hl 1 rfl) ?_
    refine lv_if_lt (pc := 10) (tgt := 96) hx hb dX9_findsRing_10 (by decide) (fun hc0 => ?_) (fun hc0 => ?_)
    · replace h := o_pos hc0 h
      refine lv_aload_n (pc := 96) hx hb dX9_findsRing_96 rfl (lv_at hl 0 rfl) ?_
      refine lv_iconst (pc := 97) (v := 0) hx hb dX9_findsRing_97 (by decide) ?_
      refine pf_X9_43 (pc := 98) C hW hS fl_X9_256 dX9_findsRing_98 (fun H locs hW hS => ?_)
      refine lv_iconst (pc := 101) (v := 0) hx hb dX9_findsRing_101 (by decide) ?_
      exact g_ret (pc := 102) C hW hS rfl dX9_findsRing_102 (congrArg (fun q => some (Value.int q)) (o_r h).1) (o_r h).2
    · replace h := o_neg hc0 h
      refine lv_aload_n (pc := 13) hx hb dX9_findsRing_13 rfl (lv_at hl 0 rfl) ?_
      refine gf_X9_42 (pc := 14) C hW fl_X9_64 dX9_findsRing_14 ?_
      refine lv_iload_n (pc := 17) hx hb dX9_findsRing_17 rfl (lv_at hl 1 rfl) ?_
      obtain ⟨hc1, h⟩ := o_chk h
      refine ir_ld (pc := 18) (k := 19) C hW (by decide) (by decide) rfl rfl (inb_in hc1) dX9_findsRing_18 ?_
      refine lv_iconst (pc := 19) (v := 1) hx hb dX9_findsRing_19 (by decide) ?_
      refine lv_iadd (pc := 20) hx hb dX9_findsRing_20 ?_
      obtain ⟨x3, hxx3, h⟩ := o_d h
      refine g_top hxx3 ?_
      refine lv_istore_n (pc := 21) (lv' := [(2, .int x3), (0, .ref (z + 80 + 0)), (1, .int v1)]) hx hb dX9_findsRing_21 rfl hl (by decide) rfl (fun ls hl => ?_)
      exact w_X9_findsRing_b22 C hK v1 (f_X9_findsRing_b9  n) (fun σ v1 {H : Heap} {locs : List Loc} {ls : Array Slot}  hW hS hl h => ih σ v1 hW hS hl h) FU σ x3 hW hS (lv_sub hl [1, 2, 0] rfl) h

theorem c_X9_findsRing {K : Nat}  (hK : 2 ≤ K) {σ : Mem} {σf : Mem} {r : Int32} (h : f_X9_findsRing σ = some (r, σf)) : MC l D (Er ac (z + 80)) inR (z + 80) ac (z, aK, aV) (Ar (z + 80)) yX9_findsRing cX9_findsRing 3 (some .boolean) K [.ref (z + 80 + 0)] σ (some (.int r)) σf := by
  refine MC.of (fun q hq => by have := hq.1; show z ≤ q; omega) (plainFor_of_name (by decide)) (Nat.le_of_ble_eq_true rfl) ?_
  intro p e s m below meth c args C hW ls hl
  replace hl : lv_has ls 3 [(0, .ref (z + 80 + 0))] := hl
  have hS : va_S (Ar (z + 80)) s.heap s.heap [] := va_S.rf
  have hx := C.1.1
  have hb := C.1.2.1
  unfold f_X9_findsRing at h
  refine lv_iconst (pc := 0) (v := 0) hx hb dX9_findsRing_0 (by decide) ?_
  refine lv_istore_n (pc := 1) (lv' := [(1, .int (0 : Int32)), (0, .ref (z + 80 + 0))]) hx hb dX9_findsRing_1 rfl hl (by decide) rfl (fun ls hl => ?_)
  refine lv_aload_n (pc := 2) hx hb dX9_findsRing_2 rfl (lv_at hl 1 rfl) ?_
  refine gf_X9_42 (pc := 3) C hW fl_X9_64 dX9_findsRing_3 ?_
  refine lv_iconst (pc := 6) (v := 0) hx hb dX9_findsRing_6 (by decide) ?_
  refine lv_iconst (pc := 7) (v := -1) hx hb dX9_findsRing_7 (by decide) ?_
  refine ir_st (pc := 8) (k := 19) C hW hS (by decide) (by decide) rfl (j := 0) (by decide) (inb_in (by decide)) dX9_findsRing_8 (fun H locs hW hS => ?_)
  exact w_X9_findsRing_b9 C hK FU (ms σ 19 0 (-1 : Int32)) (0 : Int32) hW hS (lv_sub hl [1, 0] rfl) h

theorem w_X9_leastOnWay_b43 (C : CX cX9_leastOnWay 4 RX9 (some .int) D ac p m c s args meth (z, aK, aV) (Ar (z + 80))) (hK : 0 ≤ K) {r : Int32}   (σ : Mem) (v2 : Int32) (k0 : Int32) (s4 : Int32 → Int32 → Option Int32) (hs4 : ∀ (v1 : Int32) (v2 : Int32) {H : Heap} {locs : List Loc} {ls : Array Slot} (_ : WR D ac (z + 80) σ H) (_ : va_S (Ar (z + 80)) s.heap H locs) (_ : lv_has ls 4 [(0, .ref (z + 80 + 0)), (1, .int v1), (2, .int v2)]) (_ : s4 v1 v2 = some r), W p l e (rma K 0 0) s m args below meth c H locs 0 0 (MQ below (QV D (Er ac (z + 80)) inR (z + 80) (some (.int r)) σ (Ar (z + 80))) args s 0 0 (Ar (z + 80))) (F0 m 4 ls [])) {H : Heap} {locs : List Loc} {ls : Array Slot} (hW : WR D ac (z + 80) σ H) (hS : va_S (Ar (z + 80)) s.heap H locs) (hl : lv_has ls 4 [(0, .ref (z + 80 + 0)), (2, .int v2)]) (h : f_X9_leastOnWay_b43 s4 σ v2 k0 = some r) : W p l e (rma K 0 0) s m args below meth c H locs 0 0 (MQ below (QV D (Er ac (z + 80)) inR (z + 80) (some (.int r)) σ (Ar (z + 80))) args s 0 0 (Ar (z + 80))) (F0 m 43 ls [.int k0]) := by
  have hx := C.1.1
  have hb := C.1.2.1
  unfold f_X9_leastOnWay_b43 at h
  refine lv_istore_n (pc := 43) (lv' := [(1, .int k0), (0, .ref (z + 80 + 0)), (2, .int v2)]) hx hb dX9_leastOnWay_43 rfl hl (by decide) rfl (fun ls hl => ?_)
  refine lv_iinc (pc := 44) (v := (v2 + 1)) (lv' := [(2, .int (v2 + 1)), (1, .int k0), (0, .ref (z + 80 + 0))]) hx hb dX9_leastOnWay_44 hl (k := 2) rfl rfl (by decide) rfl (fun ls hl => ?_)
  refine lv_goto (pc := 47) (tgt := 4) hx hb dX9_leastOnWay_47 (by decide) ?_
  exact hs4 k0 (v2 + 1) hW hS (lv_sub hl [2, 1, 0] rfl) h

theorem w_X9_leastOnWay_b38 (C : CX cX9_leastOnWay 4 RX9 (some .int) D ac p m c s args meth (z, aK, aV) (Ar (z + 80))) (hK : 0 ≤ K) {r : Int32}   (σ : Mem) (v2 : Int32) (v3 : Int32) (s4 : Int32 → Int32 → Option Int32) (hs4 : ∀ (v1 : Int32) (v2 : Int32) {H : Heap} {locs : List Loc} {ls : Array Slot} (_ : WR D ac (z + 80) σ H) (_ : va_S (Ar (z + 80)) s.heap H locs) (_ : lv_has ls 4 [(0, .ref (z + 80 + 0)), (1, .int v1), (2, .int v2)]) (_ : s4 v1 v2 = some r), W p l e (rma K 0 0) s m args below meth c H locs 0 0 (MQ below (QV D (Er ac (z + 80)) inR (z + 80) (some (.int r)) σ (Ar (z + 80))) args s 0 0 (Ar (z + 80))) (F0 m 4 ls [])) {H : Heap} {locs : List Loc} {ls : Array Slot} (hW : WR D ac (z + 80) σ H) (hS : va_S (Ar (z + 80)) s.heap H locs) (hl : lv_has ls 4 [(0, .ref (z + 80 + 0)), (2, .int v2), (3, .int v3)]) (h : f_X9_leastOnWay_b38 s4 σ v2 v3 = some r) : W p l e (rma K 0 0) s m args below meth c H locs 0 0 (MQ below (QV D (Er ac (z + 80)) inR (z + 80) (some (.int r)) σ (Ar (z + 80))) args s 0 0 (Ar (z + 80))) (F0 m 38 ls []) := by
  have hx := C.1.1
  have hb := C.1.2.1
  unfold f_X9_leastOnWay_b38 at h
  refine lv_iload_n (pc := 38) hx hb dX9_leastOnWay_38 rfl (lv_at hl 2 rfl) ?_
  refine lv_goto (pc := 39) (tgt := 43) hx hb dX9_leastOnWay_39 (by decide) ?_
  exact w_X9_leastOnWay_b43 C hK σ v2 v3 s4 hs4 hW hS (lv_sub hl [0, 1] rfl) h

theorem w_X9_leastOnWay_b4 (C : CX cX9_leastOnWay 4 RX9 (some .int) D ac p m c s args meth (z, aK, aV) (Ar (z + 80))) (hK : 0 ≤ K) {r : Int32}   (σ : Mem)  : ∀ (n : Nat) (v1 : Int32) (v2 : Int32) {H : Heap} {locs : List Loc} {ls : Array Slot} (hW : WR D ac (z + 80) σ H) (hS : va_S (Ar (z + 80)) s.heap H locs) (hl : lv_has ls 4 [(0, .ref (z + 80 + 0)), (1, .int v1), (2, .int v2)]) (h : f_X9_leastOnWay_b4 σ n v1 v2 = some r), W p l e (rma K 0 0) s m args below meth c H locs 0 0 (MQ below (QV D (Er ac (z + 80)) inR (z + 80) (some (.int r)) σ (Ar (z + 80))) args s 0 0 (Ar (z + 80))) (F0 m 4 ls []) := by
  have hx := C.1.1
  have hb := C.1.2.1
  intro n
  induction n with
  | zero =>
    intro v1 v2 H locs ls  hW hS hl h
    cases h
  | succ n ih =>
    intro v1 v2 H locs ls  hW hS hl h
    rw [f_X9_leastOnWay_b4.eq_2] at h
    refine lv_iload_n (pc := 4) hx hb dX9_leastOnWay_4 rfl (lv_at hl 2 rfl) ?_
    refine lv_aload_n (pc := 5) hx hb dX9_leastOnWay_5 rfl (lv_at hl 0 rfl) ?_
    refine gf_X9_43 (pc := 6) C hW fl_X9_256 dX9_leastOnWay_6 ?_
    refine lv_icmp_ge (pc := 9) (tgt := 50) hx hb dX9_leastOnWay_9 (by decide) (fun hc0 => ?_) (fun hc0 => ?_)
    · replace h := o_pos hc0 h
      refine lv_iload_n (pc := 50) hx hb dX9_leastOnWay_50 rfl (lv_at hl 1 rfl) ?_
      exact g_ret (pc := 51) C hW hS rfl dX9_leastOnWay_51 (congrArg (fun q => some (Value.int q)) (Option.some.inj h).symm) rfl
    · replace h := o_neg hc0 h
      refine lv_aload_n (pc := 12) hx hb dX9_leastOnWay_12 rfl (lv_at hl 0 rfl) ?_
      refine gf_X9_5 (pc := 13) C hW fl_X9_19 dX9_leastOnWay_13 ?_
      refine lv_bipush (pc := 16) (v := 6) hx hb dX9_leastOnWay_16 (by decide) ?_
      refine lv_aload_n (pc := 18) hx hb dX9_leastOnWay_18 rfl (lv_at hl 0 rfl) ?_
      refine gf_X9_42 (pc := 19) C hW fl_X9_64 dX9_leastOnWay_19 ?_
      refine lv_iload_n (pc := 22) hx hb dX9_leastOnWay_22 rfl (lv_at hl 2 rfl) ?_
      obtain ⟨hc1, h⟩ := o_chk h
      refine ir_ld (pc := 23) (k := 19) C hW (by decide) (by decide) rfl rfl (inb_in hc1) dX9_leastOnWay_23 ?_
      refine lv_imul (pc := 24) hx hb dX9_leastOnWay_24 ?_
      refine lv_iconst (pc := 25) (v := 2) hx hb dX9_leastOnWay_25 (by decide) ?_
      refine lv_iadd (pc := 26) hx hb dX9_leastOnWay_26 ?_
      obtain ⟨hc2, h⟩ := o_chk h
      refine ir_ld (pc := 27) (k := 4) C hW (by decide) (by decide) rfl rfl (inb_in hc2) dX9_leastOnWay_27 ?_
      obtain ⟨x4, hxx4, h⟩ := o_d h
      refine g_top hxx4 ?_
      refine lv_istore_n (pc := 28) (lv' := [(3, .int x4), (0, .ref (z + 80 + 0)), (1, .int v1), (2, .int v2)]) hx hb dX9_leastOnWay_28 rfl hl (by decide) rfl (fun ls hl => ?_)
      refine lv_iload_n (pc := 29) hx hb dX9_leastOnWay_29 rfl (lv_at hl 3 rfl) ?_
      refine lv_if_eq (pc := 30) (tgt := 38) hx hb dX9_leastOnWay_30 (by decide) (fun hc4 => ?_) (fun hc4 => ?_)
      · replace h := o_pos hc4 h
        exact w_X9_leastOnWay_b38 C hK σ v2 x4 (f_X9_leastOnWay_b4 σ n) (fun v1 v2 {H : Heap} {locs : List Loc} {ls : Array Slot}  hW hS hl h => ih v1 v2 hW hS hl h) hW hS (lv_sub hl [1, 3, 0] rfl) h
      · replace h := o_neg hc4 h
        refine lv_iload_n (pc := 33) hx hb dX9_leastOnWay_33 rfl (lv_at hl 0 rfl) ?_
        refine lv_iload_n (pc := 34) hx hb dX9_leastOnWay_34 rfl (lv_at hl 2 rfl) ?_
        refine lv_icmp_ge (pc := 35) (tgt := 42) hx hb dX9_leastOnWay_35 (by decide) (fun hc5 => ?_) (fun hc5 => ?_)
        · replace h := o_pos hc5 h
          refine lv_iload_n (pc := 42) hx hb dX9_leastOnWay_42 rfl (lv_at hl 2 rfl) ?_
          exact w_X9_leastOnWay_b43 C hK σ v2 v1 (f_X9_leastOnWay_b4 σ n) (fun v1 v2 {H : Heap} {locs : List Loc} {ls : Array Slot}  hW hS hl h => ih v1 v2 hW hS hl h) hW hS (lv_sub hl [1, 3] rfl) h
        · replace h := o_neg hc5 h
          exact w_X9_leastOnWay_b38 C hK σ v2 x4 (f_X9_leastOnWay_b4 σ n) (fun v1 v2 {H : Heap} {locs : List Loc} {ls : Array Slot}  hW hS hl h => ih v1 v2 hW hS hl h) hW hS (lv_sub hl [1, 3, 0] rfl) h

theorem c_X9_leastOnWay {K : Nat}  (hK : 0 ≤ K) {σ : Mem} {r : Int32} (h : f_X9_leastOnWay σ = some r) : MC l D (Er ac (z + 80)) inR (z + 80) ac (z, aK, aV) (Ar (z + 80)) yX9_leastOnWay cX9_leastOnWay 4 (some .int) K [.ref (z + 80 + 0)] σ (some (.int r)) σ := by
  refine MC.of (fun q hq => by have := hq.1; show z ≤ q; omega) (plainFor_of_name (by decide)) (Nat.le_of_ble_eq_true rfl) ?_
  intro p e s m below meth c args C hW ls hl
  replace hl : lv_has ls 4 [(0, .ref (z + 80 + 0))] := hl
  have hS : va_S (Ar (z + 80)) s.heap s.heap [] := va_S.rf
  have hx := C.1.1
  have hb := C.1.2.1
  unfold f_X9_leastOnWay at h
  refine lv_iconst (pc := 0) (v := 0) hx hb dX9_leastOnWay_0 (by decide) ?_
  refine lv_istore_n (pc := 1) (lv' := [(1, .int (0 : Int32)), (0, .ref (z + 80 + 0))]) hx hb dX9_leastOnWay_1 rfl hl (by decide) rfl (fun ls hl => ?_)
  refine lv_iconst (pc := 2) (v := 0) hx hb dX9_leastOnWay_2 (by decide) ?_
  refine lv_istore_n (pc := 3) (lv' := [(2, .int (0 : Int32)), (1, .int (0 : Int32)), (0, .ref (z + 80 + 0))]) hx hb dX9_leastOnWay_3 rfl hl (by decide) rfl (fun ls hl => ?_)
  exact w_X9_leastOnWay_b4 C hK σ FU (0 : Int32) (0 : Int32) hW hS (lv_sub hl [2, 1, 0] rfl) h

theorem w_X9_ring_b21 (C : CX cX9_ring 4 RX9 (some .int) D ac p m c s args meth (z, aK, aV) (Ar (z + 80))) (hK : 3 ≤ K) {r : Int32} {σf : Mem}   (v1 : Int32)  : ∀ (n : Nat) (σ : Mem) (v2 : Int32) (v3 : Int32) {H : Heap} {locs : List Loc} {ls : Array Slot} (hW : WR D ac (z + 80) σ H) (hS : va_S (Ar (z + 80)) s.heap H locs) (hl : lv_has ls 4 [(0, .ref (z + 80 + 0)), (1, .int v1), (2, .int v2), (3, .int v3)]) (h : f_X9_ring_b21 v1 n σ v2 v3 = some (r, σf)), W p l e (rma K 0 0) s m args below meth c H locs 0 0 (MQ below (QV D (Er ac (z + 80)) inR (z + 80) (some (.int r)) σf (Ar (z + 80))) args s 0 0 (Ar (z + 80))) (F0 m 21 ls []) := by
  have hx := C.1.1
  have hb := C.1.2.1
  intro n
  induction n with
  | zero =>
    intro σ v2 v3 H locs ls  hW hS hl h
    cases h
  | succ n ih =>
    intro σ v2 v3 H locs ls  hW hS hl h
    rw [f_X9_ring_b21.eq_2] at h
    refine lv_iload_n (pc := 21) hx hb dX9_ring_21 rfl (lv_at hl 3 rfl) ?_
    refine lv_aload_n (pc := 22) hx hb dX9_ring_22 rfl (lv_at hl 0 rfl) ?_
    refine gf_X9_43 (pc := 23) C hW fl_X9_256 dX9_ring_23 ?_
    refine lv_icmp_ge (pc := 26) (tgt := 46) hx hb dX9_ring_26 (by decide) (fun hc4 => ?_) (fun hc4 => ?_)
    · replace h := o_pos hc4 h
      refine lv_iload_n (pc := 46) hx hb dX9_ring_46 rfl (lv_at hl 1 rfl) ?_
      refine lv_if_ne (pc := 47) (tgt := 54) hx hb dX9_ring_47 (by decide) (fun hc5 => ?_) (fun hc5 => ?_)
      · replace h := o_neg hc5 h
        refine lv_aload_n (pc := 54) hx hb dX9_ring_54 rfl (lv_at hl 0 rfl) ?_
        obtain ⟨r8, hc6, h⟩ := o_b h
        refine g_virt (pc := 55) (st2 := [.int r8]) (rest := []) C hW hS (c_X9_leastOnWay (K := K - 1) (by omega) hc6) mw_X9_262 inR0 Er_0 rfl (hRoom (by omega) (by decide)) rfl rfl rfl (Nat.le_of_ble_eq_true rfl) hl.1 dX9_ring_55 (fun H locs hW hS => ?_)
        exact g_ret (pc := 58) C hW hS rfl dX9_ring_58 (congrArg (fun q => some (Value.int q)) (o_r h).1) (o_r h).2
      · replace h := o_pos hc5 h
        refine lv_iload_n (pc := 50) hx hb dX9_ring_50 rfl (lv_at hl 2 rfl) ?_
        refine lv_goto (pc := 51) (tgt := 58) hx hb dX9_ring_51 (by decide) ?_
        exact g_ret (pc := 58) C hW hS rfl dX9_ring_58 (congrArg (fun q => some (Value.int q)) (o_r h).1) (o_r h).2
    · replace h := o_neg hc4 h
      refine lv_iload_n (pc := 29) hx hb dX9_ring_29 rfl (lv_at hl 2 rfl) ?_
      refine lv_iconst (pc := 30) (v := 1) hx hb dX9_ring_30 (by decide) ?_
      refine lv_aload_n (pc := 31) hx hb dX9_ring_31 rfl (lv_at hl 0 rfl) ?_
      refine gf_X9_42 (pc := 32) C hW fl_X9_64 dX9_ring_32 ?_
      refine lv_iload_n (pc := 35) hx hb dX9_ring_35 rfl (lv_at hl 3 rfl) ?_
      obtain ⟨hc8, h⟩ := o_chk h
      refine ir_ld (pc := 36) (k := 19) C hW (by decide) (by decide) rfl rfl (inb_in hc8) dX9_ring_36 ?_
      refine lv_ishl (pc := 37) hx hb dX9_ring_37 ?_
      refine lv_ior (pc := 38) hx hb dX9_ring_38 ?_
      obtain ⟨x10, hxx10, h⟩ := o_d h
      refine g_top hxx10 ?_
      refine lv_istore_n (pc := 39) (lv' := [(2, .int x10), (0, .ref (z + 80 + 0)), (1, .int v1), (3, .int v3)]) hx hb dX9_ring_39 rfl hl (by decide) rfl (fun ls hl => ?_)
      refine lv_iinc (pc := 40) (v := (v3 + 1)) (lv' := [(3, .int (v3 + 1)), (2, .int x10), (0, .ref (z + 80 + 0)), (1, .int v1)]) hx hb dX9_ring_40 hl (k := 3) rfl rfl (by decide) rfl (fun ls hl => ?_)
      refine lv_goto (pc := 43) (tgt := 21) hx hb dX9_ring_43 (by decide) ?_
      exact ih σ x10 (v3 + 1) hW hS (lv_sub hl [2, 3, 1, 0] rfl) h

theorem c_X9_ring {K : Nat}  (hK : 3 ≤ K) {σ : Mem} {σf : Mem} {v1 : Int32} {r : Int32} (h : f_X9_ring σ v1 = some (r, σf)) : MC l D (Er ac (z + 80)) inR (z + 80) ac (z, aK, aV) (Ar (z + 80)) yX9_ring cX9_ring 4 (some .int) K [.ref (z + 80 + 0), .int v1] σ (some (.int r)) σf := by
  refine MC.of (fun q hq => by have := hq.1; show z ≤ q; omega) (plainFor_of_name (by decide)) (Nat.le_of_ble_eq_true rfl) ?_
  intro p e s m below meth c args C hW ls hl
  replace hl : lv_has ls 4 [(0, .ref (z + 80 + 0)), (1, .int v1)] := hl
  have hS : va_S (Ar (z + 80)) s.heap s.heap [] := va_S.rf
  have hx := C.1.1
  have hb := C.1.2.1
  unfold f_X9_ring at h
  refine lv_iload_n (pc := 0) hx hb dX9_ring_0 rfl (lv_at hl 1 rfl) ?_
  refine lv_iconst (pc := 1) (v := 0) hx hb dX9_ring_1 (by decide) ?_
  refine lv_iconst (pc := 2) (v := 1) hx hb dX9_ring_2 (by decide) ?_
  refine g_stat (pc := 3) (st2 := [.int (f_X9_in v1 (0 : Int32) (1 : Int32))]) (rest := []) C hW hS (c_X9_in (K := K - 1) (by omega) rfl) mw_X9_84 (hRoom (by omega) (by decide)) rfl rfl rfl (Nat.le_of_ble_eq_true rfl) hl.1 dX9_ring_3 (fun H locs hW hS => ?_)
  refine lv_if_ne (pc := 6) (tgt := 12) hx hb dX9_ring_6 (by decide) (fun hc0 => ?_) (fun hc0 => ?_)
  · replace h := o_neg hc0 h
    refine lv_iconst (pc := 12) (v := 0) hx hb dX9_ring_12 (by decide) ?_
    refine lv_istore_n (pc := 13) (lv' := [(2, .int (0 : Int32)), (0, .ref (z + 80 + 0)), (1, .int v1)]) hx hb dX9_ring_13 rfl hl (by decide) rfl (fun ls hl => ?_)
    refine lv_aload_n (pc := 14) hx hb dX9_ring_14 rfl (lv_at hl 1 rfl) ?_
    obtain ⟨r3, σ4, hc1, h⟩ := o_b2 h
    refine g_virt (pc := 15) (st2 := [.int r3]) (rest := []) C hW hS (c_X9_findsRing (K := K - 1) (by omega) hc1) mw_X9_259 inR0 Er_0 rfl (hRoom (by omega) (by decide)) rfl rfl rfl (Nat.le_of_ble_eq_true rfl) hl.1 dX9_ring_15 (fun H locs hW hS => ?_)
    refine lv_pop (pc := 18) hx hb dX9_ring_18 rfl ?_
    refine lv_iconst (pc := 19) (v := 0) hx hb dX9_ring_19 (by decide) ?_
    refine lv_istore_n (pc := 20) (lv' := [(3, .int (0 : Int32)), (2, .int (0 : Int32)), (0, .ref (z + 80 + 0)), (1, .int v1)]) hx hb dX9_ring_20 rfl hl (by decide) rfl (fun ls hl => ?_)
    exact w_X9_ring_b21 C hK v1 FU σ4 (0 : Int32) (0 : Int32) hW hS (lv_sub hl [2, 3, 1, 0] rfl) h
  · replace h := o_pos hc0 h
    refine lv_bipush (pc := 9) (v := -2) hx hb dX9_ring_9 (by decide) ?_
    exact g_ret (pc := 11) C hW hS rfl dX9_ring_11 (congrArg (fun q => some (Value.int q)) (o_r h).1) (o_r h).2

theorem c_X9_clears {K : Nat}  (hK : 0 ≤ K) {σ : Mem} {σf : Mem} {v1 : Int32} (h : f_X9_clears σ v1 = some σf) : MC l D (Er ac (z + 80)) inR (z + 80) ac (z, aK, aV) (Ar (z + 80)) yX9_clears cX9_clears 3 none K [.ref (z + 80 + 0), .int v1] σ none σf := by
  refine MC.of (fun q hq => by have := hq.1; show z ≤ q; omega) (plainFor_of_name (by decide)) (Nat.le_of_ble_eq_true rfl) ?_
  intro p e s m below meth c args C hW ls hl
  replace hl : lv_has ls 3 [(0, .ref (z + 80 + 0)), (1, .int v1)] := hl
  have hS : va_S (Ar (z + 80)) s.heap s.heap [] := va_S.rf
  have hx := C.1.1
  have hb := C.1.2.1
  unfold f_X9_clears at h
  refine lv_aload_n (pc := 0) hx hb dX9_clears_0 rfl (lv_at hl 0 rfl) ?_
  refine gf_X9_5 (pc := 1) C hW fl_X9_19 dX9_clears_1 ?_
  refine lv_bipush (pc := 4) (v := 6) hx hb dX9_clears_4 (by decide) ?_
  refine lv_iload_n (pc := 6) hx hb dX9_clears_6 rfl (lv_at hl 1 rfl) ?_
  refine lv_imul (pc := 7) hx hb dX9_clears_7 ?_
  refine lv_iconst (pc := 8) (v := 4) hx hb dX9_clears_8 (by decide) ?_
  refine lv_iadd (pc := 9) hx hb dX9_clears_9 ?_
  obtain ⟨hc0, h⟩ := o_chk h
  refine ir_ld (pc := 10) (k := 4) C hW (by decide) (by decide) rfl rfl (inb_in hc0) dX9_clears_10 ?_
  obtain ⟨x2, hxx2, h⟩ := o_d h
  refine g_top hxx2 ?_
  refine lv_istore_n (pc := 11) (lv' := [(2, .int x2), (0, .ref (z + 80 + 0)), (1, .int v1)]) hx hb dX9_clears_11 rfl hl (by decide) rfl (fun ls hl => ?_)
  refine lv_aload_n (pc := 12) hx hb dX9_clears_12 rfl (lv_at hl 1 rfl) ?_
  refine gf_X9_5 (pc := 13) C hW fl_X9_19 dX9_clears_13 ?_
  refine lv_bipush (pc := 16) (v := 6) hx hb dX9_clears_16 (by decide) ?_
  refine lv_iload_n (pc := 18) hx hb dX9_clears_18 rfl (lv_at hl 2 rfl) ?_
  refine lv_imul (pc := 19) hx hb dX9_clears_19 ?_
  refine lv_iconst (pc := 20) (v := 5) hx hb dX9_clears_20 (by decide) ?_
  refine lv_iadd (pc := 21) hx hb dX9_clears_21 ?_
  refine lv_iconst (pc := 22) (v := 3) hx hb dX9_clears_22 (by decide) ?_
  obtain ⟨hc2, h⟩ := o_chk h
  refine ir_st (pc := 23) (k := 4) C hW hS (by decide) (by decide) rfl rfl (inb_in hc2) dX9_clears_23 (fun H locs hW hS => ?_)
  obtain ⟨σ4, hσ4, h⟩ := o_d h
  replace hW : WR D ac (z + 80) σ4 H := by rw [← hσ4]; exact hW
  refine lv_aload_n (pc := 24) hx hb dX9_clears_24 rfl (lv_at hl 1 rfl) ?_
  refine gf_X9_5 (pc := 25) C hW fl_X9_19 dX9_clears_25 ?_
  refine lv_bipush (pc := 28) (v := 6) hx hb dX9_clears_28 (by decide) ?_
  refine lv_iload_n (pc := 30) hx hb dX9_clears_30 rfl (lv_at hl 2 rfl) ?_
  refine lv_imul (pc := 31) hx hb dX9_clears_31 ?_
  refine lv_iconst (pc := 32) (v := 4) hx hb dX9_clears_32 (by decide) ?_
  refine lv_iadd (pc := 33) hx hb dX9_clears_33 ?_
  refine lv_iconst (pc := 34) (v := -1) hx hb dX9_clears_34 (by decide) ?_
  obtain ⟨hc4, h⟩ := o_chk h
  refine ir_st (pc := 35) (k := 4) C hW hS (by decide) (by decide) rfl rfl (inb_in hc4) dX9_clears_35 (fun H locs hW hS => ?_)
  obtain ⟨σ6, hσ6, h⟩ := o_d h
  replace hW : WR D ac (z + 80) σ6 H := by rw [← hσ6]; exact hW
  refine lv_iload_n (pc := 36) hx hb dX9_clears_36 rfl (lv_at hl 0 rfl) ?_
  refine lv_iconst (pc := 37) (v := -1) hx hb dX9_clears_37 (by decide) ?_
  refine lv_icmp_eq (pc := 38) (tgt := 53) hx hb dX9_clears_38 (by decide) (fun hc6 => ?_) (fun hc6 => ?_)
  · replace h := o_pos hc6 h
    exact g_vret (pc := 53) C hW hS dX9_clears_53 rfl (Option.some.inj h).symm
  · replace h := o_neg hc6 h
    refine lv_aload_n (pc := 41) hx hb dX9_clears_41 rfl (lv_at hl 1 rfl) ?_
    refine gf_X9_5 (pc := 42) C hW fl_X9_19 dX9_clears_42 ?_
    refine lv_bipush (pc := 45) (v := 6) hx hb dX9_clears_45 (by decide) ?_
    refine lv_iload_n (pc := 47) hx hb dX9_clears_47 rfl (lv_at hl 0 rfl) ?_
    refine lv_imul (pc := 48) hx hb dX9_clears_48 ?_
    refine lv_iconst (pc := 49) (v := 4) hx hb dX9_clears_49 (by decide) ?_
    refine lv_iadd (pc := 50) hx hb dX9_clears_50 ?_
    refine lv_iconst (pc := 51) (v := -1) hx hb dX9_clears_51 (by decide) ?_
    obtain ⟨hc7, h⟩ := o_chk h
    refine ir_st (pc := 52) (k := 4) C hW hS (by decide) (by decide) rfl rfl (inb_in hc7) dX9_clears_52 (fun H locs hW hS => ?_)
    obtain ⟨σ9, hσ9, h⟩ := o_d h
    replace hW : WR D ac (z + 80) σ9 H := by rw [← hσ9]; exact hW
    exact g_vret (pc := 53) C hW hS dX9_clears_53 rfl (Option.some.inj h).symm

theorem w_X9_clear_b77 (C : CX cX9_clear 5 RX9 (some .int) D ac p m c s args meth (z, aK, aV) (Ar (z + 80))) (hK : 3 ≤ K) {r : Int32} {σf : Mem}   (σ : Mem) (v1 : Int32) (v2 : Int32) (v3 : Int32) (s2 : Mem → Int32 → Option (Int32 × Mem)) (hs2 : ∀ (σ : Mem) (v1 : Int32) {H : Heap} {locs : List Loc} {ls : Array Slot} (_ : WR D ac (z + 80) σ H) (_ : va_S (Ar (z + 80)) s.heap H locs) (_ : lv_has ls 5 [(0, .ref (z + 80 + 0)), (1, .int v1)]) (_ : s2 σ v1 = some (r, σf)), W p l e (rma K 0 0) s m args below meth c H locs 0 0 (MQ below (QV D (Er ac (z + 80)) inR (z + 80) (some (.int r)) σf (Ar (z + 80))) args s 0 0 (Ar (z + 80))) (F0 m 2 ls [])) (s25 : Mem → Int32 → Option (Int32 × Mem)) (hs25 : ∀ (σ : Mem) (v3 : Int32) {H : Heap} {locs : List Loc} {ls : Array Slot} (_ : WR D ac (z + 80) σ H) (_ : va_S (Ar (z + 80)) s.heap H locs) (_ : lv_has ls 5 [(0, .ref (z + 80 + 0)), (1, .int v1), (2, .int v2), (3, .int v3)]) (_ : s25 σ v3 = some (r, σf)), W p l e (rma K 0 0) s m args below meth c H locs 0 0 (MQ below (QV D (Er ac (z + 80)) inR (z + 80) (some (.int r)) σf (Ar (z + 80))) args s 0 0 (Ar (z + 80))) (F0 m 25 ls [])) {H : Heap} {locs : List Loc} {ls : Array Slot} (hW : WR D ac (z + 80) σ H) (hS : va_S (Ar (z + 80)) s.heap H locs) (hl : lv_has ls 5 [(0, .ref (z + 80 + 0)), (1, .int v1), (2, .int v2), (3, .int v3)]) (h : f_X9_clear_b77 s2 s25 σ v1 v2 v3 = some (r, σf)) : W p l e (rma K 0 0) s m args below meth c H locs 0 0 (MQ below (QV D (Er ac (z + 80)) inR (z + 80) (some (.int r)) σf (Ar (z + 80))) args s 0 0 (Ar (z + 80))) (F0 m 77 ls []) := by
  have hx := C.1.1
  have hb := C.1.2.1
  unfold f_X9_clear_b77 at h
  refine lv_iinc (pc := 77) (v := (v3 + 1)) (lv' := [(3, .int (v3 + 1)), (0, .ref (z + 80 + 0)), (1, .int v1), (2, .int v2)]) hx hb dX9_clear_77 hl (k := 3) rfl rfl (by decide) rfl (fun ls hl => ?_)
  refine lv_goto (pc := 80) (tgt := 25) hx hb dX9_clear_80 (by decide) ?_
  exact hs25 σ (v3 + 1) hW hS (lv_sub hl [1, 2, 3, 0] rfl) h

theorem w_X9_clear_b25 (C : CX cX9_clear 5 RX9 (some .int) D ac p m c s args meth (z, aK, aV) (Ar (z + 80))) (hK : 3 ≤ K) {r : Int32} {σf : Mem}   (v1 : Int32) (v2 : Int32) (s2 : Mem → Int32 → Option (Int32 × Mem)) (hs2 : ∀ (σ : Mem) (v1 : Int32) {H : Heap} {locs : List Loc} {ls : Array Slot} (_ : WR D ac (z + 80) σ H) (_ : va_S (Ar (z + 80)) s.heap H locs) (_ : lv_has ls 5 [(0, .ref (z + 80 + 0)), (1, .int v1)]) (_ : s2 σ v1 = some (r, σf)), W p l e (rma K 0 0) s m args below meth c H locs 0 0 (MQ below (QV D (Er ac (z + 80)) inR (z + 80) (some (.int r)) σf (Ar (z + 80))) args s 0 0 (Ar (z + 80))) (F0 m 2 ls [])) : ∀ (n : Nat) (σ : Mem) (v3 : Int32) {H : Heap} {locs : List Loc} {ls : Array Slot} (hW : WR D ac (z + 80) σ H) (hS : va_S (Ar (z + 80)) s.heap H locs) (hl : lv_has ls 5 [(0, .ref (z + 80 + 0)), (1, .int v1), (2, .int v2), (3, .int v3)]) (h : f_X9_clear_b25 s2 v1 v2 n σ v3 = some (r, σf)), W p l e (rma K 0 0) s m args below meth c H locs 0 0 (MQ below (QV D (Er ac (z + 80)) inR (z + 80) (some (.int r)) σf (Ar (z + 80))) args s 0 0 (Ar (z + 80))) (F0 m 25 ls []) := by
  have hx := C.1.1
  have hb := C.1.2.1
  intro n
  induction n with
  | zero =>
    intro σ v3 H locs ls  hW hS hl h
    cases h
  | succ n ih =>
    intro σ v3 H locs ls  hW hS hl h
    rw [f_X9_clear_b25.eq_2] at h
    refine lv_iload_n (pc := 25) hx hb dX9_clear_25 rfl (lv_at hl 3 rfl) ?_
    refine lv_aload_n (pc := 26) hx hb dX9_clear_26 rfl (lv_at hl 0 rfl) ?_
    refine gf_X9_43 (pc := 27) C hW fl_X9_256 dX9_clear_27 ?_
    refine lv_icmp_ge (pc := 30) (tgt := 83) hx hb dX9_clear_30 (by decide) (fun hc6 => ?_) (fun hc6 => ?_)
    · replace h := o_pos hc6 h
      refine lv_goto (pc := 83) (tgt := 2) hx hb dX9_clear_83 (by decide) ?_
      exact hs2 σ v1 hW hS (lv_sub hl [0, 1] rfl) h
    · replace h := o_neg hc6 h
      refine lv_bipush (pc := 33) (v := 6) hx hb dX9_clear_33 (by decide) ?_
      refine lv_aload_n (pc := 35) hx hb dX9_clear_35 rfl (lv_at hl 0 rfl) ?_
      refine gf_X9_42 (pc := 36) C hW fl_X9_64 dX9_clear_36 ?_
      refine lv_iload_n (pc := 39) hx hb dX9_clear_39 rfl (lv_at hl 3 rfl) ?_
      obtain ⟨hc7, h⟩ := o_chk h
      refine ir_ld (pc := 40) (k := 19) C hW (by decide) (by decide) rfl rfl (inb_in hc7) dX9_clear_40 ?_
      refine lv_imul (pc := 41) hx hb dX9_clear_41 ?_
      refine lv_iconst (pc := 42) (v := 2) hx hb dX9_clear_42 (by decide) ?_
      refine lv_iadd (pc := 43) hx hb dX9_clear_43 ?_
      obtain ⟨x9, hxx9, h⟩ := o_d h
      refine g_top hxx9 ?_
      refine lv_istore (pc := 44) (lv' := [(4, .int x9), (0, .ref (z + 80 + 0)), (1, .int v1), (2, .int v2), (3, .int v3)]) hx hb dX9_clear_44 hl (by decide) rfl (fun ls hl => ?_)
      refine lv_aload_n (pc := 46) hx hb dX9_clear_46 rfl (lv_at hl 1 rfl) ?_
      refine gf_X9_5 (pc := 47) C hW fl_X9_19 dX9_clear_47 ?_
      refine lv_iload (pc := 50) hx hb dX9_clear_50 (lv_at hl 0 rfl) ?_
      refine lv_dup2_11 (pc := 52) hx hb dX9_clear_52 rfl rfl ?_
      obtain ⟨hc9, h⟩ := o_chk h
      refine ir_ld (pc := 53) (k := 4) C hW (by decide) (by decide) rfl rfl (inb_in hc9) dX9_clear_53 ?_
      refine lv_iload_n (pc := 54) hx hb dX9_clear_54 rfl (lv_at hl 3 rfl) ?_
      refine lv_isub (pc := 55) hx hb dX9_clear_55 ?_
      obtain ⟨hc10, h⟩ := o_chk h
      refine ir_st (pc := 56) (k := 4) C hW hS (by decide) (by decide) rfl rfl (inb_in hc10) dX9_clear_56 (fun H locs hW hS => ?_)
      obtain ⟨σ12, hσ12, h⟩ := o_d h
      replace hW : WR D ac (z + 80) σ12 H := by rw [← hσ12]; exact hW
      refine lv_aload_n (pc := 57) hx hb dX9_clear_57 rfl (lv_at hl 1 rfl) ?_
      refine gf_X9_5 (pc := 58) C hW fl_X9_19 dX9_clear_58 ?_
      refine lv_iload (pc := 61) hx hb dX9_clear_61 (lv_at hl 0 rfl) ?_
      obtain ⟨hc12, h⟩ := o_chk h
      refine ir_ld (pc := 63) (k := 4) C hW (by decide) (by decide) rfl rfl (inb_in hc12) dX9_clear_63 ?_
      refine lv_if_ne (pc := 64) (tgt := 77) hx hb dX9_clear_64 (by decide) (fun hc13 => ?_) (fun hc13 => ?_)
      · replace h := o_neg hc13 h
        exact w_X9_clear_b77 C hK σ12 v1 v2 v3 s2 hs2 (f_X9_clear_b25 s2 v1 v2 n) (fun σ v3 {H : Heap} {locs : List Loc} {ls : Array Slot}  hW hS hl h => ih σ v3 hW hS hl h) hW hS (lv_sub hl [1, 2, 3, 4] rfl) h
      · replace h := o_pos hc13 h
        refine lv_aload_n (pc := 67) hx hb dX9_clear_67 rfl (lv_at hl 1 rfl) ?_
        refine lv_aload_n (pc := 68) hx hb dX9_clear_68 rfl (lv_at hl 1 rfl) ?_
        refine gf_X9_42 (pc := 69) C hW fl_X9_64 dX9_clear_69 ?_
        refine lv_iload_n (pc := 72) hx hb dX9_clear_72 rfl (lv_at hl 4 rfl) ?_
        obtain ⟨hc14, h⟩ := o_chk h
        refine ir_ld (pc := 73) (k := 19) C hW (by decide) (by decide) rfl rfl (inb_in hc14) dX9_clear_73 ?_
        obtain ⟨σ17, hc15, h⟩ := o_b h
        refine g_virt (pc := 74) (st2 := []) (rest := []) C hW hS (c_X9_clears (K := K - 1) (by omega) hc15) mw_X9_265 inR0 Er_0 rfl (hRoom (by omega) (by decide)) rfl rfl rfl (Nat.le_of_ble_eq_true rfl) hl.1 dX9_clear_74 (fun H locs hW hS => ?_)
        exact w_X9_clear_b77 C hK σ17 v1 v2 v3 s2 hs2 (f_X9_clear_b25 s2 v1 v2 n) (fun σ v3 {H : Heap} {locs : List Loc} {ls : Array Slot}  hW hS hl h => ih σ v3 hW hS hl h) hW hS (lv_sub hl [1, 2, 3, 4] rfl) h

theorem w_X9_clear_b2 (C : CX cX9_clear 5 RX9 (some .int) D ac p m c s args meth (z, aK, aV) (Ar (z + 80))) (hK : 3 ≤ K) {r : Int32} {σf : Mem}    : ∀ (n : Nat) (σ : Mem) (v1 : Int32) {H : Heap} {locs : List Loc} {ls : Array Slot} (hW : WR D ac (z + 80) σ H) (hS : va_S (Ar (z + 80)) s.heap H locs) (hl : lv_has ls 5 [(0, .ref (z + 80 + 0)), (1, .int v1)]) (h : f_X9_clear_b2 n σ v1 = some (r, σf)), W p l e (rma K 0 0) s m args below meth c H locs 0 0 (MQ below (QV D (Er ac (z + 80)) inR (z + 80) (some (.int r)) σf (Ar (z + 80))) args s 0 0 (Ar (z + 80))) (F0 m 2 ls []) := by
  have hx := C.1.1
  have hb := C.1.2.1
  intro n
  induction n with
  | zero =>
    intro σ v1 H locs ls  hW hS hl h
    cases h
  | succ n ih =>
    intro σ v1 H locs ls  hW hS hl h
    rw [f_X9_clear_b2.eq_2] at h
    refine lv_aload_n (pc := 2) hx hb dX9_clear_2 rfl (lv_at hl 0 rfl) ?_
    obtain ⟨r2, σ3, hc0, h⟩ := o_b2 h
    refine g_virt (pc := 3) (st2 := [.int r2]) (rest := []) C hW hS (c_X9_findsRing (K := K - 1) (by omega) hc0) mw_X9_259 inR0 Er_0 rfl (hRoom (by omega) (by decide)) rfl rfl rfl (Nat.le_of_ble_eq_true rfl) hl.1 dX9_clear_3 (fun H locs hW hS => ?_)
    refine lv_if_eq (pc := 6) (tgt := 86) hx hb dX9_clear_6 (by decide) (fun hc3 => ?_) (fun hc3 => ?_)
    · replace h := o_pos hc3 h
      refine lv_iload_n (pc := 86) hx hb dX9_clear_86 rfl (lv_at hl 1 rfl) ?_
      exact g_ret (pc := 87) C hW hS rfl dX9_clear_87 (congrArg (fun q => some (Value.int q)) (o_r h).1) (o_r h).2
    · replace h := o_neg hc3 h
      refine lv_aload_n (pc := 9) hx hb dX9_clear_9 rfl (lv_at hl 0 rfl) ?_
      obtain ⟨r6, hc4, h⟩ := o_b h
      refine g_virt (pc := 10) (st2 := [.int r6]) (rest := []) C hW hS (c_X9_leastOnWay (K := K - 1) (by omega) hc4) mw_X9_262 inR0 Er_0 rfl (hRoom (by omega) (by decide)) rfl rfl rfl (Nat.le_of_ble_eq_true rfl) hl.1 dX9_clear_10 (fun H locs hW hS => ?_)
      refine lv_istore_n (pc := 13) (lv' := [(2, .int r6), (0, .ref (z + 80 + 0)), (1, .int v1)]) hx hb dX9_clear_13 rfl hl (by decide) rfl (fun ls hl => ?_)
      refine lv_iload_n (pc := 14) hx hb dX9_clear_14 rfl (lv_at hl 2 rfl) ?_
      refine lv_iload_n (pc := 15) hx hb dX9_clear_15 rfl (lv_at hl 0 rfl) ?_
      refine lv_aload_n (pc := 16) hx hb dX9_clear_16 rfl (lv_at hl 1 rfl) ?_
      refine gf_X9_43 (pc := 17) C hW fl_X9_256 dX9_clear_17 ?_
      refine lv_imul (pc := 20) hx hb dX9_clear_20 ?_
      refine lv_iadd (pc := 21) hx hb dX9_clear_21 ?_
      refine lv_istore_n (pc := 22) (lv' := [(1, .int (v1 + (r6 * (σ3 0 43)))), (2, .int r6), (0, .ref (z + 80 + 0))]) hx hb dX9_clear_22 rfl hl (by decide) rfl (fun ls hl => ?_)
      refine lv_iconst (pc := 23) (v := 0) hx hb dX9_clear_23 (by decide) ?_
      refine lv_istore_n (pc := 24) (lv' := [(3, .int (0 : Int32)), (1, .int (v1 + (r6 * (σ3 0 43)))), (2, .int r6), (0, .ref (z + 80 + 0))]) hx hb dX9_clear_24 rfl hl (by decide) rfl (fun ls hl => ?_)
      exact w_X9_clear_b25 C hK (v1 + (r6 * (σ3 0 43))) r6 (f_X9_clear_b2  n) (fun σ v1 {H : Heap} {locs : List Loc} {ls : Array Slot}  hW hS hl h => ih σ v1 hW hS hl h) FU σ3 (0 : Int32) hW hS (lv_sub hl [3, 1, 2, 0] rfl) h

theorem c_X9_clear {K : Nat}  (hK : 3 ≤ K) {σ : Mem} {σf : Mem} {r : Int32} (h : f_X9_clear σ = some (r, σf)) : MC l D (Er ac (z + 80)) inR (z + 80) ac (z, aK, aV) (Ar (z + 80)) yX9_clear cX9_clear 5 (some .int) K [.ref (z + 80 + 0)] σ (some (.int r)) σf := by
  refine MC.of (fun q hq => by have := hq.1; show z ≤ q; omega) (plainFor_of_name (by decide)) (Nat.le_of_ble_eq_true rfl) ?_
  intro p e s m below meth c args C hW ls hl
  replace hl : lv_has ls 5 [(0, .ref (z + 80 + 0))] := hl
  have hS : va_S (Ar (z + 80)) s.heap s.heap [] := va_S.rf
  have hx := C.1.1
  have hb := C.1.2.1
  unfold f_X9_clear at h
  refine lv_iconst (pc := 0) (v := 0) hx hb dX9_clear_0 (by decide) ?_
  refine lv_istore_n (pc := 1) (lv' := [(1, .int (0 : Int32)), (0, .ref (z + 80 + 0))]) hx hb dX9_clear_1 rfl hl (by decide) rfl (fun ls hl => ?_)
  exact w_X9_clear_b2 C hK FU σ (0 : Int32) hW hS (lv_sub hl [1, 0] rfl) h

theorem w_X9_net_b68 (C : CX cX9_net 4 RX9 (some .int) D ac p m c s args meth (z, aK, aV) (Ar (z + 80))) (hK : 2 ≤ K) {r : Int32}   (σ : Mem) (v1 : Int32) (v3 : Int32) (k0 : Int32) (k1 : Int32) (s21 : Int32 → Int32 → Option Int32) (hs21 : ∀ (v2 : Int32) (v3 : Int32) {H : Heap} {locs : List Loc} {ls : Array Slot} (_ : WR D ac (z + 80) σ H) (_ : va_S (Ar (z + 80)) s.heap H locs) (_ : lv_has ls 4 [(0, .ref (z + 80 + 0)), (1, .int v1), (2, .int v2), (3, .int v3)]) (_ : s21 v2 v3 = some r), W p l e (rma K 0 0) s m args below meth c H locs 0 0 (MQ below (QV D (Er ac (z + 80)) inR (z + 80) (some (.int r)) σ (Ar (z + 80))) args s 0 0 (Ar (z + 80))) (F0 m 21 ls [])) {H : Heap} {locs : List Loc} {ls : Array Slot} (hW : WR D ac (z + 80) σ H) (hS : va_S (Ar (z + 80)) s.heap H locs) (hl : lv_has ls 4 [(0, .ref (z + 80 + 0)), (1, .int v1), (3, .int v3)]) (h : f_X9_net_b68 s21 σ v1 v3 k0 k1 = some r) : W p l e (rma K 0 0) s m args below meth c H locs 0 0 (MQ below (QV D (Er ac (z + 80)) inR (z + 80) (some (.int r)) σ (Ar (z + 80))) args s 0 0 (Ar (z + 80))) (F0 m 68 ls [.int k1, .int k0]) := by
  have hx := C.1.1
  have hb := C.1.2.1
  unfold f_X9_net_b68 at h
  refine lv_iadd (pc := 68) hx hb dX9_net_68 ?_
  refine lv_istore_n (pc := 69) (lv' := [(2, .int (k0 + k1)), (0, .ref (z + 80 + 0)), (1, .int v1), (3, .int v3)]) hx hb dX9_net_69 rfl hl (by decide) rfl (fun ls hl => ?_)
  refine lv_iinc (pc := 70) (v := (v3 + 1)) (lv' := [(3, .int (v3 + 1)), (2, .int (k0 + k1)), (0, .ref (z + 80 + 0)), (1, .int v1)]) hx hb dX9_net_70 hl (k := 3) rfl rfl (by decide) rfl (fun ls hl => ?_)
  refine lv_goto (pc := 73) (tgt := 21) hx hb dX9_net_73 (by decide) ?_
  exact hs21 (k0 + k1) (v3 + 1) hW hS (lv_sub hl [2, 3, 1, 0] rfl) h

theorem w_X9_net_b67 (C : CX cX9_net 4 RX9 (some .int) D ac p m c s args meth (z, aK, aV) (Ar (z + 80))) (hK : 2 ≤ K) {r : Int32}   (σ : Mem) (v1 : Int32) (v3 : Int32) (k0 : Int32) (s21 : Int32 → Int32 → Option Int32) (hs21 : ∀ (v2 : Int32) (v3 : Int32) {H : Heap} {locs : List Loc} {ls : Array Slot} (_ : WR D ac (z + 80) σ H) (_ : va_S (Ar (z + 80)) s.heap H locs) (_ : lv_has ls 4 [(0, .ref (z + 80 + 0)), (1, .int v1), (2, .int v2), (3, .int v3)]) (_ : s21 v2 v3 = some r), W p l e (rma K 0 0) s m args below meth c H locs 0 0 (MQ below (QV D (Er ac (z + 80)) inR (z + 80) (some (.int r)) σ (Ar (z + 80))) args s 0 0 (Ar (z + 80))) (F0 m 21 ls [])) {H : Heap} {locs : List Loc} {ls : Array Slot} (hW : WR D ac (z + 80) σ H) (hS : va_S (Ar (z + 80)) s.heap H locs) (hl : lv_has ls 4 [(0, .ref (z + 80 + 0)), (1, .int v1), (3, .int v3)]) (h : f_X9_net_b67 s21 σ v1 v3 k0 = some r) : W p l e (rma K 0 0) s m args below meth c H locs 0 0 (MQ below (QV D (Er ac (z + 80)) inR (z + 80) (some (.int r)) σ (Ar (z + 80))) args s 0 0 (Ar (z + 80))) (F0 m 67 ls [.int k0]) := by
  have hx := C.1.1
  have hb := C.1.2.1
  unfold f_X9_net_b67 at h
  refine lv_iconst (pc := 67) (v := 0) hx hb dX9_net_67 (by decide) ?_
  exact w_X9_net_b68 C hK σ v1 v3 k0 (0 : Int32) s21 hs21 hW hS (lv_sub hl [0, 1, 2] rfl) h

theorem w_X9_net_b21 (C : CX cX9_net 4 RX9 (some .int) D ac p m c s args meth (z, aK, aV) (Ar (z + 80))) (hK : 2 ≤ K) {r : Int32}   (σ : Mem) (v1 : Int32)  : ∀ (n : Nat) (v2 : Int32) (v3 : Int32) {H : Heap} {locs : List Loc} {ls : Array Slot} (hW : WR D ac (z + 80) σ H) (hS : va_S (Ar (z + 80)) s.heap H locs) (hl : lv_has ls 4 [(0, .ref (z + 80 + 0)), (1, .int v1), (2, .int v2), (3, .int v3)]) (h : f_X9_net_b21 σ v1 n v2 v3 = some r), W p l e (rma K 0 0) s m args below meth c H locs 0 0 (MQ below (QV D (Er ac (z + 80)) inR (z + 80) (some (.int r)) σ (Ar (z + 80))) args s 0 0 (Ar (z + 80))) (F0 m 21 ls []) := by
  have hx := C.1.1
  have hb := C.1.2.1
  intro n
  induction n with
  | zero =>
    intro v2 v3 H locs ls  hW hS hl h
    cases h
  | succ n ih =>
    intro v2 v3 H locs ls  hW hS hl h
    rw [f_X9_net_b21.eq_2] at h
    refine lv_iload_n (pc := 21) hx hb dX9_net_21 rfl (lv_at hl 3 rfl) ?_
    refine lv_aload_n (pc := 22) hx hb dX9_net_22 rfl (lv_at hl 0 rfl) ?_
    refine gf_X9_4 (pc := 23) C hW fl_X9_88 dX9_net_23 ?_
    refine lv_icmp_ge (pc := 26) (tgt := 76) hx hb dX9_net_26 (by decide) (fun hc3 => ?_) (fun hc3 => ?_)
    · replace h := o_pos hc3 h
      refine lv_iload_n (pc := 76) hx hb dX9_net_76 rfl (lv_at hl 2 rfl) ?_
      exact g_ret (pc := 77) C hW hS rfl dX9_net_77 (congrArg (fun q => some (Value.int q)) (Option.some.inj h).symm) rfl
    · replace h := o_neg hc3 h
      refine lv_iload_n (pc := 29) hx hb dX9_net_29 rfl (lv_at hl 2 rfl) ?_
      refine lv_aload_n (pc := 30) hx hb dX9_net_30 rfl (lv_at hl 0 rfl) ?_
      refine gf_X9_5 (pc := 31) C hW fl_X9_19 dX9_net_31 ?_
      refine lv_bipush (pc := 34) (v := 6) hx hb dX9_net_34 (by decide) ?_
      refine lv_iload_n (pc := 36) hx hb dX9_net_36 rfl (lv_at hl 3 rfl) ?_
      refine lv_imul (pc := 37) hx hb dX9_net_37 ?_
      refine lv_iconst (pc := 38) (v := 1) hx hb dX9_net_38 (by decide) ?_
      refine lv_iadd (pc := 39) hx hb dX9_net_39 ?_
      obtain ⟨hc4, h⟩ := o_chk h
      refine ir_ld (pc := 40) (k := 4) C hW (by decide) (by decide) rfl rfl (inb_in hc4) dX9_net_40 ?_
      refine lv_iload_n (pc := 41) hx hb dX9_net_41 rfl (lv_at hl 1 rfl) ?_
      refine lv_icmp_ne (pc := 42) (tgt := 67) hx hb dX9_net_42 (by decide) (fun hc5 => ?_) (fun hc5 => ?_)
      · replace h := o_neg hc5 h
        exact w_X9_net_b67 C hK σ v1 v3 v2 (f_X9_net_b21 σ v1 n) (fun v2 v3 {H : Heap} {locs : List Loc} {ls : Array Slot}  hW hS hl h => ih v2 v3 hW hS hl h) hW hS (lv_sub hl [0, 1, 3] rfl) h
      · replace h := o_pos hc5 h
        refine lv_aload_n (pc := 45) hx hb dX9_net_45 rfl (lv_at hl 0 rfl) ?_
        refine lv_iload_n (pc := 46) hx hb dX9_net_46 rfl (lv_at hl 3 rfl) ?_
        obtain ⟨r8, hc6, h⟩ := o_b h
        refine g_virt (pc := 47) (st2 := [.int r8, .int v2]) (rest := [.int v2]) C hW hS (c_X9_stands (K := K - 1) (by omega) hc6) mw_X9_164 inR0 Er_0 rfl (hRoom (by omega) (by decide)) rfl rfl rfl (Nat.le_of_ble_eq_true rfl) hl.1 dX9_net_47 (fun H locs hW hS => ?_)
        refine lv_if_eq (pc := 50) (tgt := 67) hx hb dX9_net_50 (by decide) (fun hc8 => ?_) (fun hc8 => ?_)
        · replace h := o_pos hc8 h
          exact w_X9_net_b67 C hK σ v1 v3 v2 (f_X9_net_b21 σ v1 n) (fun v2 v3 {H : Heap} {locs : List Loc} {ls : Array Slot}  hW hS hl h => ih v2 v3 hW hS hl h) hW hS (lv_sub hl [0, 1, 3] rfl) h
        · replace h := o_neg hc8 h
          refine lv_aload_n (pc := 53) hx hb dX9_net_53 rfl (lv_at hl 0 rfl) ?_
          refine gf_X9_5 (pc := 54) C hW fl_X9_19 dX9_net_54 ?_
          refine lv_bipush (pc := 57) (v := 6) hx hb dX9_net_57 (by decide) ?_
          refine lv_iload_n (pc := 59) hx hb dX9_net_59 rfl (lv_at hl 3 rfl) ?_
          refine lv_imul (pc := 60) hx hb dX9_net_60 ?_
          refine lv_iconst (pc := 61) (v := 2) hx hb dX9_net_61 (by decide) ?_
          refine lv_iadd (pc := 62) hx hb dX9_net_62 ?_
          obtain ⟨hc9, h⟩ := o_chk h
          refine ir_ld (pc := 63) (k := 4) C hW (by decide) (by decide) rfl rfl (inb_in hc9) dX9_net_63 ?_
          refine lv_goto (pc := 64) (tgt := 68) hx hb dX9_net_64 (by decide) ?_
          exact w_X9_net_b68 C hK σ v1 v3 v2 (σ 4 ((((6 : Int32) * v3) + (2 : Int32)).toNatClampNeg)) (f_X9_net_b21 σ v1 n) (fun v2 v3 {H : Heap} {locs : List Loc} {ls : Array Slot}  hW hS hl h => ih v2 v3 hW hS hl h) hW hS (lv_sub hl [0, 1, 3] rfl) h

theorem c_X9_net {K : Nat}  (hK : 2 ≤ K) {σ : Mem} {v1 : Int32} {r : Int32} (h : f_X9_net σ v1 = some r) : MC l D (Er ac (z + 80)) inR (z + 80) ac (z, aK, aV) (Ar (z + 80)) yX9_net cX9_net 4 (some .int) K [.ref (z + 80 + 0), .int v1] σ (some (.int r)) σ := by
  refine MC.of (fun q hq => by have := hq.1; show z ≤ q; omega) (plainFor_of_name (by decide)) (Nat.le_of_ble_eq_true rfl) ?_
  intro p e s m below meth c args C hW ls hl
  replace hl : lv_has ls 4 [(0, .ref (z + 80 + 0)), (1, .int v1)] := hl
  have hS : va_S (Ar (z + 80)) s.heap s.heap [] := va_S.rf
  have hx := C.1.1
  have hb := C.1.2.1
  unfold f_X9_net at h
  refine lv_aload_n (pc := 0) hx hb dX9_net_0 rfl (lv_at hl 0 rfl) ?_
  refine lv_iload_n (pc := 1) hx hb dX9_net_1 rfl (lv_at hl 1 rfl) ?_
  refine g_virt (pc := 2) (st2 := [.int (f_X9_isMan σ v1)]) (rest := []) C hW hS (c_X9_isMan (K := K - 1) (by omega) rfl) mw_X9_176 inR0 Er_0 rfl (hRoom (by omega) (by decide)) rfl rfl rfl (Nat.le_of_ble_eq_true rfl) hl.1 dX9_net_2 (fun H locs hW hS => ?_)
  refine lv_if_ne (pc := 5) (tgt := 12) hx hb dX9_net_5 (by decide) (fun hc0 => ?_) (fun hc0 => ?_)
  · replace h := o_neg hc0 h
    refine lv_aload_n (pc := 12) hx hb dX9_net_12 rfl (lv_at hl 0 rfl) ?_
    refine lv_iload_n (pc := 13) hx hb dX9_net_13 rfl (lv_at hl 1 rfl) ?_
    obtain ⟨r3, hc1, h⟩ := o_b h
    refine g_virt (pc := 14) (st2 := [.int r3]) (rest := []) C hW hS (c_X9_owedBy (K := K - 1) (by omega) hc1) mw_X9_167 inR0 Er_0 rfl (hRoom (by omega) (by decide)) rfl rfl rfl (Nat.le_of_ble_eq_true rfl) hl.1 dX9_net_14 (fun H locs hW hS => ?_)
    refine lv_ineg (pc := 17) hx hb dX9_net_17 ?_
    refine lv_istore_n (pc := 18) (lv' := [(2, .int (-r3)), (0, .ref (z + 80 + 0)), (1, .int v1)]) hx hb dX9_net_18 rfl hl (by decide) rfl (fun ls hl => ?_)
    refine lv_iconst (pc := 19) (v := 0) hx hb dX9_net_19 (by decide) ?_
    refine lv_istore_n (pc := 20) (lv' := [(3, .int (0 : Int32)), (2, .int (-r3)), (0, .ref (z + 80 + 0)), (1, .int v1)]) hx hb dX9_net_20 rfl hl (by decide) rfl (fun ls hl => ?_)
    exact w_X9_net_b21 C hK σ v1 FU (-r3) (0 : Int32) hW hS (lv_sub hl [2, 3, 1, 0] rfl) h
  · replace h := o_pos hc0 h
    refine lv_ldcw (pc := 8) hx hb C.1.2.2.2.1 (C.1.2.2.2.2 _ cn_X9_268) dX9_net_8 ?_
    exact g_ret (pc := 11) C hW hS rfl dX9_net_11 (congrArg (fun q => some (Value.int q)) (Option.some.inj h).symm) rfl

theorem w_X9_fallStep_b138 (C : CX cX9_fallStep 7 RX9 (some .int) D ac p m c s args meth (z, aK, aV) (Ar (z + 80))) (hK : 2 ≤ K) {r : Int32}   (σ : Mem) (v1 : Int32) (v3 : Int32) (k0 : Int32) (k1 : Int32) (s4 : Int32 → Int32 → Option Int32) (hs4 : ∀ (v2 : Int32) (v3 : Int32) {H : Heap} {locs : List Loc} {ls : Array Slot} (_ : WR D ac (z + 80) σ H) (_ : va_S (Ar (z + 80)) s.heap H locs) (_ : lv_has ls 7 [(0, .ref (z + 80 + 0)), (1, .int v1), (2, .int v2), (3, .int v3)]) (_ : s4 v2 v3 = some r), W p l e (rma K 0 0) s m args below meth c H locs 0 0 (MQ below (QV D (Er ac (z + 80)) inR (z + 80) (some (.int r)) σ (Ar (z + 80))) args s 0 0 (Ar (z + 80))) (F0 m 4 ls [])) {H : Heap} {locs : List Loc} {ls : Array Slot} (hW : WR D ac (z + 80) σ H) (hS : va_S (Ar (z + 80)) s.heap H locs) (hl : lv_has ls 7 [(0, .ref (z + 80 + 0)), (1, .int v1), (3, .int v3)]) (h : f_X9_fallStep_b138 s4 σ v1 v3 k0 k1 = some r) : W p l e (rma K 0 0) s m args below meth c H locs 0 0 (MQ below (QV D (Er ac (z + 80)) inR (z + 80) (some (.int r)) σ (Ar (z + 80))) args s 0 0 (Ar (z + 80))) (F0 m 138 ls [.int k1, .int k0]) := by
  have hx := C.1.1
  have hb := C.1.2.1
  unfold f_X9_fallStep_b138 at h
  refine lv_ior (pc := 138) hx hb dX9_fallStep_138 ?_
  refine lv_istore_n (pc := 139) (lv' := [(2, .int (k0 ||| k1)), (0, .ref (z + 80 + 0)), (1, .int v1), (3, .int v3)]) hx hb dX9_fallStep_139 rfl hl (by decide) rfl (fun ls hl => ?_)
  refine lv_iinc (pc := 140) (v := (v3 + 1)) (lv' := [(3, .int (v3 + 1)), (2, .int (k0 ||| k1)), (0, .ref (z + 80 + 0)), (1, .int v1)]) hx hb dX9_fallStep_140 hl (k := 3) rfl rfl (by decide) rfl (fun ls hl => ?_)
  refine lv_goto (pc := 143) (tgt := 4) hx hb dX9_fallStep_143 (by decide) ?_
  exact hs4 (k0 ||| k1) (v3 + 1) hW hS (lv_sub hl [2, 3, 1, 0] rfl) h

theorem w_X9_fallStep_b111 (C : CX cX9_fallStep 7 RX9 (some .int) D ac p m c s args meth (z, aK, aV) (Ar (z + 80))) (hK : 2 ≤ K) {r : Int32}   (σ : Mem) (v1 : Int32) (v2 : Int32) (v3 : Int32) (v5 : Int32) (k0 : Int32) (k1 : Int32) (s4 : Int32 → Int32 → Option Int32) (hs4 : ∀ (v2 : Int32) (v3 : Int32) {H : Heap} {locs : List Loc} {ls : Array Slot} (_ : WR D ac (z + 80) σ H) (_ : va_S (Ar (z + 80)) s.heap H locs) (_ : lv_has ls 7 [(0, .ref (z + 80 + 0)), (1, .int v1), (2, .int v2), (3, .int v3)]) (_ : s4 v2 v3 = some r), W p l e (rma K 0 0) s m args below meth c H locs 0 0 (MQ below (QV D (Er ac (z + 80)) inR (z + 80) (some (.int r)) σ (Ar (z + 80))) args s 0 0 (Ar (z + 80))) (F0 m 4 ls [])) (s30 : Int32 → Int32 → Option Int32) (hs30 : ∀ (v4 : Int32) (v5 : Int32) {H : Heap} {locs : List Loc} {ls : Array Slot} (_ : WR D ac (z + 80) σ H) (_ : va_S (Ar (z + 80)) s.heap H locs) (_ : lv_has ls 7 [(0, .ref (z + 80 + 0)), (1, .int v1), (2, .int v2), (3, .int v3), (4, .int v4), (5, .int v5)]) (_ : s30 v4 v5 = some r), W p l e (rma K 0 0) s m args below meth c H locs 0 0 (MQ below (QV D (Er ac (z + 80)) inR (z + 80) (some (.int r)) σ (Ar (z + 80))) args s 0 0 (Ar (z + 80))) (F0 m 30 ls [])) {H : Heap} {locs : List Loc} {ls : Array Slot} (hW : WR D ac (z + 80) σ H) (hS : va_S (Ar (z + 80)) s.heap H locs) (hl : lv_has ls 7 [(0, .ref (z + 80 + 0)), (1, .int v1), (2, .int v2), (3, .int v3), (5, .int v5)]) (h : f_X9_fallStep_b111 s4 s30 σ v1 v2 v3 v5 k0 k1 = some r) : W p l e (rma K 0 0) s m args below meth c H locs 0 0 (MQ below (QV D (Er ac (z + 80)) inR (z + 80) (some (.int r)) σ (Ar (z + 80))) args s 0 0 (Ar (z + 80))) (F0 m 111 ls [.int k1, .int k0]) := by
  have hx := C.1.1
  have hb := C.1.2.1
  unfold f_X9_fallStep_b111 at h
  refine lv_iadd (pc := 111) hx hb dX9_fallStep_111 ?_
  refine lv_istore (pc := 112) (lv' := [(4, .int (k0 + k1)), (0, .ref (z + 80 + 0)), (1, .int v1), (2, .int v2), (3, .int v3), (5, .int v5)]) hx hb dX9_fallStep_112 hl (by decide) rfl (fun ls hl => ?_)
  refine lv_iinc (pc := 114) (v := (v5 + 1)) (lv' := [(5, .int (v5 + 1)), (4, .int (k0 + k1)), (0, .ref (z + 80 + 0)), (1, .int v1), (2, .int v2), (3, .int v3)]) hx hb dX9_fallStep_114 hl (k := 5) rfl rfl (by decide) rfl (fun ls hl => ?_)
  refine lv_goto (pc := 117) (tgt := 30) hx hb dX9_fallStep_117 (by decide) ?_
  exact hs30 (k0 + k1) (v5 + 1) hW hS (lv_sub hl [2, 3, 4, 5, 1, 0] rfl) h

theorem w_X9_fallStep_b86 (C : CX cX9_fallStep 7 RX9 (some .int) D ac p m c s args meth (z, aK, aV) (Ar (z + 80))) (hK : 2 ≤ K) {r : Int32}   (σ : Mem) (v1 : Int32) (v2 : Int32) (v3 : Int32) (v4 : Int32) (v5 : Int32) (k0 : Int32) (s4 : Int32 → Int32 → Option Int32) (hs4 : ∀ (v2 : Int32) (v3 : Int32) {H : Heap} {locs : List Loc} {ls : Array Slot} (_ : WR D ac (z + 80) σ H) (_ : va_S (Ar (z + 80)) s.heap H locs) (_ : lv_has ls 7 [(0, .ref (z + 80 + 0)), (1, .int v1), (2, .int v2), (3, .int v3)]) (_ : s4 v2 v3 = some r), W p l e (rma K 0 0) s m args below meth c H locs 0 0 (MQ below (QV D (Er ac (z + 80)) inR (z + 80) (some (.int r)) σ (Ar (z + 80))) args s 0 0 (Ar (z + 80))) (F0 m 4 ls [])) (s30 : Int32 → Int32 → Option Int32) (hs30 : ∀ (v4 : Int32) (v5 : Int32) {H : Heap} {locs : List Loc} {ls : Array Slot} (_ : WR D ac (z + 80) σ H) (_ : va_S (Ar (z + 80)) s.heap H locs) (_ : lv_has ls 7 [(0, .ref (z + 80 + 0)), (1, .int v1), (2, .int v2), (3, .int v3), (4, .int v4), (5, .int v5)]) (_ : s30 v4 v5 = some r), W p l e (rma K 0 0) s m args below meth c H locs 0 0 (MQ below (QV D (Er ac (z + 80)) inR (z + 80) (some (.int r)) σ (Ar (z + 80))) args s 0 0 (Ar (z + 80))) (F0 m 30 ls [])) {H : Heap} {locs : List Loc} {ls : Array Slot} (hW : WR D ac (z + 80) σ H) (hS : va_S (Ar (z + 80)) s.heap H locs) (hl : lv_has ls 7 [(0, .ref (z + 80 + 0)), (1, .int v1), (2, .int v2), (3, .int v3), (4, .int v4), (5, .int v5)]) (h : f_X9_fallStep_b86 s4 s30 σ v1 v2 v3 v4 v5 k0 = some r) : W p l e (rma K 0 0) s m args below meth c H locs 0 0 (MQ below (QV D (Er ac (z + 80)) inR (z + 80) (some (.int r)) σ (Ar (z + 80))) args s 0 0 (Ar (z + 80))) (F0 m 86 ls [.int k0]) := by
  have hx := C.1.1
  have hb := C.1.2.1
  unfold f_X9_fallStep_b86 at h
  refine lv_istore (pc := 86) (lv' := [(6, .int k0), (0, .ref (z + 80 + 0)), (1, .int v1), (2, .int v2), (3, .int v3), (4, .int v4), (5, .int v5)]) hx hb dX9_fallStep_86 hl (by decide) rfl (fun ls hl => ?_)
  refine lv_iload (pc := 88) hx hb dX9_fallStep_88 (lv_at hl 5 rfl) ?_
  refine lv_iload (pc := 90) hx hb dX9_fallStep_90 (lv_at hl 0 rfl) ?_
  refine lv_if_eq (pc := 92) (tgt := 110) hx hb dX9_fallStep_92 (by decide) (fun hc15 => ?_) (fun hc15 => ?_)
  · replace h := o_pos hc15 h
    refine lv_iconst (pc := 110) (v := 0) hx hb dX9_fallStep_110 (by decide) ?_
    exact w_X9_fallStep_b111 C hK σ v1 v2 v3 v5 v4 (0 : Int32) s4 hs4 s30 hs30 hW hS (lv_sub hl [1, 2, 3, 4, 6] rfl) h
  · replace h := o_neg hc15 h
    refine lv_aload_n (pc := 95) hx hb dX9_fallStep_95 rfl (lv_at hl 1 rfl) ?_
    refine gf_X9_5 (pc := 96) C hW fl_X9_19 dX9_fallStep_96 ?_
    refine lv_bipush (pc := 99) (v := 6) hx hb dX9_fallStep_99 (by decide) ?_
    refine lv_iload (pc := 101) hx hb dX9_fallStep_101 (lv_at hl 6 rfl) ?_
    refine lv_imul (pc := 103) hx hb dX9_fallStep_103 ?_
    refine lv_iconst (pc := 104) (v := 2) hx hb dX9_fallStep_104 (by decide) ?_
    refine lv_iadd (pc := 105) hx hb dX9_fallStep_105 ?_
    obtain ⟨hc16, h⟩ := o_chk h
    refine ir_ld (pc := 106) (k := 4) C hW (by decide) (by decide) rfl rfl (inb_in hc16) dX9_fallStep_106 ?_
    refine lv_goto (pc := 107) (tgt := 111) hx hb dX9_fallStep_107 (by decide) ?_
    exact w_X9_fallStep_b111 C hK σ v1 v2 v3 v5 v4 (σ 4 ((((6 : Int32) * v5) + (2 : Int32)).toNatClampNeg)) s4 hs4 s30 hs30 hW hS (lv_sub hl [1, 2, 3, 4, 6] rfl) h

theorem w_X9_fallStep_b85 (C : CX cX9_fallStep 7 RX9 (some .int) D ac p m c s args meth (z, aK, aV) (Ar (z + 80))) (hK : 2 ≤ K) {r : Int32}   (σ : Mem) (v1 : Int32) (v2 : Int32) (v3 : Int32) (v4 : Int32) (v5 : Int32) (s4 : Int32 → Int32 → Option Int32) (hs4 : ∀ (v2 : Int32) (v3 : Int32) {H : Heap} {locs : List Loc} {ls : Array Slot} (_ : WR D ac (z + 80) σ H) (_ : va_S (Ar (z + 80)) s.heap H locs) (_ : lv_has ls 7 [(0, .ref (z + 80 + 0)), (1, .int v1), (2, .int v2), (3, .int v3)]) (_ : s4 v2 v3 = some r), W p l e (rma K 0 0) s m args below meth c H locs 0 0 (MQ below (QV D (Er ac (z + 80)) inR (z + 80) (some (.int r)) σ (Ar (z + 80))) args s 0 0 (Ar (z + 80))) (F0 m 4 ls [])) (s30 : Int32 → Int32 → Option Int32) (hs30 : ∀ (v4 : Int32) (v5 : Int32) {H : Heap} {locs : List Loc} {ls : Array Slot} (_ : WR D ac (z + 80) σ H) (_ : va_S (Ar (z + 80)) s.heap H locs) (_ : lv_has ls 7 [(0, .ref (z + 80 + 0)), (1, .int v1), (2, .int v2), (3, .int v3), (4, .int v4), (5, .int v5)]) (_ : s30 v4 v5 = some r), W p l e (rma K 0 0) s m args below meth c H locs 0 0 (MQ below (QV D (Er ac (z + 80)) inR (z + 80) (some (.int r)) σ (Ar (z + 80))) args s 0 0 (Ar (z + 80))) (F0 m 30 ls [])) {H : Heap} {locs : List Loc} {ls : Array Slot} (hW : WR D ac (z + 80) σ H) (hS : va_S (Ar (z + 80)) s.heap H locs) (hl : lv_has ls 7 [(0, .ref (z + 80 + 0)), (1, .int v1), (2, .int v2), (3, .int v3), (4, .int v4), (5, .int v5)]) (h : f_X9_fallStep_b85 s4 s30 σ v1 v2 v3 v4 v5 = some r) : W p l e (rma K 0 0) s m args below meth c H locs 0 0 (MQ below (QV D (Er ac (z + 80)) inR (z + 80) (some (.int r)) σ (Ar (z + 80))) args s 0 0 (Ar (z + 80))) (F0 m 85 ls []) := by
  have hx := C.1.1
  have hb := C.1.2.1
  unfold f_X9_fallStep_b85 at h
  refine lv_iconst (pc := 85) (v := 0) hx hb dX9_fallStep_85 (by decide) ?_
  exact w_X9_fallStep_b86 C hK σ v1 v2 v3 v4 v5 (0 : Int32) s4 hs4 s30 hs30 hW hS (lv_sub hl [0, 1, 2, 3, 4, 5] rfl) h

theorem w_X9_fallStep_b30 (C : CX cX9_fallStep 7 RX9 (some .int) D ac p m c s args meth (z, aK, aV) (Ar (z + 80))) (hK : 2 ≤ K) {r : Int32}   (σ : Mem) (v1 : Int32) (v2 : Int32) (v3 : Int32) (s4 : Int32 → Int32 → Option Int32) (hs4 : ∀ (v2 : Int32) (v3 : Int32) {H : Heap} {locs : List Loc} {ls : Array Slot} (_ : WR D ac (z + 80) σ H) (_ : va_S (Ar (z + 80)) s.heap H locs) (_ : lv_has ls 7 [(0, .ref (z + 80 + 0)), (1, .int v1), (2, .int v2), (3, .int v3)]) (_ : s4 v2 v3 = some r), W p l e (rma K 0 0) s m args below meth c H locs 0 0 (MQ below (QV D (Er ac (z + 80)) inR (z + 80) (some (.int r)) σ (Ar (z + 80))) args s 0 0 (Ar (z + 80))) (F0 m 4 ls [])) : ∀ (n : Nat) (v4 : Int32) (v5 : Int32) {H : Heap} {locs : List Loc} {ls : Array Slot} (hW : WR D ac (z + 80) σ H) (hS : va_S (Ar (z + 80)) s.heap H locs) (hl : lv_has ls 7 [(0, .ref (z + 80 + 0)), (1, .int v1), (2, .int v2), (3, .int v3), (4, .int v4), (5, .int v5)]) (h : f_X9_fallStep_b30 s4 σ v1 v2 v3 n v4 v5 = some r), W p l e (rma K 0 0) s m args below meth c H locs 0 0 (MQ below (QV D (Er ac (z + 80)) inR (z + 80) (some (.int r)) σ (Ar (z + 80))) args s 0 0 (Ar (z + 80))) (F0 m 30 ls []) := by
  have hx := C.1.1
  have hb := C.1.2.1
  intro n
  induction n with
  | zero =>
    intro v4 v5 H locs ls  hW hS hl h
    cases h
  | succ n ih =>
    intro v4 v5 H locs ls  hW hS hl h
    rw [f_X9_fallStep_b30.eq_2] at h
    refine lv_iload (pc := 30) hx hb dX9_fallStep_30 (lv_at hl 5 rfl) ?_
    refine lv_aload_n (pc := 32) hx hb dX9_fallStep_32 rfl (lv_at hl 0 rfl) ?_
    refine gf_X9_4 (pc := 33) C hW fl_X9_88 dX9_fallStep_33 ?_
    refine lv_icmp_ge (pc := 36) (tgt := 120) hx hb dX9_fallStep_36 (by decide) (fun hc4 => ?_) (fun hc4 => ?_)
    · replace h := o_pos hc4 h
      refine lv_iload_n (pc := 120) hx hb dX9_fallStep_120 rfl (lv_at hl 2 rfl) ?_
      refine lv_iload (pc := 121) hx hb dX9_fallStep_121 (lv_at hl 4 rfl) ?_
      refine lv_aload_n (pc := 123) hx hb dX9_fallStep_123 rfl (lv_at hl 0 rfl) ?_
      refine lv_iload_n (pc := 124) hx hb dX9_fallStep_124 rfl (lv_at hl 3 rfl) ?_
      obtain ⟨r7, hc5, h⟩ := o_b h
      refine g_virt (pc := 125) (st2 := [.int r7, .int v4, .int v2]) (rest := [.int v4, .int v2]) C hW hS (c_X9_owedBy (K := K - 1) (by omega) hc5) mw_X9_167 inR0 Er_0 rfl (hRoom (by omega) (by decide)) rfl rfl rfl (Nat.le_of_ble_eq_true rfl) hl.1 dX9_fallStep_125 (fun H locs hW hS => ?_)
      refine lv_icmp_ge (pc := 128) (tgt := 137) hx hb dX9_fallStep_128 (by decide) (fun hc7 => ?_) (fun hc7 => ?_)
      · replace h := o_pos hc7 h
        refine lv_iconst (pc := 137) (v := 0) hx hb dX9_fallStep_137 (by decide) ?_
        exact w_X9_fallStep_b138 C hK σ v1 v3 v2 (0 : Int32) s4 hs4 hW hS (lv_sub hl [0, 1, 3] rfl) h
      · replace h := o_neg hc7 h
        refine lv_iconst (pc := 131) (v := 1) hx hb dX9_fallStep_131 (by decide) ?_
        refine lv_iload_n (pc := 132) hx hb dX9_fallStep_132 rfl (lv_at hl 3 rfl) ?_
        refine lv_ishl (pc := 133) hx hb dX9_fallStep_133 ?_
        refine lv_goto (pc := 134) (tgt := 138) hx hb dX9_fallStep_134 (by decide) ?_
        exact w_X9_fallStep_b138 C hK σ v1 v3 v2 ((1 : Int32) <<< (v3 &&& 31)) s4 hs4 hW hS (lv_sub hl [0, 1, 3] rfl) h
    · replace h := o_neg hc4 h
      refine lv_aload_n (pc := 39) hx hb dX9_fallStep_39 rfl (lv_at hl 0 rfl) ?_
      refine gf_X9_5 (pc := 40) C hW fl_X9_19 dX9_fallStep_40 ?_
      refine lv_bipush (pc := 43) (v := 6) hx hb dX9_fallStep_43 (by decide) ?_
      refine lv_iload (pc := 45) hx hb dX9_fallStep_45 (lv_at hl 5 rfl) ?_
      refine lv_imul (pc := 47) hx hb dX9_fallStep_47 ?_
      refine lv_iconst (pc := 48) (v := 1) hx hb dX9_fallStep_48 (by decide) ?_
      refine lv_iadd (pc := 49) hx hb dX9_fallStep_49 ?_
      obtain ⟨hc8, h⟩ := o_chk h
      refine ir_ld (pc := 50) (k := 4) C hW (by decide) (by decide) rfl rfl (inb_in hc8) dX9_fallStep_50 ?_
      refine lv_iload_n (pc := 51) hx hb dX9_fallStep_51 rfl (lv_at hl 3 rfl) ?_
      refine lv_icmp_ne (pc := 52) (tgt := 85) hx hb dX9_fallStep_52 (by decide) (fun hc9 => ?_) (fun hc9 => ?_)
      · replace h := o_neg hc9 h
        exact w_X9_fallStep_b85 C hK σ v1 v2 v3 v4 v5 s4 hs4 (f_X9_fallStep_b30 s4 σ v1 v2 v3 n) (fun v4 v5 {H : Heap} {locs : List Loc} {ls : Array Slot}  hW hS hl h => ih v4 v5 hW hS hl h) hW hS (lv_sub hl [0, 1, 2, 3, 4, 5] rfl) h
      · replace h := o_pos hc9 h
        refine lv_aload_n (pc := 55) hx hb dX9_fallStep_55 rfl (lv_at hl 0 rfl) ?_
        refine lv_iload (pc := 56) hx hb dX9_fallStep_56 (lv_at hl 5 rfl) ?_
        obtain ⟨r12, hc10, h⟩ := o_b h
        refine g_virt (pc := 58) (st2 := [.int r12]) (rest := []) C hW hS (c_X9_stands (K := K - 1) (by omega) hc10) mw_X9_164 inR0 Er_0 rfl (hRoom (by omega) (by decide)) rfl rfl rfl (Nat.le_of_ble_eq_true rfl) hl.1 dX9_fallStep_58 (fun H locs hW hS => ?_)
        refine lv_if_eq (pc := 61) (tgt := 85) hx hb dX9_fallStep_61 (by decide) (fun hc12 => ?_) (fun hc12 => ?_)
        · replace h := o_pos hc12 h
          exact w_X9_fallStep_b85 C hK σ v1 v2 v3 v4 v5 s4 hs4 (f_X9_fallStep_b30 s4 σ v1 v2 v3 n) (fun v4 v5 {H : Heap} {locs : List Loc} {ls : Array Slot}  hW hS hl h => ih v4 v5 hW hS hl h) hW hS (lv_sub hl [0, 1, 2, 3, 4, 5] rfl) h
        · replace h := o_neg hc12 h
          refine lv_iload_n (pc := 64) hx hb dX9_fallStep_64 rfl (lv_at hl 1 rfl) ?_
          refine lv_aload_n (pc := 65) hx hb dX9_fallStep_65 rfl (lv_at hl 0 rfl) ?_
          refine gf_X9_5 (pc := 66) C hW fl_X9_19 dX9_fallStep_66 ?_
          refine lv_bipush (pc := 69) (v := 6) hx hb dX9_fallStep_69 (by decide) ?_
          refine lv_iload (pc := 71) hx hb dX9_fallStep_71 (lv_at hl 5 rfl) ?_
          refine lv_imul (pc := 73) hx hb dX9_fallStep_73 ?_
          obtain ⟨hc13, h⟩ := o_chk h
          refine ir_ld (pc := 74) (k := 4) C hW (by decide) (by decide) rfl rfl (inb_in hc13) dX9_fallStep_74 ?_
          refine lv_ishr (pc := 75) hx hb dX9_fallStep_75 ?_
          refine lv_iconst (pc := 76) (v := 1) hx hb dX9_fallStep_76 (by decide) ?_
          refine lv_iand (pc := 77) hx hb dX9_fallStep_77 ?_
          refine lv_if_ne (pc := 78) (tgt := 85) hx hb dX9_fallStep_78 (by decide) (fun hc14 => ?_) (fun hc14 => ?_)
          · replace h := o_neg hc14 h
            exact w_X9_fallStep_b85 C hK σ v1 v2 v3 v4 v5 s4 hs4 (f_X9_fallStep_b30 s4 σ v1 v2 v3 n) (fun v4 v5 {H : Heap} {locs : List Loc} {ls : Array Slot}  hW hS hl h => ih v4 v5 hW hS hl h) hW hS (lv_sub hl [0, 1, 2, 3, 4, 5] rfl) h
          · replace h := o_pos hc14 h
            refine lv_iconst (pc := 81) (v := 1) hx hb dX9_fallStep_81 (by decide) ?_
            refine lv_goto (pc := 82) (tgt := 86) hx hb dX9_fallStep_82 (by decide) ?_
            exact w_X9_fallStep_b86 C hK σ v1 v2 v3 v4 v5 (1 : Int32) s4 hs4 (f_X9_fallStep_b30 s4 σ v1 v2 v3 n) (fun v4 v5 {H : Heap} {locs : List Loc} {ls : Array Slot}  hW hS hl h => ih v4 v5 hW hS hl h) hW hS (lv_sub hl [0, 1, 2, 3, 4, 5] rfl) h

theorem w_X9_fallStep_b4 (C : CX cX9_fallStep 7 RX9 (some .int) D ac p m c s args meth (z, aK, aV) (Ar (z + 80))) (hK : 2 ≤ K) {r : Int32}   (σ : Mem) (v1 : Int32)  : ∀ (n : Nat) (v2 : Int32) (v3 : Int32) {H : Heap} {locs : List Loc} {ls : Array Slot} (hW : WR D ac (z + 80) σ H) (hS : va_S (Ar (z + 80)) s.heap H locs) (hl : lv_has ls 7 [(0, .ref (z + 80 + 0)), (1, .int v1), (2, .int v2), (3, .int v3)]) (h : f_X9_fallStep_b4 σ v1 n v2 v3 = some r), W p l e (rma K 0 0) s m args below meth c H locs 0 0 (MQ below (QV D (Er ac (z + 80)) inR (z + 80) (some (.int r)) σ (Ar (z + 80))) args s 0 0 (Ar (z + 80))) (F0 m 4 ls []) := by
  have hx := C.1.1
  have hb := C.1.2.1
  intro n
  induction n with
  | zero =>
    intro v2 v3 H locs ls  hW hS hl h
    cases h
  | succ n ih =>
    intro v2 v3 H locs ls  hW hS hl h
    rw [f_X9_fallStep_b4.eq_2] at h
    refine lv_iload_n (pc := 4) hx hb dX9_fallStep_4 rfl (lv_at hl 3 rfl) ?_
    refine lv_aload_n (pc := 5) hx hb dX9_fallStep_5 rfl (lv_at hl 0 rfl) ?_
    refine gf_X9_0 (pc := 6) C hW fl_X9_81 dX9_fallStep_6 ?_
    refine lv_icmp_ge (pc := 9) (tgt := 146) hx hb dX9_fallStep_9 (by decide) (fun hc0 => ?_) (fun hc0 => ?_)
    · replace h := o_pos hc0 h
      refine lv_iload_n (pc := 146) hx hb dX9_fallStep_146 rfl (lv_at hl 2 rfl) ?_
      exact g_ret (pc := 147) C hW hS rfl dX9_fallStep_147 (congrArg (fun q => some (Value.int q)) (Option.some.inj h).symm) rfl
    · replace h := o_neg hc0 h
      refine lv_aload_n (pc := 12) hx hb dX9_fallStep_12 rfl (lv_at hl 0 rfl) ?_
      refine lv_iload_n (pc := 13) hx hb dX9_fallStep_13 rfl (lv_at hl 3 rfl) ?_
      refine lv_aload_n (pc := 14) hx hb dX9_fallStep_14 rfl (lv_at hl 0 rfl) ?_
      refine gf_X9_3 (pc := 15) C hW fl_X9_16 dX9_fallStep_15 ?_
      refine lv_iconst (pc := 18) (v := 4) hx hb dX9_fallStep_18 (by decide) ?_
      refine lv_iload_n (pc := 19) hx hb dX9_fallStep_19 rfl (lv_at hl 3 rfl) ?_
      refine lv_imul (pc := 20) hx hb dX9_fallStep_20 ?_
      obtain ⟨hc1, h⟩ := o_chk h
      refine ir_ld (pc := 21) (k := 3) C hW (by decide) (by decide) rfl rfl (inb_in hc1) dX9_fallStep_21 ?_
      obtain ⟨r4, hc2, h⟩ := o_b h
      refine g_virt (pc := 22) (st2 := [.int r4]) (rest := []) C hW hS (c_X9_countsOf (K := K - 1) (by omega) hc2) mw_X9_182 inR0 Er_0 rfl (hRoom (by omega) (by decide)) rfl rfl rfl (Nat.le_of_ble_eq_true rfl) hl.1 dX9_fallStep_22 (fun H locs hW hS => ?_)
      refine lv_istore (pc := 25) (lv' := [(4, .int r4), (0, .ref (z + 80 + 0)), (1, .int v1), (2, .int v2), (3, .int v3)]) hx hb dX9_fallStep_25 hl (by decide) rfl (fun ls hl => ?_)
      refine lv_iconst (pc := 27) (v := 0) hx hb dX9_fallStep_27 (by decide) ?_
      refine lv_istore (pc := 28) (lv' := [(5, .int (0 : Int32)), (4, .int r4), (0, .ref (z + 80 + 0)), (1, .int v1), (2, .int v2), (3, .int v3)]) hx hb dX9_fallStep_28 hl (by decide) rfl (fun ls hl => ?_)
      exact w_X9_fallStep_b30 C hK σ v1 v2 v3 (f_X9_fallStep_b4 σ v1 n) (fun v2 v3 {H : Heap} {locs : List Loc} {ls : Array Slot}  hW hS hl h => ih v2 v3 hW hS hl h) FU r4 (0 : Int32) hW hS (lv_sub hl [2, 3, 4, 5, 1, 0] rfl) h

theorem c_X9_fallStep {K : Nat}  (hK : 2 ≤ K) {σ : Mem} {v1 : Int32} {r : Int32} (h : f_X9_fallStep σ v1 = some r) : MC l D (Er ac (z + 80)) inR (z + 80) ac (z, aK, aV) (Ar (z + 80)) yX9_fallStep cX9_fallStep 7 (some .int) K [.ref (z + 80 + 0), .int v1] σ (some (.int r)) σ := by
  refine MC.of (fun q hq => by have := hq.1; show z ≤ q; omega) (plainFor_of_name (by decide)) (Nat.le_of_ble_eq_true rfl) ?_
  intro p e s m below meth c args C hW ls hl
  replace hl : lv_has ls 7 [(0, .ref (z + 80 + 0)), (1, .int v1)] := hl
  have hS : va_S (Ar (z + 80)) s.heap s.heap [] := va_S.rf
  have hx := C.1.1
  have hb := C.1.2.1
  unfold f_X9_fallStep at h
  refine lv_iload_n (pc := 0) hx hb dX9_fallStep_0 rfl (lv_at hl 1 rfl) ?_
  refine lv_istore_n (pc := 1) (lv' := [(2, .int v1), (0, .ref (z + 80 + 0)), (1, .int v1)]) hx hb dX9_fallStep_1 rfl hl (by decide) rfl (fun ls hl => ?_)
  refine lv_iconst (pc := 2) (v := 0) hx hb dX9_fallStep_2 (by decide) ?_
  refine lv_istore_n (pc := 3) (lv' := [(3, .int (0 : Int32)), (2, .int v1), (0, .ref (z + 80 + 0)), (1, .int v1)]) hx hb dX9_fallStep_3 rfl hl (by decide) rfl (fun ls hl => ?_)
  exact w_X9_fallStep_b4 C hK σ v1 FU v1 (0 : Int32) hW hS (lv_sub hl [2, 3, 1, 0] rfl) h

end
