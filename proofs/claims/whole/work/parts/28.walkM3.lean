section
variable {p : Program} {l : Launch} {e : Env} {s : State} {m : MethodId} {args : Array Value} {below : List Frame} {meth : Method} {c : Code} {D : va_G} {ac : Nat → ClassId} {z : Nat} {aK aV : Nat → Nat} {K : Nat}

theorem c_X9_graceOf {K : Nat}  (hK : 0 ≤ K) {σ : Mem} {v1 : Int32} {r : Int32} (h : f_X9_graceOf σ v1 = some r) : MC l D (Er ac (z + 80)) inR (z + 80) ac (z, aK, aV) (Ar (z + 80)) yX9_graceOf cX9_graceOf 2 (some .int) K [.ref (z + 80 + 0), .int v1] σ (some (.int r)) σ := by
  refine MC.of (fun q hq => by have := hq.1; show z ≤ q; omega) (plainFor_of_name (by decide)) (Nat.le_of_ble_eq_true rfl) ?_
  intro p e s m below meth c args C hW ls hl
  replace hl : lv_has ls 2 [(0, .ref (z + 80 + 0)), (1, .int v1)] := hl
  have hS : va_S (Ar (z + 80)) s.heap s.heap [] := va_S.rf
  have hx := C.1.1
  have hb := C.1.2.1
  unfold f_X9_graceOf at h
  refine lv_aload_n (pc := 0) hx hb dX9_graceOf_0 rfl (lv_at hl 0 rfl) ?_
  refine gf_X9_1 (pc := 1) C hW fl_X9_7 dX9_graceOf_1 ?_
  refine lv_iload_n (pc := 4) hx hb dX9_graceOf_4 rfl (lv_at hl 1 rfl) ?_
  obtain ⟨hc0, h⟩ := o_chk h
  refine ir_ld (pc := 5) (k := 1) C hW (by decide) (by decide) rfl rfl (inb_in hc0) dX9_graceOf_5 ?_
  refine lv_iconst (pc := 6) (v := 2) hx hb dX9_graceOf_6 (by decide) ?_
  refine lv_icmp_eq (pc := 7) (tgt := 20) hx hb dX9_graceOf_7 (by decide) (fun hc1 => ?_) (fun hc1 => ?_)
  · replace h := o_pos hc1 h
    refine lv_iconst (pc := 20) (v := 1) hx hb dX9_graceOf_20 (by decide) ?_
    refine lv_goto (pc := 21) (tgt := 39) hx hb dX9_graceOf_21 (by decide) ?_
    exact g_ret (pc := 39) C hW hS rfl dX9_graceOf_39 (congrArg (fun q => some (Value.int q)) (Option.some.inj h).symm) rfl
  · replace h := o_neg hc1 h
    refine lv_aload_n (pc := 10) hx hb dX9_graceOf_10 rfl (lv_at hl 0 rfl) ?_
    refine gf_X9_1 (pc := 11) C hW fl_X9_7 dX9_graceOf_11 ?_
    refine lv_iload_n (pc := 14) hx hb dX9_graceOf_14 rfl (lv_at hl 1 rfl) ?_
    obtain ⟨hc2, h⟩ := o_chk h
    refine ir_ld (pc := 15) (k := 1) C hW (by decide) (by decide) rfl rfl (inb_in hc2) dX9_graceOf_15 ?_
    refine lv_iconst (pc := 16) (v := 4) hx hb dX9_graceOf_16 (by decide) ?_
    refine lv_icmp_ne (pc := 17) (tgt := 24) hx hb dX9_graceOf_17 (by decide) (fun hc3 => ?_) (fun hc3 => ?_)
    · replace h := o_neg hc3 h
      refine lv_aload_n (pc := 24) hx hb dX9_graceOf_24 rfl (lv_at hl 0 rfl) ?_
      refine gf_X9_1 (pc := 25) C hW fl_X9_7 dX9_graceOf_25 ?_
      refine lv_iload_n (pc := 28) hx hb dX9_graceOf_28 rfl (lv_at hl 1 rfl) ?_
      obtain ⟨hc4, h⟩ := o_chk h
      refine ir_ld (pc := 29) (k := 1) C hW (by decide) (by decide) rfl rfl (inb_in hc4) dX9_graceOf_29 ?_
      refine lv_iconst (pc := 30) (v := 3) hx hb dX9_graceOf_30 (by decide) ?_
      refine lv_icmp_ne (pc := 31) (tgt := 38) hx hb dX9_graceOf_31 (by decide) (fun hc5 => ?_) (fun hc5 => ?_)
      · replace h := o_neg hc5 h
        refine lv_iconst (pc := 38) (v := 0) hx hb dX9_graceOf_38 (by decide) ?_
        exact g_ret (pc := 39) C hW hS rfl dX9_graceOf_39 (congrArg (fun q => some (Value.int q)) (Option.some.inj h).symm) rfl
      · replace h := o_pos hc5 h
        refine lv_iconst (pc := 34) (v := 4) hx hb dX9_graceOf_34 (by decide) ?_
        refine lv_goto (pc := 35) (tgt := 39) hx hb dX9_graceOf_35 (by decide) ?_
        exact g_ret (pc := 39) C hW hS rfl dX9_graceOf_39 (congrArg (fun q => some (Value.int q)) (Option.some.inj h).symm) rfl
    · replace h := o_pos hc3 h
      refine lv_iconst (pc := 20) (v := 1) hx hb dX9_graceOf_20 (by decide) ?_
      refine lv_goto (pc := 21) (tgt := 39) hx hb dX9_graceOf_21 (by decide) ?_
      exact g_ret (pc := 39) C hW hS rfl dX9_graceOf_39 (congrArg (fun q => some (Value.int q)) (Option.some.inj h).symm) rfl

theorem c_X9_told {K : Nat}  (hK : 2 ≤ K) {σ : Mem} {v1 : Int32} {v2 : Int32} {r : Int32} (h : f_X9_told σ v1 v2 = some r) : MC l D (Er ac (z + 80)) inR (z + 80) ac (z, aK, aV) (Ar (z + 80)) yX9_told cX9_told 3 (some .int) K [.ref (z + 80 + 0), .int v1, .int v2] σ (some (.int r)) σ := by
  refine MC.of (fun q hq => by have := hq.1; show z ≤ q; omega) (plainFor_of_name (by decide)) (Nat.le_of_ble_eq_true rfl) ?_
  intro p e s m below meth c args C hW ls hl
  replace hl : lv_has ls 3 [(0, .ref (z + 80 + 0)), (1, .int v1), (2, .int v2)] := hl
  have hS : va_S (Ar (z + 80)) s.heap s.heap [] := va_S.rf
  have hx := C.1.1
  have hb := C.1.2.1
  unfold f_X9_told at h
  refine lv_aload_n (pc := 0) hx hb dX9_told_0 rfl (lv_at hl 0 rfl) ?_
  refine lv_iload_n (pc := 1) hx hb dX9_told_1 rfl (lv_at hl 1 rfl) ?_
  refine g_virt (pc := 2) (st2 := [.int (f_X9_isMan σ v1)]) (rest := []) C hW hS (c_X9_isMan (K := K - 1) (by omega) rfl) mw_X9_176 inR0 Er_0 rfl (hRoom (by omega) (by decide)) rfl rfl rfl (Nat.le_of_ble_eq_true rfl) hl.1 dX9_told_2 (fun H locs hW hS => ?_)
  refine lv_if_ne (pc := 5) (tgt := 11) hx hb dX9_told_5 (by decide) (fun hc0 => ?_) (fun hc0 => ?_)
  · replace h := o_neg hc0 h
    refine lv_iload_n (pc := 11) hx hb dX9_told_11 rfl (lv_at hl 2 rfl) ?_
    by_cases hc1 : v2 = 0
    · replace h := o_pos hc1 h
      refine lv_tableIn (pc := 12) (off := 52) (tgt := 64) hx hb dX9_told_12 (by rw [hc1]; decide) (by rw [hc1]; decide) (by rw [hc1]; rfl) (by decide) ?_
      refine lv_aload_n (pc := 64) hx hb dX9_told_64 rfl (lv_at hl 0 rfl) ?_
      refine gf_X9_1 (pc := 65) C hW fl_X9_7 dX9_told_65 ?_
      refine lv_iload_n (pc := 68) hx hb dX9_told_68 rfl (lv_at hl 1 rfl) ?_
      obtain ⟨hc2, h⟩ := o_chk h
      refine ir_ld (pc := 69) (k := 1) C hW (by decide) (by decide) rfl rfl (inb_in hc2) dX9_told_69 ?_
      exact g_ret (pc := 70) C hW hS rfl dX9_told_70 (congrArg (fun q => some (Value.int q)) (Option.some.inj h).symm) rfl
    replace h := o_neg hc1 h
    by_cases hc3 : v2 = 1
    · replace h := o_pos hc3 h
      refine lv_tableIn (pc := 12) (off := 59) (tgt := 71) hx hb dX9_told_12 (by rw [hc3]; decide) (by rw [hc3]; decide) (by rw [hc3]; rfl) (by decide) ?_
      refine lv_aload_n (pc := 71) hx hb dX9_told_71 rfl (lv_at hl 0 rfl) ?_
      refine gf_X9_2 (pc := 72) C hW fl_X9_13 dX9_told_72 ?_
      refine lv_iload_n (pc := 75) hx hb dX9_told_75 rfl (lv_at hl 1 rfl) ?_
      obtain ⟨hc4, h⟩ := o_chk h
      refine ir_ld (pc := 76) (k := 2) C hW (by decide) (by decide) rfl rfl (inb_in hc4) dX9_told_76 ?_
      exact g_ret (pc := 77) C hW hS rfl dX9_told_77 (congrArg (fun q => some (Value.int q)) (Option.some.inj h).symm) rfl
    replace h := o_neg hc3 h
    by_cases hc5 : v2 = 2
    · replace h := o_pos hc5 h
      refine lv_tableIn (pc := 12) (off := 66) (tgt := 78) hx hb dX9_told_12 (by rw [hc5]; decide) (by rw [hc5]; decide) (by rw [hc5]; rfl) (by decide) ?_
      refine lv_aload_n (pc := 78) hx hb dX9_told_78 rfl (lv_at hl 0 rfl) ?_
      refine gf_X9_3 (pc := 79) C hW fl_X9_16 dX9_told_79 ?_
      refine lv_iconst (pc := 82) (v := 4) hx hb dX9_told_82 (by decide) ?_
      refine lv_iload_n (pc := 83) hx hb dX9_told_83 rfl (lv_at hl 1 rfl) ?_
      refine lv_imul (pc := 84) hx hb dX9_told_84 ?_
      refine lv_iload_n (pc := 85) hx hb dX9_told_85 rfl (lv_at hl 2 rfl) ?_
      refine lv_iadd (pc := 86) hx hb dX9_told_86 ?_
      refine lv_iconst (pc := 87) (v := 2) hx hb dX9_told_87 (by decide) ?_
      refine lv_isub (pc := 88) hx hb dX9_told_88 ?_
      obtain ⟨hc6, h⟩ := o_chk h
      refine ir_ld (pc := 89) (k := 3) C hW (by decide) (by decide) rfl rfl (inb_in hc6) dX9_told_89 ?_
      exact g_ret (pc := 90) C hW hS rfl dX9_told_90 (congrArg (fun q => some (Value.int q)) (Option.some.inj h).symm) rfl
    replace h := o_neg hc5 h
    by_cases hc7 : v2 = 3
    · replace h := o_pos hc7 h
      refine lv_tableIn (pc := 12) (off := 66) (tgt := 78) hx hb dX9_told_12 (by rw [hc7]; decide) (by rw [hc7]; decide) (by rw [hc7]; rfl) (by decide) ?_
      refine lv_aload_n (pc := 78) hx hb dX9_told_78 rfl (lv_at hl 0 rfl) ?_
      refine gf_X9_3 (pc := 79) C hW fl_X9_16 dX9_told_79 ?_
      refine lv_iconst (pc := 82) (v := 4) hx hb dX9_told_82 (by decide) ?_
      refine lv_iload_n (pc := 83) hx hb dX9_told_83 rfl (lv_at hl 1 rfl) ?_
      refine lv_imul (pc := 84) hx hb dX9_told_84 ?_
      refine lv_iload_n (pc := 85) hx hb dX9_told_85 rfl (lv_at hl 2 rfl) ?_
      refine lv_iadd (pc := 86) hx hb dX9_told_86 ?_
      refine lv_iconst (pc := 87) (v := 2) hx hb dX9_told_87 (by decide) ?_
      refine lv_isub (pc := 88) hx hb dX9_told_88 ?_
      obtain ⟨hc8, h⟩ := o_chk h
      refine ir_ld (pc := 89) (k := 3) C hW (by decide) (by decide) rfl rfl (inb_in hc8) dX9_told_89 ?_
      exact g_ret (pc := 90) C hW hS rfl dX9_told_90 (congrArg (fun q => some (Value.int q)) (Option.some.inj h).symm) rfl
    replace h := o_neg hc7 h
    by_cases hc9 : v2 = 4
    · replace h := o_pos hc9 h
      refine lv_tableIn (pc := 12) (off := 66) (tgt := 78) hx hb dX9_told_12 (by rw [hc9]; decide) (by rw [hc9]; decide) (by rw [hc9]; rfl) (by decide) ?_
      refine lv_aload_n (pc := 78) hx hb dX9_told_78 rfl (lv_at hl 0 rfl) ?_
      refine gf_X9_3 (pc := 79) C hW fl_X9_16 dX9_told_79 ?_
      refine lv_iconst (pc := 82) (v := 4) hx hb dX9_told_82 (by decide) ?_
      refine lv_iload_n (pc := 83) hx hb dX9_told_83 rfl (lv_at hl 1 rfl) ?_
      refine lv_imul (pc := 84) hx hb dX9_told_84 ?_
      refine lv_iload_n (pc := 85) hx hb dX9_told_85 rfl (lv_at hl 2 rfl) ?_
      refine lv_iadd (pc := 86) hx hb dX9_told_86 ?_
      refine lv_iconst (pc := 87) (v := 2) hx hb dX9_told_87 (by decide) ?_
      refine lv_isub (pc := 88) hx hb dX9_told_88 ?_
      obtain ⟨hc10, h⟩ := o_chk h
      refine ir_ld (pc := 89) (k := 3) C hW (by decide) (by decide) rfl rfl (inb_in hc10) dX9_told_89 ?_
      exact g_ret (pc := 90) C hW hS rfl dX9_told_90 (congrArg (fun q => some (Value.int q)) (Option.some.inj h).symm) rfl
    replace h := o_neg hc9 h
    by_cases hc11 : v2 = 5
    · replace h := o_pos hc11 h
      refine lv_tableIn (pc := 12) (off := 66) (tgt := 78) hx hb dX9_told_12 (by rw [hc11]; decide) (by rw [hc11]; decide) (by rw [hc11]; rfl) (by decide) ?_
      refine lv_aload_n (pc := 78) hx hb dX9_told_78 rfl (lv_at hl 0 rfl) ?_
      refine gf_X9_3 (pc := 79) C hW fl_X9_16 dX9_told_79 ?_
      refine lv_iconst (pc := 82) (v := 4) hx hb dX9_told_82 (by decide) ?_
      refine lv_iload_n (pc := 83) hx hb dX9_told_83 rfl (lv_at hl 1 rfl) ?_
      refine lv_imul (pc := 84) hx hb dX9_told_84 ?_
      refine lv_iload_n (pc := 85) hx hb dX9_told_85 rfl (lv_at hl 2 rfl) ?_
      refine lv_iadd (pc := 86) hx hb dX9_told_86 ?_
      refine lv_iconst (pc := 87) (v := 2) hx hb dX9_told_87 (by decide) ?_
      refine lv_isub (pc := 88) hx hb dX9_told_88 ?_
      obtain ⟨hc12, h⟩ := o_chk h
      refine ir_ld (pc := 89) (k := 3) C hW (by decide) (by decide) rfl rfl (inb_in hc12) dX9_told_89 ?_
      exact g_ret (pc := 90) C hW hS rfl dX9_told_90 (congrArg (fun q => some (Value.int q)) (Option.some.inj h).symm) rfl
    replace h := o_neg hc11 h
    by_cases hc13 : v2 = 6
    · replace h := o_pos hc13 h
      refine lv_tableIn (pc := 12) (off := 79) (tgt := 91) hx hb dX9_told_12 (by rw [hc13]; decide) (by rw [hc13]; decide) (by rw [hc13]; rfl) (by decide) ?_
      refine lv_aload_n (pc := 91) hx hb dX9_told_91 rfl (lv_at hl 0 rfl) ?_
      refine lv_iload_n (pc := 92) hx hb dX9_told_92 rfl (lv_at hl 1 rfl) ?_
      refine lv_aload_n (pc := 93) hx hb dX9_told_93 rfl (lv_at hl 0 rfl) ?_
      refine gf_X9_3 (pc := 94) C hW fl_X9_16 dX9_told_94 ?_
      refine lv_iconst (pc := 97) (v := 4) hx hb dX9_told_97 (by decide) ?_
      refine lv_iload_n (pc := 98) hx hb dX9_told_98 rfl (lv_at hl 1 rfl) ?_
      refine lv_imul (pc := 99) hx hb dX9_told_99 ?_
      obtain ⟨hc14, h⟩ := o_chk h
      refine ir_ld (pc := 100) (k := 3) C hW (by decide) (by decide) rfl rfl (inb_in hc14) dX9_told_100 ?_
      obtain ⟨r17, hc15, h⟩ := o_b h
      refine g_virt (pc := 101) (st2 := [.int r17]) (rest := []) C hW hS (c_X9_countsOf (K := K - 1) (by omega) hc15) mw_X9_182 inR0 Er_0 rfl (hRoom (by omega) (by decide)) rfl rfl rfl (Nat.le_of_ble_eq_true rfl) hl.1 dX9_told_101 (fun H locs hW hS => ?_)
      exact g_ret (pc := 104) C hW hS rfl dX9_told_104 (congrArg (fun q => some (Value.int q)) (Option.some.inj h).symm) rfl
    replace h := o_neg hc13 h
    by_cases hc17 : v2 = 7
    · replace h := o_pos hc17 h
      refine lv_tableIn (pc := 12) (off := 93) (tgt := 105) hx hb dX9_told_12 (by rw [hc17]; decide) (by rw [hc17]; decide) (by rw [hc17]; rfl) (by decide) ?_
      refine lv_aload_n (pc := 105) hx hb dX9_told_105 rfl (lv_at hl 0 rfl) ?_
      refine lv_iload_n (pc := 106) hx hb dX9_told_106 rfl (lv_at hl 1 rfl) ?_
      obtain ⟨r20, hc18, h⟩ := o_b h
      refine g_virt (pc := 107) (st2 := [.int r20]) (rest := []) C hW hS (c_X9_graceOf (K := K - 1) (by omega) hc18) mw_X9_185 inR0 Er_0 rfl (hRoom (by omega) (by decide)) rfl rfl rfl (Nat.le_of_ble_eq_true rfl) hl.1 dX9_told_107 (fun H locs hW hS => ?_)
      exact g_ret (pc := 110) C hW hS rfl dX9_told_110 (congrArg (fun q => some (Value.int q)) (Option.some.inj h).symm) rfl
    replace h := o_neg hc17 h
    by_cases hc20 : v2 = 8
    · replace h := o_pos hc20 h
      refine lv_tableIn (pc := 12) (off := 99) (tgt := 111) hx hb dX9_told_12 (by rw [hc20]; decide) (by rw [hc20]; decide) (by rw [hc20]; rfl) (by decide) ?_
      refine lv_aload_n (pc := 111) hx hb dX9_told_111 rfl (lv_at hl 0 rfl) ?_
      refine lv_iload_n (pc := 112) hx hb dX9_told_112 rfl (lv_at hl 1 rfl) ?_
      obtain ⟨r23, hc21, h⟩ := o_b h
      refine g_virt (pc := 113) (st2 := [.int r23]) (rest := []) C hW hS (c_X9_owedBy (K := K - 1) (by omega) hc21) mw_X9_167 inR0 Er_0 rfl (hRoom (by omega) (by decide)) rfl rfl rfl (Nat.le_of_ble_eq_true rfl) hl.1 dX9_told_113 (fun H locs hW hS => ?_)
      exact g_ret (pc := 116) C hW hS rfl dX9_told_116 (congrArg (fun q => some (Value.int q)) (Option.some.inj h).symm) rfl
    replace h := o_neg hc20 h
    have hzhc1 := lv_neT (k := 0) (a := 0) hc1 (by decide)
    have hzhc3 := lv_neT (k := 1) (a := 1) hc3 (by decide)
    have hzhc5 := lv_neT (k := 2) (a := 2) hc5 (by decide)
    have hzhc7 := lv_neT (k := 3) (a := 3) hc7 (by decide)
    have hzhc9 := lv_neT (k := 4) (a := 4) hc9 (by decide)
    have hzhc11 := lv_neT (k := 5) (a := 5) hc11 (by decide)
    have hzhc13 := lv_neT (k := 6) (a := 6) hc13 (by decide)
    have hzhc17 := lv_neT (k := 7) (a := 7) hc17 (by decide)
    have hzhc20 := lv_neT (k := 8) (a := 8) hc20 (by decide)
    refine lv_tableOut (pc := 12) (tgt := 117) hx hb dX9_told_12 (by omega) (by decide) ?_
    refine lv_bipush (pc := 117) (v := -7) hx hb dX9_told_117 (by decide) ?_
    exact g_ret (pc := 119) C hW hS rfl dX9_told_119 (congrArg (fun q => some (Value.int q)) (Option.some.inj h).symm) rfl
  · replace h := o_pos hc0 h
    refine lv_bipush (pc := 8) (v := -5) hx hb dX9_told_8 (by decide) ?_
    exact g_ret (pc := 10) C hW hS rfl dX9_told_10 (congrArg (fun q => some (Value.int q)) (Option.some.inj h).symm) rfl

theorem w_X9_vow_b70 (C : CX cX9_vow 6 RX9 (some .int) D ac p m c s args meth (z, aK, aV) (Ar (z + 80))) (hK : 2 ≤ K) {r : Int32} {σf : Mem}   (σ : Mem) (v1 : Int32) (v2 : Int32) (v3 : Int32) (k0 : Int32)  {H : Heap} {locs : List Loc} {ls : Array Slot} (hW : WR D ac (z + 80) σ H) (hS : va_S (Ar (z + 80)) s.heap H locs) (hl : lv_has ls 6 [(0, .ref (z + 80 + 0)), (1, .int v1), (2, .int v2), (3, .int v3)]) (h : f_X9_vow_b70 σ v1 v2 v3 k0 = some (r, σf)) : W p l e (rma K 0 0) s m args below meth c H locs 0 0 (MQ below (QV D (Er ac (z + 80)) inR (z + 80) (some (.int r)) σf (Ar (z + 80))) args s 0 0 (Ar (z + 80))) (F0 m 70 ls [.int k0]) := by
  have hx := C.1.1
  have hb := C.1.2.1
  unfold f_X9_vow_b70 at h
  refine lv_istore (pc := 70) (lv' := [(4, .int k0), (0, .ref (z + 80 + 0)), (1, .int v1), (2, .int v2), (3, .int v3)]) hx hb dX9_vow_70 hl (by decide) rfl (fun ls hl => ?_)
  refine lv_iload (pc := 72) hx hb dX9_vow_72 (lv_at hl 0 rfl) ?_
  refine lv_if_ne (pc := 74) (tgt := 80) hx hb dX9_vow_74 (by decide) (fun hc6 => ?_) (fun hc6 => ?_)
  · replace h := o_neg hc6 h
    refine lv_aload_n (pc := 80) hx hb dX9_vow_80 rfl (lv_at hl 1 rfl) ?_
    refine gf_X9_3 (pc := 81) C hW fl_X9_16 dX9_vow_81 ?_
    refine lv_iconst (pc := 84) (v := 4) hx hb dX9_vow_84 (by decide) ?_
    refine lv_iload_n (pc := 85) hx hb dX9_vow_85 rfl (lv_at hl 2 rfl) ?_
    refine lv_bipush (pc := 86) (v := 10) hx hb dX9_vow_86 (by decide) ?_
    refine lv_idiv (pc := 88) hx hb dX9_vow_88 (by decide) ?_
    refine lv_imul (pc := 89) hx hb dX9_vow_89 ?_
    refine lv_iconst (pc := 90) (v := 3) hx hb dX9_vow_90 (by decide) ?_
    refine lv_iadd (pc := 91) hx hb dX9_vow_91 ?_
    obtain ⟨hc7, h⟩ := o_chk h
    refine ir_ld (pc := 92) (k := 3) C hW (by decide) (by decide) rfl rfl (inb_in hc7) dX9_vow_92 ?_
    refine lv_iconst (pc := 93) (v := 1) hx hb dX9_vow_93 (by decide) ?_
    refine lv_icmp_eq (pc := 94) (tgt := 105) hx hb dX9_vow_94 (by decide) (fun hc8 => ?_) (fun hc8 => ?_)
    · replace h := o_pos hc8 h
      refine lv_bipush (pc := 105) (v := -3) hx hb dX9_vow_105 (by decide) ?_
      exact g_ret (pc := 107) C hW hS rfl dX9_vow_107 (congrArg (fun q => some (Value.int q)) (o_r h).1) (o_r h).2
    · replace h := o_neg hc8 h
      refine lv_iload_n (pc := 97) hx hb dX9_vow_97 rfl (lv_at hl 4 rfl) ?_
      refine lv_aload_n (pc := 98) hx hb dX9_vow_98 rfl (lv_at hl 1 rfl) ?_
      refine gf_X9_6 (pc := 99) C hW fl_X9_91 dX9_vow_99 ?_
      refine lv_icmp_ge (pc := 102) (tgt := 108) hx hb dX9_vow_102 (by decide) (fun hc9 => ?_) (fun hc9 => ?_)
      · replace h := o_pos hc9 h
        refine lv_aload_n (pc := 108) hx hb dX9_vow_108 rfl (lv_at hl 1 rfl) ?_
        refine gf_X9_4 (pc := 109) C hW fl_X9_88 dX9_vow_109 ?_
        refine lv_bipush (pc := 112) (v := 8) hx hb dX9_vow_112 (by decide) ?_
        refine lv_icmp_ne (pc := 114) (tgt := 120) hx hb dX9_vow_114 (by decide) (fun hc10 => ?_) (fun hc10 => ?_)
        · replace h := o_neg hc10 h
          refine lv_bipush (pc := 120) (v := 6) hx hb dX9_vow_120 (by decide) ?_
          refine lv_aload_n (pc := 122) hx hb dX9_vow_122 rfl (lv_at hl 1 rfl) ?_
          refine gf_X9_4 (pc := 123) C hW fl_X9_88 dX9_vow_123 ?_
          refine lv_imul (pc := 126) hx hb dX9_vow_126 ?_
          refine lv_istore (pc := 127) (lv' := [(5, .int ((6 : Int32) * (σ 0 4))), (4, .int k0), (0, .ref (z + 80 + 0)), (1, .int v1), (2, .int v2), (3, .int v3)]) hx hb dX9_vow_127 hl (by decide) rfl (fun ls hl => ?_)
          refine lv_aload_n (pc := 129) hx hb dX9_vow_129 rfl (lv_at hl 2 rfl) ?_
          refine gf_X9_5 (pc := 130) C hW fl_X9_19 dX9_vow_130 ?_
          refine lv_iload (pc := 133) hx hb dX9_vow_133 (lv_at hl 0 rfl) ?_
          refine lv_iload_n (pc := 135) hx hb dX9_vow_135 rfl (lv_at hl 3 rfl) ?_
          refine lv_bipush (pc := 136) (v := 10) hx hb dX9_vow_136 (by decide) ?_
          refine lv_idiv (pc := 138) hx hb dX9_vow_138 (by decide) ?_
          obtain ⟨hc11, h⟩ := o_chk h
          refine ir_st (pc := 139) (k := 4) C hW hS (by decide) (by decide) rfl rfl (inb_in hc11) dX9_vow_139 (fun H locs hW hS => ?_)
          obtain ⟨σ13, hσ13, h⟩ := o_d h
          replace hW : WR D ac (z + 80) σ13 H := by rw [← hσ13]; exact hW
          refine lv_aload_n (pc := 140) hx hb dX9_vow_140 rfl (lv_at hl 2 rfl) ?_
          refine gf_X9_5 (pc := 141) C hW fl_X9_19 dX9_vow_141 ?_
          refine lv_iload (pc := 144) hx hb dX9_vow_144 (lv_at hl 0 rfl) ?_
          refine lv_iconst (pc := 146) (v := 1) hx hb dX9_vow_146 (by decide) ?_
          refine lv_iadd (pc := 147) hx hb dX9_vow_147 ?_
          refine lv_iload_n (pc := 148) hx hb dX9_vow_148 rfl (lv_at hl 3 rfl) ?_
          refine lv_bipush (pc := 149) (v := 10) hx hb dX9_vow_149 (by decide) ?_
          refine lv_irem (pc := 151) hx hb dX9_vow_151 (by decide) ?_
          obtain ⟨hc13, h⟩ := o_chk h
          refine ir_st (pc := 152) (k := 4) C hW hS (by decide) (by decide) rfl rfl (inb_in hc13) dX9_vow_152 (fun H locs hW hS => ?_)
          obtain ⟨σ15, hσ15, h⟩ := o_d h
          replace hW : WR D ac (z + 80) σ15 H := by rw [← hσ15]; exact hW
          refine lv_aload_n (pc := 153) hx hb dX9_vow_153 rfl (lv_at hl 2 rfl) ?_
          refine gf_X9_5 (pc := 154) C hW fl_X9_19 dX9_vow_154 ?_
          refine lv_iload (pc := 157) hx hb dX9_vow_157 (lv_at hl 0 rfl) ?_
          refine lv_iconst (pc := 159) (v := 2) hx hb dX9_vow_159 (by decide) ?_
          refine lv_iadd (pc := 160) hx hb dX9_vow_160 ?_
          refine lv_iload_n (pc := 161) hx hb dX9_vow_161 rfl (lv_at hl 4 rfl) ?_
          obtain ⟨hc15, h⟩ := o_chk h
          refine ir_st (pc := 162) (k := 4) C hW hS (by decide) (by decide) rfl rfl (inb_in hc15) dX9_vow_162 (fun H locs hW hS => ?_)
          obtain ⟨σ17, hσ17, h⟩ := o_d h
          replace hW : WR D ac (z + 80) σ17 H := by rw [← hσ17]; exact hW
          refine lv_aload_n (pc := 163) hx hb dX9_vow_163 rfl (lv_at hl 2 rfl) ?_
          refine gf_X9_5 (pc := 164) C hW fl_X9_19 dX9_vow_164 ?_
          refine lv_iload (pc := 167) hx hb dX9_vow_167 (lv_at hl 0 rfl) ?_
          refine lv_iconst (pc := 169) (v := 3) hx hb dX9_vow_169 (by decide) ?_
          refine lv_iadd (pc := 170) hx hb dX9_vow_170 ?_
          refine lv_iload_n (pc := 171) hx hb dX9_vow_171 rfl (lv_at hl 5 rfl) ?_
          obtain ⟨hc17, h⟩ := o_chk h
          refine ir_st (pc := 172) (k := 4) C hW hS (by decide) (by decide) rfl rfl (inb_in hc17) dX9_vow_172 (fun H locs hW hS => ?_)
          obtain ⟨σ19, hσ19, h⟩ := o_d h
          replace hW : WR D ac (z + 80) σ19 H := by rw [← hσ19]; exact hW
          refine lv_aload_n (pc := 173) hx hb dX9_vow_173 rfl (lv_at hl 2 rfl) ?_
          refine gf_X9_5 (pc := 174) C hW fl_X9_19 dX9_vow_174 ?_
          refine lv_iload (pc := 177) hx hb dX9_vow_177 (lv_at hl 0 rfl) ?_
          refine lv_iconst (pc := 179) (v := 4) hx hb dX9_vow_179 (by decide) ?_
          refine lv_iadd (pc := 180) hx hb dX9_vow_180 ?_
          refine lv_iconst (pc := 181) (v := -1) hx hb dX9_vow_181 (by decide) ?_
          obtain ⟨hc19, h⟩ := o_chk h
          refine ir_st (pc := 182) (k := 4) C hW hS (by decide) (by decide) rfl rfl (inb_in hc19) dX9_vow_182 (fun H locs hW hS => ?_)
          obtain ⟨σ21, hσ21, h⟩ := o_d h
          replace hW : WR D ac (z + 80) σ21 H := by rw [← hσ21]; exact hW
          refine lv_aload_n (pc := 183) hx hb dX9_vow_183 rfl (lv_at hl 2 rfl) ?_
          refine gf_X9_5 (pc := 184) C hW fl_X9_19 dX9_vow_184 ?_
          refine lv_iload (pc := 187) hx hb dX9_vow_187 (lv_at hl 0 rfl) ?_
          refine lv_iconst (pc := 189) (v := 5) hx hb dX9_vow_189 (by decide) ?_
          refine lv_iadd (pc := 190) hx hb dX9_vow_190 ?_
          refine lv_iconst (pc := 191) (v := 0) hx hb dX9_vow_191 (by decide) ?_
          obtain ⟨hc21, h⟩ := o_chk h
          refine ir_st (pc := 192) (k := 4) C hW hS (by decide) (by decide) rfl rfl (inb_in hc21) dX9_vow_192 (fun H locs hW hS => ?_)
          obtain ⟨σ23, hσ23, h⟩ := o_d h
          replace hW : WR D ac (z + 80) σ23 H := by rw [← hσ23]; exact hW
          refine lv_aload_n (pc := 193) hx hb dX9_vow_193 rfl (lv_at hl 2 rfl) ?_
          refine lv_dup (pc := 194) hx hb dX9_vow_194 rfl ?_
          refine gf_X9_4 (pc := 195) C hW fl_X9_88 dX9_vow_195 ?_
          refine lv_iconst (pc := 198) (v := 1) hx hb dX9_vow_198 (by decide) ?_
          refine lv_iadd (pc := 199) hx hb dX9_vow_199 ?_
          refine pf_X9_4 (pc := 200) C hW hS fl_X9_88 dX9_vow_200 (fun H locs hW hS => ?_)
          refine lv_aload_n (pc := 203) hx hb dX9_vow_203 rfl (lv_at hl 2 rfl) ?_
          refine gf_X9_4 (pc := 204) C hW fl_X9_88 dX9_vow_204 ?_
          refine lv_iconst (pc := 207) (v := 1) hx hb dX9_vow_207 (by decide) ?_
          refine lv_isub (pc := 208) hx hb dX9_vow_208 ?_
          exact g_ret (pc := 209) C hW hS rfl dX9_vow_209 (congrArg (fun q => some (Value.int q)) (o_r h).1) (o_r h).2
        · replace h := o_pos hc10 h
          refine lv_bipush (pc := 117) (v := -4) hx hb dX9_vow_117 (by decide) ?_
          exact g_ret (pc := 119) C hW hS rfl dX9_vow_119 (congrArg (fun q => some (Value.int q)) (o_r h).1) (o_r h).2
      · replace h := o_neg hc9 h
        refine lv_bipush (pc := 105) (v := -3) hx hb dX9_vow_105 (by decide) ?_
        exact g_ret (pc := 107) C hW hS rfl dX9_vow_107 (congrArg (fun q => some (Value.int q)) (o_r h).1) (o_r h).2
  · replace h := o_pos hc6 h
    refine lv_bipush (pc := 77) (v := -2) hx hb dX9_vow_77 (by decide) ?_
    exact g_ret (pc := 79) C hW hS rfl dX9_vow_79 (congrArg (fun q => some (Value.int q)) (o_r h).1) (o_r h).2

theorem w_X9_vow_b69 (C : CX cX9_vow 6 RX9 (some .int) D ac p m c s args meth (z, aK, aV) (Ar (z + 80))) (hK : 2 ≤ K) {r : Int32} {σf : Mem}   (σ : Mem) (v1 : Int32) (v2 : Int32) (v3 : Int32)  {H : Heap} {locs : List Loc} {ls : Array Slot} (hW : WR D ac (z + 80) σ H) (hS : va_S (Ar (z + 80)) s.heap H locs) (hl : lv_has ls 6 [(0, .ref (z + 80 + 0)), (1, .int v1), (2, .int v2), (3, .int v3)]) (h : f_X9_vow_b69 σ v1 v2 v3 = some (r, σf)) : W p l e (rma K 0 0) s m args below meth c H locs 0 0 (MQ below (QV D (Er ac (z + 80)) inR (z + 80) (some (.int r)) σf (Ar (z + 80))) args s 0 0 (Ar (z + 80))) (F0 m 69 ls []) := by
  have hx := C.1.1
  have hb := C.1.2.1
  unfold f_X9_vow_b69 at h
  refine lv_iconst (pc := 69) (v := 0) hx hb dX9_vow_69 (by decide) ?_
  exact w_X9_vow_b70 C hK σ v1 v2 v3 (0 : Int32) hW hS (lv_sub hl [0, 1, 2, 3] rfl) h

theorem c_X9_vow {K : Nat}  (hK : 2 ≤ K) {σ : Mem} {σf : Mem} {v1 : Int32} {v2 : Int32} {v3 : Int32} {r : Int32} (h : f_X9_vow σ v1 v2 v3 = some (r, σf)) : MC l D (Er ac (z + 80)) inR (z + 80) ac (z, aK, aV) (Ar (z + 80)) yX9_vow cX9_vow 6 (some .int) K [.ref (z + 80 + 0), .int v1, .int v2, .int v3] σ (some (.int r)) σf := by
  refine MC.of (fun q hq => by have := hq.1; show z ≤ q; omega) (plainFor_of_name (by decide)) (Nat.le_of_ble_eq_true rfl) ?_
  intro p e s m below meth c args C hW ls hl
  replace hl : lv_has ls 6 [(0, .ref (z + 80 + 0)), (1, .int v1), (2, .int v2), (3, .int v3)] := hl
  have hS : va_S (Ar (z + 80)) s.heap s.heap [] := va_S.rf
  have hx := C.1.1
  have hb := C.1.2.1
  unfold f_X9_vow at h
  refine lv_iload_n (pc := 0) hx hb dX9_vow_0 rfl (lv_at hl 1 rfl) ?_
  refine lv_iconst (pc := 1) (v := 0) hx hb dX9_vow_1 (by decide) ?_
  refine lv_bipush (pc := 2) (v := 59) hx hb dX9_vow_2 (by decide) ?_
  refine g_stat (pc := 4) (st2 := [.int (f_X9_in v1 (0 : Int32) (59 : Int32))]) (rest := []) C hW hS (c_X9_in (K := K - 1) (by omega) rfl) mw_X9_84 (hRoom (by omega) (by decide)) rfl rfl rfl (Nat.le_of_ble_eq_true rfl) hl.1 dX9_vow_4 (fun H locs hW hS => ?_)
  refine lv_if_eq (pc := 7) (tgt := 69) hx hb dX9_vow_7 (by decide) (fun hc0 => ?_) (fun hc0 => ?_)
  · replace h := o_pos hc0 h
    exact w_X9_vow_b69 C hK σ v1 v2 v3 hW hS (lv_sub hl [0, 1, 2, 3] rfl) h
  · replace h := o_neg hc0 h
    refine lv_aload_n (pc := 10) hx hb dX9_vow_10 rfl (lv_at hl 0 rfl) ?_
    refine lv_iload_n (pc := 11) hx hb dX9_vow_11 rfl (lv_at hl 1 rfl) ?_
    refine lv_bipush (pc := 12) (v := 10) hx hb dX9_vow_12 (by decide) ?_
    refine lv_idiv (pc := 14) hx hb dX9_vow_14 (by decide) ?_
    refine g_virt (pc := 15) (st2 := [.int (f_X9_isMan σ (v1 / (10 : Int32)))]) (rest := []) C hW hS (c_X9_isMan (K := K - 1) (by omega) rfl) mw_X9_176 inR0 Er_0 rfl (hRoom (by omega) (by decide)) rfl rfl rfl (Nat.le_of_ble_eq_true rfl) hl.1 dX9_vow_15 (fun H locs hW hS => ?_)
    refine lv_if_eq (pc := 18) (tgt := 69) hx hb dX9_vow_18 (by decide) (fun hc1 => ?_) (fun hc1 => ?_)
    · replace h := o_pos hc1 h
      exact w_X9_vow_b69 C hK σ v1 v2 v3 hW hS (lv_sub hl [0, 1, 2, 3] rfl) h
    · replace h := o_neg hc1 h
      refine lv_aload_n (pc := 21) hx hb dX9_vow_21 rfl (lv_at hl 0 rfl) ?_
      refine lv_iload_n (pc := 22) hx hb dX9_vow_22 rfl (lv_at hl 1 rfl) ?_
      refine lv_bipush (pc := 23) (v := 10) hx hb dX9_vow_23 (by decide) ?_
      refine lv_irem (pc := 25) hx hb dX9_vow_25 (by decide) ?_
      refine g_virt (pc := 26) (st2 := [.int (f_X9_isMan σ (irm v1 (10 : Int32)))]) (rest := []) C hW hS (c_X9_isMan (K := K - 1) (by omega) rfl) mw_X9_176 inR0 Er_0 rfl (hRoom (by omega) (by decide)) rfl rfl rfl (Nat.le_of_ble_eq_true rfl) hl.1 dX9_vow_26 (fun H locs hW hS => ?_)
      refine lv_if_eq (pc := 29) (tgt := 69) hx hb dX9_vow_29 (by decide) (fun hc2 => ?_) (fun hc2 => ?_)
      · replace h := o_pos hc2 h
        exact w_X9_vow_b69 C hK σ v1 v2 v3 hW hS (lv_sub hl [0, 1, 2, 3] rfl) h
      · replace h := o_neg hc2 h
        refine lv_iload_n (pc := 32) hx hb dX9_vow_32 rfl (lv_at hl 1 rfl) ?_
        refine lv_bipush (pc := 33) (v := 10) hx hb dX9_vow_33 (by decide) ?_
        refine lv_idiv (pc := 35) hx hb dX9_vow_35 (by decide) ?_
        refine lv_iload_n (pc := 36) hx hb dX9_vow_36 rfl (lv_at hl 1 rfl) ?_
        refine lv_bipush (pc := 37) (v := 10) hx hb dX9_vow_37 (by decide) ?_
        refine lv_irem (pc := 39) hx hb dX9_vow_39 (by decide) ?_
        refine lv_icmp_eq (pc := 40) (tgt := 69) hx hb dX9_vow_40 (by decide) (fun hc3 => ?_) (fun hc3 => ?_)
        · replace h := o_pos hc3 h
          exact w_X9_vow_b69 C hK σ v1 v2 v3 hW hS (lv_sub hl [0, 1, 2, 3] rfl) h
        · replace h := o_neg hc3 h
          refine lv_iload_n (pc := 43) hx hb dX9_vow_43 rfl (lv_at hl 2 rfl) ?_
          refine lv_iconst (pc := 44) (v := 1) hx hb dX9_vow_44 (by decide) ?_
          refine lv_sipush (pc := 45) (v := 200) hx hb dX9_vow_45 (by decide) ?_
          refine g_stat (pc := 48) (st2 := [.int (f_X9_in v2 (1 : Int32) (200 : Int32))]) (rest := []) C hW hS (c_X9_in (K := K - 1) (by omega) rfl) mw_X9_84 (hRoom (by omega) (by decide)) rfl rfl rfl (Nat.le_of_ble_eq_true rfl) hl.1 dX9_vow_48 (fun H locs hW hS => ?_)
          refine lv_if_eq (pc := 51) (tgt := 69) hx hb dX9_vow_51 (by decide) (fun hc4 => ?_) (fun hc4 => ?_)
          · replace h := o_pos hc4 h
            exact w_X9_vow_b69 C hK σ v1 v2 v3 hW hS (lv_sub hl [0, 1, 2, 3] rfl) h
          · replace h := o_neg hc4 h
            refine lv_iload_n (pc := 54) hx hb dX9_vow_54 rfl (lv_at hl 3 rfl) ?_
            refine lv_iconst (pc := 55) (v := 0) hx hb dX9_vow_55 (by decide) ?_
            refine lv_sipush (pc := 56) (v := 999) hx hb dX9_vow_56 (by decide) ?_
            refine g_stat (pc := 59) (st2 := [.int (f_X9_in v3 (0 : Int32) (999 : Int32))]) (rest := []) C hW hS (c_X9_in (K := K - 1) (by omega) rfl) mw_X9_84 (hRoom (by omega) (by decide)) rfl rfl rfl (Nat.le_of_ble_eq_true rfl) hl.1 dX9_vow_59 (fun H locs hW hS => ?_)
            refine lv_if_eq (pc := 62) (tgt := 69) hx hb dX9_vow_62 (by decide) (fun hc5 => ?_) (fun hc5 => ?_)
            · replace h := o_pos hc5 h
              exact w_X9_vow_b69 C hK σ v1 v2 v3 hW hS (lv_sub hl [0, 1, 2, 3] rfl) h
            · replace h := o_neg hc5 h
              refine lv_iconst (pc := 65) (v := 1) hx hb dX9_vow_65 (by decide) ?_
              refine lv_goto (pc := 66) (tgt := 70) hx hb dX9_vow_66 (by decide) ?_
              exact w_X9_vow_b70 C hK σ v1 v2 v3 (1 : Int32) hW hS (lv_sub hl [0, 1, 2, 3] rfl) h

theorem w_X9_maturesOf_b50 (C : CX cX9_maturesOf 5 RX9 (some .int) D ac p m c s args meth (z, aK, aV) (Ar (z + 80))) (hK : 1 ≤ K) {r : Int32}   (σ : Mem) (v3 : Int32) (k0 : Int32)  {H : Heap} {locs : List Loc} {ls : Array Slot} (hW : WR D ac (z + 80) σ H) (hS : va_S (Ar (z + 80)) s.heap H locs) (hl : lv_has ls 5 [(3, .int v3)]) (h : f_X9_maturesOf_b50 σ v3 k0 = some r) : W p l e (rma K 0 0) s m args below meth c H locs 0 0 (MQ below (QV D (Er ac (z + 80)) inR (z + 80) (some (.int r)) σ (Ar (z + 80))) args s 0 0 (Ar (z + 80))) (F0 m 50 ls [.int k0]) := by
  have hx := C.1.1
  have hb := C.1.2.1
  unfold f_X9_maturesOf_b50 at h
  refine lv_istore (pc := 50) (lv' := [(4, .int k0), (3, .int v3)]) hx hb dX9_maturesOf_50 hl (by decide) rfl (fun ls hl => ?_)
  refine lv_iload (pc := 52) hx hb dX9_maturesOf_52 (lv_at hl 0 rfl) ?_
  refine lv_iload_n (pc := 54) hx hb dX9_maturesOf_54 rfl (lv_at hl 1 rfl) ?_
  refine lv_icmp_le (pc := 55) (tgt := 63) hx hb dX9_maturesOf_55 (by decide) (fun hc6 => ?_) (fun hc6 => ?_)
  · replace h := o_pos hc6 h
    refine lv_iload_n (pc := 63) hx hb dX9_maturesOf_63 rfl (lv_at hl 1 rfl) ?_
    exact g_ret (pc := 64) C hW hS rfl dX9_maturesOf_64 (congrArg (fun q => some (Value.int q)) (Option.some.inj h).symm) rfl
  · replace h := o_neg hc6 h
    refine lv_iload (pc := 58) hx hb dX9_maturesOf_58 (lv_at hl 0 rfl) ?_
    refine lv_goto (pc := 60) (tgt := 64) hx hb dX9_maturesOf_60 (by decide) ?_
    exact g_ret (pc := 64) C hW hS rfl dX9_maturesOf_64 (congrArg (fun q => some (Value.int q)) (Option.some.inj h).symm) rfl

theorem c_X9_maturesOf {K : Nat}  (hK : 1 ≤ K) {σ : Mem} {v1 : Int32} {r : Int32} (h : f_X9_maturesOf σ v1 = some r) : MC l D (Er ac (z + 80)) inR (z + 80) ac (z, aK, aV) (Ar (z + 80)) yX9_maturesOf cX9_maturesOf 5 (some .int) K [.ref (z + 80 + 0), .int v1] σ (some (.int r)) σ := by
  refine MC.of (fun q hq => by have := hq.1; show z ≤ q; omega) (plainFor_of_name (by decide)) (Nat.le_of_ble_eq_true rfl) ?_
  intro p e s m below meth c args C hW ls hl
  replace hl : lv_has ls 5 [(0, .ref (z + 80 + 0)), (1, .int v1)] := hl
  have hS : va_S (Ar (z + 80)) s.heap s.heap [] := va_S.rf
  have hx := C.1.1
  have hb := C.1.2.1
  unfold f_X9_maturesOf at h
  refine lv_aload_n (pc := 0) hx hb dX9_maturesOf_0 rfl (lv_at hl 0 rfl) ?_
  refine gf_X9_5 (pc := 1) C hW fl_X9_19 dX9_maturesOf_1 ?_
  refine lv_bipush (pc := 4) (v := 6) hx hb dX9_maturesOf_4 (by decide) ?_
  refine lv_iload_n (pc := 6) hx hb dX9_maturesOf_6 rfl (lv_at hl 1 rfl) ?_
  refine lv_imul (pc := 7) hx hb dX9_maturesOf_7 ?_
  refine lv_iconst (pc := 8) (v := 4) hx hb dX9_maturesOf_8 (by decide) ?_
  refine lv_iadd (pc := 9) hx hb dX9_maturesOf_9 ?_
  obtain ⟨hc0, h⟩ := o_chk h
  refine ir_ld (pc := 10) (k := 4) C hW (by decide) (by decide) rfl rfl (inb_in hc0) dX9_maturesOf_10 ?_
  obtain ⟨x2, hxx2, h⟩ := o_d h
  refine g_top hxx2 ?_
  refine lv_istore_n (pc := 11) (lv' := [(2, .int x2), (0, .ref (z + 80 + 0)), (1, .int v1)]) hx hb dX9_maturesOf_11 rfl hl (by decide) rfl (fun ls hl => ?_)
  refine lv_aload_n (pc := 12) hx hb dX9_maturesOf_12 rfl (lv_at hl 1 rfl) ?_
  refine gf_X9_5 (pc := 13) C hW fl_X9_19 dX9_maturesOf_13 ?_
  refine lv_bipush (pc := 16) (v := 6) hx hb dX9_maturesOf_16 (by decide) ?_
  refine lv_iload_n (pc := 18) hx hb dX9_maturesOf_18 rfl (lv_at hl 2 rfl) ?_
  refine lv_imul (pc := 19) hx hb dX9_maturesOf_19 ?_
  refine lv_iconst (pc := 20) (v := 3) hx hb dX9_maturesOf_20 (by decide) ?_
  refine lv_iadd (pc := 21) hx hb dX9_maturesOf_21 ?_
  obtain ⟨hc2, h⟩ := o_chk h
  refine ir_ld (pc := 22) (k := 4) C hW (by decide) (by decide) rfl rfl (inb_in hc2) dX9_maturesOf_22 ?_
  obtain ⟨x4, hxx4, h⟩ := o_d h
  refine g_top hxx4 ?_
  refine lv_istore_n (pc := 23) (lv' := [(3, .int x4), (2, .int x2), (0, .ref (z + 80 + 0)), (1, .int v1)]) hx hb dX9_maturesOf_23 rfl hl (by decide) rfl (fun ls hl => ?_)
  refine lv_iload_n (pc := 24) hx hb dX9_maturesOf_24 rfl (lv_at hl 1 rfl) ?_
  refine lv_iconst (pc := 25) (v := -1) hx hb dX9_maturesOf_25 (by decide) ?_
  refine lv_icmp_ne (pc := 26) (tgt := 33) hx hb dX9_maturesOf_26 (by decide) (fun hc4 => ?_) (fun hc4 => ?_)
  · replace h := o_neg hc4 h
    refine lv_aload_n (pc := 33) hx hb dX9_maturesOf_33 rfl (lv_at hl 2 rfl) ?_
    refine gf_X9_5 (pc := 34) C hW fl_X9_19 dX9_maturesOf_34 ?_
    refine lv_bipush (pc := 37) (v := 6) hx hb dX9_maturesOf_37 (by decide) ?_
    refine lv_iload_n (pc := 39) hx hb dX9_maturesOf_39 rfl (lv_at hl 1 rfl) ?_
    refine lv_iconst (pc := 40) (v := 0) hx hb dX9_maturesOf_40 (by decide) ?_
    refine lv_bipush (pc := 41) (v := 7) hx hb dX9_maturesOf_41 (by decide) ?_
    refine g_stat (pc := 43) (st2 := [.int (f_X9_within x2 (0 : Int32) (7 : Int32)), .int (6 : Int32), .ref (z + 80 + 4)]) (rest := [.int (6 : Int32), .ref (z + 80 + 4)]) C hW hS (c_X9_within (K := K - 1) (by omega) rfl) mw_X9_173 (hRoom (by omega) (by decide)) rfl rfl rfl (Nat.le_of_ble_eq_true rfl) hl.1 dX9_maturesOf_43 (fun H locs hW hS => ?_)
    refine lv_imul (pc := 46) hx hb dX9_maturesOf_46 ?_
    refine lv_iconst (pc := 47) (v := 3) hx hb dX9_maturesOf_47 (by decide) ?_
    refine lv_iadd (pc := 48) hx hb dX9_maturesOf_48 ?_
    obtain ⟨hc5, h⟩ := o_chk h
    refine ir_ld (pc := 49) (k := 4) C hW (by decide) (by decide) rfl rfl (inb_in hc5) dX9_maturesOf_49 ?_
    exact w_X9_maturesOf_b50 C hK σ x4 (σ 4 ((((6 : Int32) * (f_X9_within x2 (0 : Int32) (7 : Int32))) + (3 : Int32)).toNatClampNeg)) hW hS (lv_sub hl [0] rfl) h
  · replace h := o_pos hc4 h
    refine lv_iload_n (pc := 29) hx hb dX9_maturesOf_29 rfl (lv_at hl 0 rfl) ?_
    refine lv_goto (pc := 30) (tgt := 50) hx hb dX9_maturesOf_30 (by decide) ?_
    exact w_X9_maturesOf_b50 C hK σ x4 x4 hW hS (lv_sub hl [0] rfl) h

theorem c_X9_bond {K : Nat}  (hK : 2 ≤ K) {σ : Mem} {v1 : Int32} {v2 : Int32} {r : Int32} (h : f_X9_bond σ v1 v2 = some r) : MC l D (Er ac (z + 80)) inR (z + 80) ac (z, aK, aV) (Ar (z + 80)) yX9_bond cX9_bond 3 (some .int) K [.ref (z + 80 + 0), .int v1, .int v2] σ (some (.int r)) σ := by
  refine MC.of (fun q hq => by have := hq.1; show z ≤ q; omega) (plainFor_of_name (by decide)) (Nat.le_of_ble_eq_true rfl) ?_
  intro p e s m below meth c args C hW ls hl
  replace hl : lv_has ls 3 [(0, .ref (z + 80 + 0)), (1, .int v1), (2, .int v2)] := hl
  have hS : va_S (Ar (z + 80)) s.heap s.heap [] := va_S.rf
  have hx := C.1.1
  have hb := C.1.2.1
  unfold f_X9_bond at h
  refine lv_aload_n (pc := 0) hx hb dX9_bond_0 rfl (lv_at hl 0 rfl) ?_
  refine lv_iload_n (pc := 1) hx hb dX9_bond_1 rfl (lv_at hl 1 rfl) ?_
  refine g_virt (pc := 2) (st2 := [.int (f_X9_isVow σ v1)]) (rest := []) C hW hS (c_X9_isVow (K := K - 1) (by omega) rfl) mw_X9_188 inR0 Er_0 rfl (hRoom (by omega) (by decide)) rfl rfl rfl (Nat.le_of_ble_eq_true rfl) hl.1 dX9_bond_2 (fun H locs hW hS => ?_)
  refine lv_if_ne (pc := 5) (tgt := 11) hx hb dX9_bond_5 (by decide) (fun hc0 => ?_) (fun hc0 => ?_)
  · replace h := o_neg hc0 h
    refine lv_iload_n (pc := 11) hx hb dX9_bond_11 rfl (lv_at hl 2 rfl) ?_
    refine lv_iconst (pc := 12) (v := 0) hx hb dX9_bond_12 (by decide) ?_
    refine lv_iconst (pc := 13) (v := 5) hx hb dX9_bond_13 (by decide) ?_
    refine g_stat (pc := 14) (st2 := [.int (f_X9_in v2 (0 : Int32) (5 : Int32))]) (rest := []) C hW hS (c_X9_in (K := K - 1) (by omega) rfl) mw_X9_84 (hRoom (by omega) (by decide)) rfl rfl rfl (Nat.le_of_ble_eq_true rfl) hl.1 dX9_bond_14 (fun H locs hW hS => ?_)
    refine lv_if_eq (pc := 17) (tgt := 34) hx hb dX9_bond_17 (by decide) (fun hc1 => ?_) (fun hc1 => ?_)
    · replace h := o_pos hc1 h
      refine lv_iload_n (pc := 34) hx hb dX9_bond_34 rfl (lv_at hl 2 rfl) ?_
      refine lv_bipush (pc := 35) (v := 6) hx hb dX9_bond_35 (by decide) ?_
      refine lv_icmp_ne (pc := 37) (tgt := 48) hx hb dX9_bond_37 (by decide) (fun hc2 => ?_) (fun hc2 => ?_)
      · replace h := o_neg hc2 h
        refine lv_bipush (pc := 48) (v := -7) hx hb dX9_bond_48 (by decide) ?_
        exact g_ret (pc := 50) C hW hS rfl dX9_bond_50 (congrArg (fun q => some (Value.int q)) (Option.some.inj h).symm) rfl
      · replace h := o_pos hc2 h
        refine lv_aload_n (pc := 40) hx hb dX9_bond_40 rfl (lv_at hl 0 rfl) ?_
        refine lv_iload_n (pc := 41) hx hb dX9_bond_41 rfl (lv_at hl 1 rfl) ?_
        obtain ⟨r5, hc3, h⟩ := o_b h
        refine g_virt (pc := 42) (st2 := [.int r5]) (rest := []) C hW hS (c_X9_maturesOf (K := K - 1) (by omega) hc3) mw_X9_191 inR0 Er_0 rfl (hRoom (by omega) (by decide)) rfl rfl rfl (Nat.le_of_ble_eq_true rfl) hl.1 dX9_bond_42 (fun H locs hW hS => ?_)
        refine lv_goto (pc := 45) (tgt := 50) hx hb dX9_bond_45 (by decide) ?_
        exact g_ret (pc := 50) C hW hS rfl dX9_bond_50 (congrArg (fun q => some (Value.int q)) (Option.some.inj h).symm) rfl
    · replace h := o_neg hc1 h
      refine lv_aload_n (pc := 20) hx hb dX9_bond_20 rfl (lv_at hl 0 rfl) ?_
      refine gf_X9_5 (pc := 21) C hW fl_X9_19 dX9_bond_21 ?_
      refine lv_bipush (pc := 24) (v := 6) hx hb dX9_bond_24 (by decide) ?_
      refine lv_iload_n (pc := 26) hx hb dX9_bond_26 rfl (lv_at hl 1 rfl) ?_
      refine lv_imul (pc := 27) hx hb dX9_bond_27 ?_
      refine lv_iload_n (pc := 28) hx hb dX9_bond_28 rfl (lv_at hl 2 rfl) ?_
      refine lv_iadd (pc := 29) hx hb dX9_bond_29 ?_
      obtain ⟨hc5, h⟩ := o_chk h
      refine ir_ld (pc := 30) (k := 4) C hW (by decide) (by decide) rfl rfl (inb_in hc5) dX9_bond_30 ?_
      refine lv_goto (pc := 31) (tgt := 50) hx hb dX9_bond_31 (by decide) ?_
      exact g_ret (pc := 50) C hW hS rfl dX9_bond_50 (congrArg (fun q => some (Value.int q)) (Option.some.inj h).symm) rfl
  · replace h := o_pos hc0 h
    refine lv_bipush (pc := 8) (v := -6) hx hb dX9_bond_8 (by decide) ?_
    exact g_ret (pc := 10) C hW hS rfl dX9_bond_10 (congrArg (fun q => some (Value.int q)) (Option.some.inj h).symm) rfl

theorem w_X9_plaits_b96 (C : CX cX9_plaits 4 RX9 (some .int) D ac p m c s args meth (z, aK, aV) (Ar (z + 80))) (hK : 2 ≤ K) {r : Int32} {σf : Mem}   (σ : Mem) (v1 : Int32) (v2 : Int32) (k0 : Int32)  {H : Heap} {locs : List Loc} {ls : Array Slot} (hW : WR D ac (z + 80) σ H) (hS : va_S (Ar (z + 80)) s.heap H locs) (hl : lv_has ls 4 [(0, .ref (z + 80 + 0)), (1, .int v1), (2, .int v2)]) (h : f_X9_plaits_b96 σ v1 v2 k0 = some (r, σf)) : W p l e (rma K 0 0) s m args below meth c H locs 0 0 (MQ below (QV D (Er ac (z + 80)) inR (z + 80) (some (.int r)) σf (Ar (z + 80))) args s 0 0 (Ar (z + 80))) (F0 m 96 ls [.int k0]) := by
  have hx := C.1.1
  have hb := C.1.2.1
  unfold f_X9_plaits_b96 at h
  refine lv_istore_n (pc := 96) (lv' := [(3, .int k0), (0, .ref (z + 80 + 0)), (1, .int v1), (2, .int v2)]) hx hb dX9_plaits_96 rfl hl (by decide) rfl (fun ls hl => ?_)
  refine lv_iload_n (pc := 97) hx hb dX9_plaits_97 rfl (lv_at hl 0 rfl) ?_
  refine lv_if_ne (pc := 98) (tgt := 104) hx hb dX9_plaits_98 (by decide) (fun hc16 => ?_) (fun hc16 => ?_)
  · replace h := o_neg hc16 h
    refine lv_aload_n (pc := 104) hx hb dX9_plaits_104 rfl (lv_at hl 1 rfl) ?_
    refine gf_X9_5 (pc := 105) C hW fl_X9_19 dX9_plaits_105 ?_
    refine lv_bipush (pc := 108) (v := 6) hx hb dX9_plaits_108 (by decide) ?_
    refine lv_iload_n (pc := 110) hx hb dX9_plaits_110 rfl (lv_at hl 2 rfl) ?_
    refine lv_imul (pc := 111) hx hb dX9_plaits_111 ?_
    refine lv_iconst (pc := 112) (v := 4) hx hb dX9_plaits_112 (by decide) ?_
    refine lv_iadd (pc := 113) hx hb dX9_plaits_113 ?_
    refine lv_iload_n (pc := 114) hx hb dX9_plaits_114 rfl (lv_at hl 3 rfl) ?_
    obtain ⟨hc17, h⟩ := o_chk h
    refine ir_st (pc := 115) (k := 4) C hW hS (by decide) (by decide) rfl rfl (inb_in hc17) dX9_plaits_115 (fun H locs hW hS => ?_)
    obtain ⟨σ19, hσ19, h⟩ := o_d h
    replace hW : WR D ac (z + 80) σ19 H := by rw [← hσ19]; exact hW
    refine lv_aload_n (pc := 116) hx hb dX9_plaits_116 rfl (lv_at hl 1 rfl) ?_
    refine gf_X9_5 (pc := 117) C hW fl_X9_19 dX9_plaits_117 ?_
    refine lv_bipush (pc := 120) (v := 6) hx hb dX9_plaits_120 (by decide) ?_
    refine lv_iload_n (pc := 122) hx hb dX9_plaits_122 rfl (lv_at hl 3 rfl) ?_
    refine lv_imul (pc := 123) hx hb dX9_plaits_123 ?_
    refine lv_iconst (pc := 124) (v := 4) hx hb dX9_plaits_124 (by decide) ?_
    refine lv_iadd (pc := 125) hx hb dX9_plaits_125 ?_
    refine lv_iload_n (pc := 126) hx hb dX9_plaits_126 rfl (lv_at hl 2 rfl) ?_
    obtain ⟨hc19, h⟩ := o_chk h
    refine ir_st (pc := 127) (k := 4) C hW hS (by decide) (by decide) rfl rfl (inb_in hc19) dX9_plaits_127 (fun H locs hW hS => ?_)
    obtain ⟨σ21, hσ21, h⟩ := o_d h
    replace hW : WR D ac (z + 80) σ21 H := by rw [← hσ21]; exact hW
    refine lv_aload_n (pc := 128) hx hb dX9_plaits_128 rfl (lv_at hl 1 rfl) ?_
    refine lv_iload_n (pc := 129) hx hb dX9_plaits_129 rfl (lv_at hl 2 rfl) ?_
    obtain ⟨r23, hc21, h⟩ := o_b h
    refine g_virt (pc := 130) (st2 := [.int r23]) (rest := []) C hW hS (c_X9_maturesOf (K := K - 1) (by omega) hc21) mw_X9_191 inR0 Er_0 rfl (hRoom (by omega) (by decide)) rfl rfl rfl (Nat.le_of_ble_eq_true rfl) hl.1 dX9_plaits_130 (fun H locs hW hS => ?_)
    exact g_ret (pc := 133) C hW hS rfl dX9_plaits_133 (congrArg (fun q => some (Value.int q)) (o_r h).1) (o_r h).2
  · replace h := o_pos hc16 h
    refine lv_bipush (pc := 101) (v := -3) hx hb dX9_plaits_101 (by decide) ?_
    exact g_ret (pc := 103) C hW hS rfl dX9_plaits_103 (congrArg (fun q => some (Value.int q)) (o_r h).1) (o_r h).2

theorem w_X9_plaits_b95 (C : CX cX9_plaits 4 RX9 (some .int) D ac p m c s args meth (z, aK, aV) (Ar (z + 80))) (hK : 2 ≤ K) {r : Int32} {σf : Mem}   (σ : Mem) (v1 : Int32) (v2 : Int32)  {H : Heap} {locs : List Loc} {ls : Array Slot} (hW : WR D ac (z + 80) σ H) (hS : va_S (Ar (z + 80)) s.heap H locs) (hl : lv_has ls 4 [(0, .ref (z + 80 + 0)), (1, .int v1), (2, .int v2)]) (h : f_X9_plaits_b95 σ v1 v2 = some (r, σf)) : W p l e (rma K 0 0) s m args below meth c H locs 0 0 (MQ below (QV D (Er ac (z + 80)) inR (z + 80) (some (.int r)) σf (Ar (z + 80))) args s 0 0 (Ar (z + 80))) (F0 m 95 ls []) := by
  have hx := C.1.1
  have hb := C.1.2.1
  unfold f_X9_plaits_b95 at h
  refine lv_iconst (pc := 95) (v := 0) hx hb dX9_plaits_95 (by decide) ?_
  exact w_X9_plaits_b96 C hK σ v1 v2 (0 : Int32) hW hS (lv_sub hl [0, 1, 2] rfl) h

theorem c_X9_plaits {K : Nat}  (hK : 2 ≤ K) {σ : Mem} {σf : Mem} {v1 : Int32} {v2 : Int32} {r : Int32} (h : f_X9_plaits σ v1 v2 = some (r, σf)) : MC l D (Er ac (z + 80)) inR (z + 80) ac (z, aK, aV) (Ar (z + 80)) yX9_plaits cX9_plaits 4 (some .int) K [.ref (z + 80 + 0), .int v1, .int v2] σ (some (.int r)) σf := by
  refine MC.of (fun q hq => by have := hq.1; show z ≤ q; omega) (plainFor_of_name (by decide)) (Nat.le_of_ble_eq_true rfl) ?_
  intro p e s m below meth c args C hW ls hl
  replace hl : lv_has ls 4 [(0, .ref (z + 80 + 0)), (1, .int v1), (2, .int v2)] := hl
  have hS : va_S (Ar (z + 80)) s.heap s.heap [] := va_S.rf
  have hx := C.1.1
  have hb := C.1.2.1
  unfold f_X9_plaits at h
  refine lv_aload_n (pc := 0) hx hb dX9_plaits_0 rfl (lv_at hl 0 rfl) ?_
  refine lv_iload_n (pc := 1) hx hb dX9_plaits_1 rfl (lv_at hl 1 rfl) ?_
  refine g_virt (pc := 2) (st2 := [.int (f_X9_isVow σ v1)]) (rest := []) C hW hS (c_X9_isVow (K := K - 1) (by omega) rfl) mw_X9_188 inR0 Er_0 rfl (hRoom (by omega) (by decide)) rfl rfl rfl (Nat.le_of_ble_eq_true rfl) hl.1 dX9_plaits_2 (fun H locs hW hS => ?_)
  refine lv_if_eq (pc := 5) (tgt := 21) hx hb dX9_plaits_5 (by decide) (fun hc0 => ?_) (fun hc0 => ?_)
  · replace h := o_pos hc0 h
    refine lv_bipush (pc := 21) (v := -6) hx hb dX9_plaits_21 (by decide) ?_
    exact g_ret (pc := 23) C hW hS rfl dX9_plaits_23 (congrArg (fun q => some (Value.int q)) (o_r h).1) (o_r h).2
  · replace h := o_neg hc0 h
    refine lv_aload_n (pc := 8) hx hb dX9_plaits_8 rfl (lv_at hl 0 rfl) ?_
    refine lv_iload_n (pc := 9) hx hb dX9_plaits_9 rfl (lv_at hl 2 rfl) ?_
    refine g_virt (pc := 10) (st2 := [.int (f_X9_isVow σ v2)]) (rest := []) C hW hS (c_X9_isVow (K := K - 1) (by omega) rfl) mw_X9_188 inR0 Er_0 rfl (hRoom (by omega) (by decide)) rfl rfl rfl (Nat.le_of_ble_eq_true rfl) hl.1 dX9_plaits_10 (fun H locs hW hS => ?_)
    refine lv_if_eq (pc := 13) (tgt := 21) hx hb dX9_plaits_13 (by decide) (fun hc1 => ?_) (fun hc1 => ?_)
    · replace h := o_pos hc1 h
      refine lv_bipush (pc := 21) (v := -6) hx hb dX9_plaits_21 (by decide) ?_
      exact g_ret (pc := 23) C hW hS rfl dX9_plaits_23 (congrArg (fun q => some (Value.int q)) (o_r h).1) (o_r h).2
    · replace h := o_neg hc1 h
      refine lv_iload_n (pc := 16) hx hb dX9_plaits_16 rfl (lv_at hl 1 rfl) ?_
      refine lv_iload_n (pc := 17) hx hb dX9_plaits_17 rfl (lv_at hl 2 rfl) ?_
      refine lv_icmp_ne (pc := 18) (tgt := 24) hx hb dX9_plaits_18 (by decide) (fun hc2 => ?_) (fun hc2 => ?_)
      · replace h := o_neg hc2 h
        refine lv_aload_n (pc := 24) hx hb dX9_plaits_24 rfl (lv_at hl 0 rfl) ?_
        refine lv_iload_n (pc := 25) hx hb dX9_plaits_25 rfl (lv_at hl 1 rfl) ?_
        obtain ⟨r5, hc3, h⟩ := o_b h
        refine g_virt (pc := 26) (st2 := [.int r5]) (rest := []) C hW hS (c_X9_stands (K := K - 1) (by omega) hc3) mw_X9_164 inR0 Er_0 rfl (hRoom (by omega) (by decide)) rfl rfl rfl (Nat.le_of_ble_eq_true rfl) hl.1 dX9_plaits_26 (fun H locs hW hS => ?_)
        refine lv_if_eq (pc := 29) (tgt := 95) hx hb dX9_plaits_29 (by decide) (fun hc5 => ?_) (fun hc5 => ?_)
        · replace h := o_pos hc5 h
          exact w_X9_plaits_b95 C hK σ v1 v2 hW hS (lv_sub hl [0, 1, 2] rfl) h
        · replace h := o_neg hc5 h
          refine lv_aload_n (pc := 32) hx hb dX9_plaits_32 rfl (lv_at hl 0 rfl) ?_
          refine lv_iload_n (pc := 33) hx hb dX9_plaits_33 rfl (lv_at hl 2 rfl) ?_
          obtain ⟨r8, hc6, h⟩ := o_b h
          refine g_virt (pc := 34) (st2 := [.int r8]) (rest := []) C hW hS (c_X9_stands (K := K - 1) (by omega) hc6) mw_X9_164 inR0 Er_0 rfl (hRoom (by omega) (by decide)) rfl rfl rfl (Nat.le_of_ble_eq_true rfl) hl.1 dX9_plaits_34 (fun H locs hW hS => ?_)
          refine lv_if_eq (pc := 37) (tgt := 95) hx hb dX9_plaits_37 (by decide) (fun hc8 => ?_) (fun hc8 => ?_)
          · replace h := o_pos hc8 h
            exact w_X9_plaits_b95 C hK σ v1 v2 hW hS (lv_sub hl [0, 1, 2] rfl) h
          · replace h := o_neg hc8 h
            refine lv_aload_n (pc := 40) hx hb dX9_plaits_40 rfl (lv_at hl 0 rfl) ?_
            refine gf_X9_5 (pc := 41) C hW fl_X9_19 dX9_plaits_41 ?_
            refine lv_bipush (pc := 44) (v := 6) hx hb dX9_plaits_44 (by decide) ?_
            refine lv_iload_n (pc := 46) hx hb dX9_plaits_46 rfl (lv_at hl 1 rfl) ?_
            refine lv_imul (pc := 47) hx hb dX9_plaits_47 ?_
            refine lv_iconst (pc := 48) (v := 4) hx hb dX9_plaits_48 (by decide) ?_
            refine lv_iadd (pc := 49) hx hb dX9_plaits_49 ?_
            obtain ⟨hc9, h⟩ := o_chk h
            refine ir_ld (pc := 50) (k := 4) C hW (by decide) (by decide) rfl rfl (inb_in hc9) dX9_plaits_50 ?_
            refine lv_iconst (pc := 51) (v := -1) hx hb dX9_plaits_51 (by decide) ?_
            refine lv_icmp_ne (pc := 52) (tgt := 95) hx hb dX9_plaits_52 (by decide) (fun hc10 => ?_) (fun hc10 => ?_)
            · replace h := o_neg hc10 h
              exact w_X9_plaits_b95 C hK σ v1 v2 hW hS (lv_sub hl [0, 1, 2] rfl) h
            · replace h := o_pos hc10 h
              refine lv_aload_n (pc := 55) hx hb dX9_plaits_55 rfl (lv_at hl 0 rfl) ?_
              refine gf_X9_5 (pc := 56) C hW fl_X9_19 dX9_plaits_56 ?_
              refine lv_bipush (pc := 59) (v := 6) hx hb dX9_plaits_59 (by decide) ?_
              refine lv_iload_n (pc := 61) hx hb dX9_plaits_61 rfl (lv_at hl 2 rfl) ?_
              refine lv_imul (pc := 62) hx hb dX9_plaits_62 ?_
              refine lv_iconst (pc := 63) (v := 4) hx hb dX9_plaits_63 (by decide) ?_
              refine lv_iadd (pc := 64) hx hb dX9_plaits_64 ?_
              obtain ⟨hc11, h⟩ := o_chk h
              refine ir_ld (pc := 65) (k := 4) C hW (by decide) (by decide) rfl rfl (inb_in hc11) dX9_plaits_65 ?_
              refine lv_iconst (pc := 66) (v := -1) hx hb dX9_plaits_66 (by decide) ?_
              refine lv_icmp_ne (pc := 67) (tgt := 95) hx hb dX9_plaits_67 (by decide) (fun hc12 => ?_) (fun hc12 => ?_)
              · replace h := o_neg hc12 h
                exact w_X9_plaits_b95 C hK σ v1 v2 hW hS (lv_sub hl [0, 1, 2] rfl) h
              · replace h := o_pos hc12 h
                refine lv_aload_n (pc := 70) hx hb dX9_plaits_70 rfl (lv_at hl 0 rfl) ?_
                refine gf_X9_5 (pc := 71) C hW fl_X9_19 dX9_plaits_71 ?_
                refine lv_bipush (pc := 74) (v := 6) hx hb dX9_plaits_74 (by decide) ?_
                refine lv_iload_n (pc := 76) hx hb dX9_plaits_76 rfl (lv_at hl 1 rfl) ?_
                refine lv_imul (pc := 77) hx hb dX9_plaits_77 ?_
                obtain ⟨hc13, h⟩ := o_chk h
                refine ir_ld (pc := 78) (k := 4) C hW (by decide) (by decide) rfl rfl (inb_in hc13) dX9_plaits_78 ?_
                refine lv_aload_n (pc := 79) hx hb dX9_plaits_79 rfl (lv_at hl 0 rfl) ?_
                refine gf_X9_5 (pc := 80) C hW fl_X9_19 dX9_plaits_80 ?_
                refine lv_bipush (pc := 83) (v := 6) hx hb dX9_plaits_83 (by decide) ?_
                refine lv_iload_n (pc := 85) hx hb dX9_plaits_85 rfl (lv_at hl 2 rfl) ?_
                refine lv_imul (pc := 86) hx hb dX9_plaits_86 ?_
                obtain ⟨hc14, h⟩ := o_chk h
                refine ir_ld (pc := 87) (k := 4) C hW (by decide) (by decide) rfl rfl (inb_in hc14) dX9_plaits_87 ?_
                refine lv_icmp_ne (pc := 88) (tgt := 95) hx hb dX9_plaits_88 (by decide) (fun hc15 => ?_) (fun hc15 => ?_)
                · replace h := o_neg hc15 h
                  exact w_X9_plaits_b95 C hK σ v1 v2 hW hS (lv_sub hl [0, 1, 2] rfl) h
                · replace h := o_pos hc15 h
                  refine lv_iconst (pc := 91) (v := 1) hx hb dX9_plaits_91 (by decide) ?_
                  refine lv_goto (pc := 92) (tgt := 96) hx hb dX9_plaits_92 (by decide) ?_
                  exact w_X9_plaits_b96 C hK σ v1 v2 (1 : Int32) hW hS (lv_sub hl [0, 1, 2] rfl) h
      · replace h := o_pos hc2 h
        refine lv_bipush (pc := 21) (v := -6) hx hb dX9_plaits_21 (by decide) ?_
        exact g_ret (pc := 23) C hW hS rfl dX9_plaits_23 (congrArg (fun q => some (Value.int q)) (o_r h).1) (o_r h).2

theorem c_X9_pass {K : Nat}  (hK : 2 ≤ K) {σ : Mem} {σf : Mem} {v1 : Int32} {v2 : Int32} {r : Int32} (h : f_X9_pass σ v1 v2 = some (r, σf)) : MC l D (Er ac (z + 80)) inR (z + 80) ac (z, aK, aV) (Ar (z + 80)) yX9_pass cX9_pass 4 (some .int) K [.ref (z + 80 + 0), .int v1, .int v2] σ (some (.int r)) σf := by
  refine MC.of (fun q hq => by have := hq.1; show z ≤ q; omega) (plainFor_of_name (by decide)) (Nat.le_of_ble_eq_true rfl) ?_
  intro p e s m below meth c args C hW ls hl
  replace hl : lv_has ls 4 [(0, .ref (z + 80 + 0)), (1, .int v1), (2, .int v2)] := hl
  have hS : va_S (Ar (z + 80)) s.heap s.heap [] := va_S.rf
  have hx := C.1.1
  have hb := C.1.2.1
  unfold f_X9_pass at h
  refine lv_aload_n (pc := 0) hx hb dX9_pass_0 rfl (lv_at hl 0 rfl) ?_
  refine lv_iload_n (pc := 1) hx hb dX9_pass_1 rfl (lv_at hl 1 rfl) ?_
  refine g_virt (pc := 2) (st2 := [.int (f_X9_isVow σ v1)]) (rest := []) C hW hS (c_X9_isVow (K := K - 1) (by omega) rfl) mw_X9_188 inR0 Er_0 rfl (hRoom (by omega) (by decide)) rfl rfl rfl (Nat.le_of_ble_eq_true rfl) hl.1 dX9_pass_2 (fun H locs hW hS => ?_)
  refine lv_if_ne (pc := 5) (tgt := 11) hx hb dX9_pass_5 (by decide) (fun hc0 => ?_) (fun hc0 => ?_)
  · replace h := o_neg hc0 h
    refine lv_aload_n (pc := 11) hx hb dX9_pass_11 rfl (lv_at hl 0 rfl) ?_
    refine lv_iload_n (pc := 12) hx hb dX9_pass_12 rfl (lv_at hl 2 rfl) ?_
    refine g_virt (pc := 13) (st2 := [.int (f_X9_isMan σ v2)]) (rest := []) C hW hS (c_X9_isMan (K := K - 1) (by omega) rfl) mw_X9_176 inR0 Er_0 rfl (hRoom (by omega) (by decide)) rfl rfl rfl (Nat.le_of_ble_eq_true rfl) hl.1 dX9_pass_13 (fun H locs hW hS => ?_)
    refine lv_if_eq (pc := 16) (tgt := 32) hx hb dX9_pass_16 (by decide) (fun hc1 => ?_) (fun hc1 => ?_)
    · replace h := o_pos hc1 h
      refine lv_bipush (pc := 32) (v := -5) hx hb dX9_pass_32 (by decide) ?_
      exact g_ret (pc := 34) C hW hS rfl dX9_pass_34 (congrArg (fun q => some (Value.int q)) (o_r h).1) (o_r h).2
    · replace h := o_neg hc1 h
      refine lv_iload_n (pc := 19) hx hb dX9_pass_19 rfl (lv_at hl 2 rfl) ?_
      refine lv_aload_n (pc := 20) hx hb dX9_pass_20 rfl (lv_at hl 0 rfl) ?_
      refine gf_X9_5 (pc := 21) C hW fl_X9_19 dX9_pass_21 ?_
      refine lv_bipush (pc := 24) (v := 6) hx hb dX9_pass_24 (by decide) ?_
      refine lv_iload_n (pc := 26) hx hb dX9_pass_26 rfl (lv_at hl 1 rfl) ?_
      refine lv_imul (pc := 27) hx hb dX9_pass_27 ?_
      obtain ⟨hc2, h⟩ := o_chk h
      refine ir_ld (pc := 28) (k := 4) C hW (by decide) (by decide) rfl rfl (inb_in hc2) dX9_pass_28 ?_
      refine lv_icmp_ne (pc := 29) (tgt := 35) hx hb dX9_pass_29 (by decide) (fun hc3 => ?_) (fun hc3 => ?_)
      · replace h := o_neg hc3 h
        refine lv_aload_n (pc := 35) hx hb dX9_pass_35 rfl (lv_at hl 0 rfl) ?_
        refine lv_iload_n (pc := 36) hx hb dX9_pass_36 rfl (lv_at hl 1 rfl) ?_
        obtain ⟨r6, hc4, h⟩ := o_b h
        refine g_virt (pc := 37) (st2 := [.int r6]) (rest := []) C hW hS (c_X9_stands (K := K - 1) (by omega) hc4) mw_X9_164 inR0 Er_0 rfl (hRoom (by omega) (by decide)) rfl rfl rfl (Nat.le_of_ble_eq_true rfl) hl.1 dX9_pass_37 (fun H locs hW hS => ?_)
        refine lv_if_ne (pc := 40) (tgt := 46) hx hb dX9_pass_40 (by decide) (fun hc6 => ?_) (fun hc6 => ?_)
        · replace h := o_neg hc6 h
          refine lv_aload_n (pc := 46) hx hb dX9_pass_46 rfl (lv_at hl 0 rfl) ?_
          refine gf_X9_5 (pc := 47) C hW fl_X9_19 dX9_pass_47 ?_
          refine lv_bipush (pc := 50) (v := 6) hx hb dX9_pass_50 (by decide) ?_
          refine lv_iload_n (pc := 52) hx hb dX9_pass_52 rfl (lv_at hl 1 rfl) ?_
          refine lv_imul (pc := 53) hx hb dX9_pass_53 ?_
          refine lv_iconst (pc := 54) (v := 1) hx hb dX9_pass_54 (by decide) ?_
          refine lv_iadd (pc := 55) hx hb dX9_pass_55 ?_
          obtain ⟨hc7, h⟩ := o_chk h
          refine ir_ld (pc := 56) (k := 4) C hW (by decide) (by decide) rfl rfl (inb_in hc7) dX9_pass_56 ?_
          obtain ⟨x9, hxx9, h⟩ := o_d h
          refine g_top hxx9 ?_
          refine lv_istore_n (pc := 57) (lv' := [(3, .int x9), (0, .ref (z + 80 + 0)), (1, .int v1), (2, .int v2)]) hx hb dX9_pass_57 rfl hl (by decide) rfl (fun ls hl => ?_)
          refine lv_aload_n (pc := 58) hx hb dX9_pass_58 rfl (lv_at hl 1 rfl) ?_
          refine gf_X9_5 (pc := 59) C hW fl_X9_19 dX9_pass_59 ?_
          refine lv_bipush (pc := 62) (v := 6) hx hb dX9_pass_62 (by decide) ?_
          refine lv_iload_n (pc := 64) hx hb dX9_pass_64 rfl (lv_at hl 2 rfl) ?_
          refine lv_imul (pc := 65) hx hb dX9_pass_65 ?_
          refine lv_iconst (pc := 66) (v := 1) hx hb dX9_pass_66 (by decide) ?_
          refine lv_iadd (pc := 67) hx hb dX9_pass_67 ?_
          refine lv_iload_n (pc := 68) hx hb dX9_pass_68 rfl (lv_at hl 3 rfl) ?_
          obtain ⟨hc9, h⟩ := o_chk h
          refine ir_st (pc := 69) (k := 4) C hW hS (by decide) (by decide) rfl rfl (inb_in hc9) dX9_pass_69 (fun H locs hW hS => ?_)
          obtain ⟨σ11, hσ11, h⟩ := o_d h
          replace hW : WR D ac (z + 80) σ11 H := by rw [← hσ11]; exact hW
          refine lv_iload_n (pc := 70) hx hb dX9_pass_70 rfl (lv_at hl 0 rfl) ?_
          exact g_ret (pc := 71) C hW hS rfl dX9_pass_71 (congrArg (fun q => some (Value.int q)) (o_r h).1) (o_r h).2
        · replace h := o_pos hc6 h
          refine lv_bipush (pc := 43) (v := -3) hx hb dX9_pass_43 (by decide) ?_
          exact g_ret (pc := 45) C hW hS rfl dX9_pass_45 (congrArg (fun q => some (Value.int q)) (o_r h).1) (o_r h).2
      · replace h := o_pos hc3 h
        refine lv_bipush (pc := 32) (v := -5) hx hb dX9_pass_32 (by decide) ?_
        exact g_ret (pc := 34) C hW hS rfl dX9_pass_34 (congrArg (fun q => some (Value.int q)) (o_r h).1) (o_r h).2
  · replace h := o_pos hc0 h
    refine lv_bipush (pc := 8) (v := -6) hx hb dX9_pass_8 (by decide) ?_
    exact g_ret (pc := 10) C hW hS rfl dX9_pass_10 (congrArg (fun q => some (Value.int q)) (o_r h).1) (o_r h).2

theorem c_X9_begins {K : Nat}  (hK : 0 ≤ K) {σ : Mem} {σf : Mem} (h : f_X9_begins σ = σf) : MC l D (Er ac (z + 80)) inR (z + 80) ac (z, aK, aV) (Ar (z + 80)) yX9_begins cX9_begins 1 none K [.ref (z + 80 + 0)] σ none σf := by
  refine MC.of (fun q hq => by have := hq.1; show z ≤ q; omega) (plainFor_of_name (by decide)) (Nat.le_of_ble_eq_true rfl) ?_
  intro p e s m below meth c args C hW ls hl
  replace hl : lv_has ls 1 [(0, .ref (z + 80 + 0))] := hl
  have hS : va_S (Ar (z + 80)) s.heap s.heap [] := va_S.rf
  have hx := C.1.1
  have hb := C.1.2.1
  unfold f_X9_begins at h
  refine lv_aload_n (pc := 0) hx hb dX9_begins_0 rfl (lv_at hl 0 rfl) ?_
  refine lv_iconst (pc := 1) (v := 0) hx hb dX9_begins_1 (by decide) ?_
  refine pf_X9_34 (pc := 2) C hW hS fl_X9_194 dX9_begins_2 (fun H locs hW hS => ?_)
  refine lv_aload_n (pc := 5) hx hb dX9_begins_5 rfl (lv_at hl 0 rfl) ?_
  refine lv_iconst (pc := 6) (v := -1) hx hb dX9_begins_6 (by decide) ?_
  refine pf_X9_35 (pc := 7) C hW hS fl_X9_197 dX9_begins_7 (fun H locs hW hS => ?_)
  refine lv_aload_n (pc := 10) hx hb dX9_begins_10 rfl (lv_at hl 0 rfl) ?_
  refine lv_iconst (pc := 11) (v := -1) hx hb dX9_begins_11 (by decide) ?_
  refine pf_X9_36 (pc := 12) C hW hS fl_X9_200 dX9_begins_12 (fun H locs hW hS => ?_)
  obtain ⟨σ1, hσ1, h⟩ := o_d h
  replace hW : WR D ac (z + 80) σ1 H := by rw [← hσ1]; exact hW
  refine lv_aload_n (pc := 15) hx hb dX9_begins_15 rfl (lv_at hl 0 rfl) ?_
  refine lv_iconst (pc := 16) (v := 0) hx hb dX9_begins_16 (by decide) ?_
  refine pf_X9_37 (pc := 17) C hW hS fl_X9_203 dX9_begins_17 (fun H locs hW hS => ?_)
  refine lv_aload_n (pc := 20) hx hb dX9_begins_20 rfl (lv_at hl 0 rfl) ?_
  refine lv_iconst (pc := 21) (v := 0) hx hb dX9_begins_21 (by decide) ?_
  refine pf_X9_38 (pc := 22) C hW hS fl_X9_206 dX9_begins_22 (fun H locs hW hS => ?_)
  exact g_vret (pc := 25) C hW hS dX9_begins_25 rfl h.symm

theorem c_X9_grow {K : Nat}  (hK : 4 ≤ K) {σ : Mem} {σf : Mem} {v1 : Int32} (h : f_X9_grow σ v1 = some σf) : MC l D (Er ac (z + 80)) inR (z + 80) ac (z, aK, aV) (Ar (z + 80)) yX9_grow cX9_grow 2 none K [.ref (z + 80 + 0), .int v1] σ none σf := by
  refine MC.of (fun q hq => by have := hq.1; show z ≤ q; omega) (plainFor_of_name (by decide)) (Nat.le_of_ble_eq_true rfl) ?_
  intro p e s m below meth c args C hW ls hl
  replace hl : lv_has ls 2 [(0, .ref (z + 80 + 0)), (1, .int v1)] := hl
  have hS : va_S (Ar (z + 80)) s.heap s.heap [] := va_S.rf
  have hx := C.1.1
  have hb := C.1.2.1
  unfold f_X9_grow at h
  refine lv_aload_n (pc := 0) hx hb dX9_grow_0 rfl (lv_at hl 0 rfl) ?_
  refine gf_X9_3 (pc := 1) C hW fl_X9_16 dX9_grow_1 ?_
  refine lv_iconst (pc := 4) (v := 4) hx hb dX9_grow_4 (by decide) ?_
  refine lv_iload_n (pc := 5) hx hb dX9_grow_5 rfl (lv_at hl 1 rfl) ?_
  refine lv_imul (pc := 6) hx hb dX9_grow_6 ?_
  refine lv_iconst (pc := 7) (v := 3) hx hb dX9_grow_7 (by decide) ?_
  refine lv_iadd (pc := 8) hx hb dX9_grow_8 ?_
  obtain ⟨hc0, h⟩ := o_chk h
  refine ir_ld (pc := 9) (k := 3) C hW (by decide) (by decide) rfl rfl (inb_in hc0) dX9_grow_9 ?_
  refine lv_if_ne (pc := 10) (tgt := 46) hx hb dX9_grow_10 (by decide) (fun hc1 => ?_) (fun hc1 => ?_)
  · replace h := o_neg hc1 h
    exact g_vret (pc := 46) C hW hS dX9_grow_46 rfl (Option.some.inj h).symm
  · replace h := o_pos hc1 h
    refine lv_aload_n (pc := 13) hx hb dX9_grow_13 rfl (lv_at hl 0 rfl) ?_
    refine gf_X9_3 (pc := 14) C hW fl_X9_16 dX9_grow_14 ?_
    refine lv_iconst (pc := 17) (v := 4) hx hb dX9_grow_17 (by decide) ?_
    refine lv_iload_n (pc := 18) hx hb dX9_grow_18 rfl (lv_at hl 1 rfl) ?_
    refine lv_imul (pc := 19) hx hb dX9_grow_19 ?_
    refine lv_aload_n (pc := 20) hx hb dX9_grow_20 rfl (lv_at hl 0 rfl) ?_
    refine gf_X9_3 (pc := 21) C hW fl_X9_16 dX9_grow_21 ?_
    refine lv_iconst (pc := 24) (v := 4) hx hb dX9_grow_24 (by decide) ?_
    refine lv_iload_n (pc := 25) hx hb dX9_grow_25 rfl (lv_at hl 1 rfl) ?_
    refine lv_imul (pc := 26) hx hb dX9_grow_26 ?_
    obtain ⟨hc2, h⟩ := o_chk h
    refine ir_ld (pc := 27) (k := 3) C hW (by decide) (by decide) rfl rfl (inb_in hc2) dX9_grow_27 ?_
    refine lv_aload_n (pc := 28) hx hb dX9_grow_28 rfl (lv_at hl 0 rfl) ?_
    refine lv_iload_n (pc := 29) hx hb dX9_grow_29 rfl (lv_at hl 1 rfl) ?_
    refine lv_aload_n (pc := 30) hx hb dX9_grow_30 rfl (lv_at hl 0 rfl) ?_
    refine gf_X9_6 (pc := 31) C hW fl_X9_91 dX9_grow_31 ?_
    obtain ⟨r5, σ6, hc3, h⟩ := o_b2 h
    refine g_virt (pc := 34) (st2 := [.int r5, .int (σ 3 (((4 : Int32) * v1).toNatClampNeg)), .int ((4 : Int32) * v1), .ref (z + 80 + 3)]) (rest := [.int (σ 3 (((4 : Int32) * v1).toNatClampNeg)), .int ((4 : Int32) * v1), .ref (z + 80 + 3)]) C hW hS (c_X9_growsOf (K := K - 1) (by omega) hc3) mw_X9_209 inR0 Er_0 rfl (hRoom (by omega) (by decide)) rfl rfl rfl (Nat.le_of_ble_eq_true rfl) hl.1 dX9_grow_34 (fun H locs hW hS => ?_)
    refine lv_iadd (pc := 37) hx hb dX9_grow_37 ?_
    refine lv_iconst (pc := 38) (v := 0) hx hb dX9_grow_38 (by decide) ?_
    refine lv_sipush (pc := 39) (v := 999) hx hb dX9_grow_39 (by decide) ?_
    refine g_stat (pc := 42) (st2 := [.int (f_X9_within ((σ 3 (((4 : Int32) * v1).toNatClampNeg)) + r5) (0 : Int32) (999 : Int32)), .int ((4 : Int32) * v1), .ref (z + 80 + 3)]) (rest := [.int ((4 : Int32) * v1), .ref (z + 80 + 3)]) C hW hS (c_X9_within (K := K - 1) (by omega) rfl) mw_X9_173 (hRoom (by omega) (by decide)) rfl rfl rfl (Nat.le_of_ble_eq_true rfl) hl.1 dX9_grow_42 (fun H locs hW hS => ?_)
    obtain ⟨hc6, h⟩ := o_chk h
    refine ir_st (pc := 45) (k := 3) C hW hS (by decide) (by decide) rfl rfl (inb_in hc6) dX9_grow_45 (fun H locs hW hS => ?_)
    obtain ⟨σ8, hσ8, h⟩ := o_d h
    replace hW : WR D ac (z + 80) σ8 H := by rw [← hσ8]; exact hW
    exact g_vret (pc := 46) C hW hS dX9_grow_46 rfl (Option.some.inj h).symm

theorem w_X9_shears_b132 (C : CX cX9_shears 4 RX9 none D ac p m c s args meth (z, aK, aV) (Ar (z + 80))) (hK : 3 ≤ K) {σf : Mem}   (σ : Mem) (v1 : Int32) (v3 : Int32) (s91 : Mem → Int32 → Option Mem) (hs91 : ∀ (σ : Mem) (v3 : Int32) {H : Heap} {locs : List Loc} {ls : Array Slot} (_ : WR D ac (z + 80) σ H) (_ : va_S (Ar (z + 80)) s.heap H locs) (_ : lv_has ls 4 [(0, .ref (z + 80 + 0)), (1, .int v1), (3, .int v3)]) (_ : s91 σ v3 = some σf), W p l e (rma K 0 0) s m args below meth c H locs 0 0 (MQ below (QV D (Er ac (z + 80)) inR (z + 80) none σf (Ar (z + 80))) args s 0 0 (Ar (z + 80))) (F0 m 91 ls [])) {H : Heap} {locs : List Loc} {ls : Array Slot} (hW : WR D ac (z + 80) σ H) (hS : va_S (Ar (z + 80)) s.heap H locs) (hl : lv_has ls 4 [(0, .ref (z + 80 + 0)), (1, .int v1), (3, .int v3)]) (h : f_X9_shears_b132 s91 σ v1 v3 = some σf) : W p l e (rma K 0 0) s m args below meth c H locs 0 0 (MQ below (QV D (Er ac (z + 80)) inR (z + 80) none σf (Ar (z + 80))) args s 0 0 (Ar (z + 80))) (F0 m 132 ls []) := by
  have hx := C.1.1
  have hb := C.1.2.1
  unfold f_X9_shears_b132 at h
  refine lv_iinc (pc := 132) (v := (v3 + 1)) (lv' := [(3, .int (v3 + 1)), (0, .ref (z + 80 + 0)), (1, .int v1)]) hx hb dX9_shears_132 hl (k := 2) rfl rfl (by decide) rfl (fun ls hl => ?_)
  refine lv_goto (pc := 135) (tgt := 91) hx hb dX9_shears_135 (by decide) ?_
  exact hs91 σ (v3 + 1) hW hS (lv_sub hl [1, 2, 0] rfl) h

theorem w_X9_shears_b91 (C : CX cX9_shears 4 RX9 none D ac p m c s args meth (z, aK, aV) (Ar (z + 80))) (hK : 3 ≤ K) {σf : Mem}   (v1 : Int32)  : ∀ (n : Nat) (σ : Mem) (v3 : Int32) {H : Heap} {locs : List Loc} {ls : Array Slot} (hW : WR D ac (z + 80) σ H) (hS : va_S (Ar (z + 80)) s.heap H locs) (hl : lv_has ls 4 [(0, .ref (z + 80 + 0)), (1, .int v1), (3, .int v3)]) (h : f_X9_shears_b91 v1 n σ v3 = some σf), W p l e (rma K 0 0) s m args below meth c H locs 0 0 (MQ below (QV D (Er ac (z + 80)) inR (z + 80) none σf (Ar (z + 80))) args s 0 0 (Ar (z + 80))) (F0 m 91 ls []) := by
  have hx := C.1.1
  have hb := C.1.2.1
  intro n
  induction n with
  | zero =>
    intro σ v3 H locs ls  hW hS hl h
    cases h
  | succ n ih =>
    intro σ v3 H locs ls  hW hS hl h
    rw [f_X9_shears_b91.eq_2] at h
    refine lv_iload_n (pc := 91) hx hb dX9_shears_91 rfl (lv_at hl 2 rfl) ?_
    refine lv_aload_n (pc := 92) hx hb dX9_shears_92 rfl (lv_at hl 0 rfl) ?_
    refine gf_X9_4 (pc := 93) C hW fl_X9_88 dX9_shears_93 ?_
    refine lv_icmp_ge (pc := 96) (tgt := 138) hx hb dX9_shears_96 (by decide) (fun hc10 => ?_) (fun hc10 => ?_)
    · replace h := o_pos hc10 h
      exact g_vret (pc := 138) C hW hS dX9_shears_138 rfl (Option.some.inj h).symm
    · replace h := o_neg hc10 h
      refine lv_aload_n (pc := 99) hx hb dX9_shears_99 rfl (lv_at hl 0 rfl) ?_
      refine gf_X9_5 (pc := 100) C hW fl_X9_19 dX9_shears_100 ?_
      refine lv_bipush (pc := 103) (v := 6) hx hb dX9_shears_103 (by decide) ?_
      refine lv_iload_n (pc := 105) hx hb dX9_shears_105 rfl (lv_at hl 2 rfl) ?_
      refine lv_imul (pc := 106) hx hb dX9_shears_106 ?_
      obtain ⟨hc11, h⟩ := o_chk h
      refine ir_ld (pc := 107) (k := 4) C hW (by decide) (by decide) rfl rfl (inb_in hc11) dX9_shears_107 ?_
      refine lv_iload_n (pc := 108) hx hb dX9_shears_108 rfl (lv_at hl 1 rfl) ?_
      refine lv_icmp_ne (pc := 109) (tgt := 132) hx hb dX9_shears_109 (by decide) (fun hc12 => ?_) (fun hc12 => ?_)
      · replace h := o_neg hc12 h
        exact w_X9_shears_b132 C hK σ v1 v3 (f_X9_shears_b91 v1 n) (fun σ v3 {H : Heap} {locs : List Loc} {ls : Array Slot}  hW hS hl h => ih σ v3 hW hS hl h) hW hS (lv_sub hl [0, 1, 2] rfl) h
      · replace h := o_pos hc12 h
        refine lv_aload_n (pc := 112) hx hb dX9_shears_112 rfl (lv_at hl 0 rfl) ?_
        refine lv_iload_n (pc := 113) hx hb dX9_shears_113 rfl (lv_at hl 2 rfl) ?_
        obtain ⟨r15, hc13, h⟩ := o_b h
        refine g_virt (pc := 114) (st2 := [.int r15]) (rest := []) C hW hS (c_X9_stands (K := K - 1) (by omega) hc13) mw_X9_164 inR0 Er_0 rfl (hRoom (by omega) (by decide)) rfl rfl rfl (Nat.le_of_ble_eq_true rfl) hl.1 dX9_shears_114 (fun H locs hW hS => ?_)
        refine lv_if_eq (pc := 117) (tgt := 132) hx hb dX9_shears_117 (by decide) (fun hc15 => ?_) (fun hc15 => ?_)
        · replace h := o_pos hc15 h
          exact w_X9_shears_b132 C hK σ v1 v3 (f_X9_shears_b91 v1 n) (fun σ v3 {H : Heap} {locs : List Loc} {ls : Array Slot}  hW hS hl h => ih σ v3 hW hS hl h) hW hS (lv_sub hl [0, 1, 2] rfl) h
        · replace h := o_neg hc15 h
          refine lv_aload_n (pc := 120) hx hb dX9_shears_120 rfl (lv_at hl 0 rfl) ?_
          refine gf_X9_5 (pc := 121) C hW fl_X9_19 dX9_shears_121 ?_
          refine lv_bipush (pc := 124) (v := 6) hx hb dX9_shears_124 (by decide) ?_
          refine lv_iload_n (pc := 126) hx hb dX9_shears_126 rfl (lv_at hl 2 rfl) ?_
          refine lv_imul (pc := 127) hx hb dX9_shears_127 ?_
          refine lv_iconst (pc := 128) (v := 5) hx hb dX9_shears_128 (by decide) ?_
          refine lv_iadd (pc := 129) hx hb dX9_shears_129 ?_
          refine lv_iconst (pc := 130) (v := 2) hx hb dX9_shears_130 (by decide) ?_
          obtain ⟨hc16, h⟩ := o_chk h
          refine ir_st (pc := 131) (k := 4) C hW hS (by decide) (by decide) rfl rfl (inb_in hc16) dX9_shears_131 (fun H locs hW hS => ?_)
          obtain ⟨σ18, hσ18, h⟩ := o_d h
          replace hW : WR D ac (z + 80) σ18 H := by rw [← hσ18]; exact hW
          exact w_X9_shears_b132 C hK σ18 v1 v3 (f_X9_shears_b91 v1 n) (fun σ v3 {H : Heap} {locs : List Loc} {ls : Array Slot}  hW hS hl h => ih σ v3 hW hS hl h) hW hS (lv_sub hl [0, 1, 2] rfl) h

theorem w_X9_shears_b66 (C : CX cX9_shears 4 RX9 none D ac p m c s args meth (z, aK, aV) (Ar (z + 80))) (hK : 3 ≤ K) {σf : Mem}   (σ : Mem) (v1 : Int32) (k1 : Int32)  {H : Heap} {locs : List Loc} {ls : Array Slot} (hW : WR D ac (z + 80) σ H) (hS : va_S (Ar (z + 80)) s.heap H locs) (hl : lv_has ls 4 [(0, .ref (z + 80 + 0)), (1, .int v1)]) (h : f_X9_shears_b66 σ v1 k1 = some σf) : W p l e (rma K 0 0) s m args below meth c H locs 0 0 (MQ below (QV D (Er ac (z + 80)) inR (z + 80) none σf (Ar (z + 80))) args s 0 0 (Ar (z + 80))) (F0 m 66 ls [.int k1, .ref (z + 80 + 0)]) := by
  have hx := C.1.1
  have hb := C.1.2.1
  unfold f_X9_shears_b66 at h
  refine pf_X9_35 (pc := 66) C hW hS fl_X9_197 dX9_shears_66 (fun H locs hW hS => ?_)
  refine lv_aload_n (pc := 69) hx hb dX9_shears_69 rfl (lv_at hl 0 rfl) ?_
  refine gf_X9_3 (pc := 70) C hW fl_X9_16 dX9_shears_70 ?_
  refine lv_iconst (pc := 73) (v := 4) hx hb dX9_shears_73 (by decide) ?_
  refine lv_iload_n (pc := 74) hx hb dX9_shears_74 rfl (lv_at hl 1 rfl) ?_
  refine lv_imul (pc := 75) hx hb dX9_shears_75 ?_
  refine lv_iconst (pc := 76) (v := 0) hx hb dX9_shears_76 (by decide) ?_
  obtain ⟨hc6, h⟩ := o_chk h
  refine ir_st (pc := 77) (k := 3) C hW hS (by decide) (by decide) rfl rfl (inb_in hc6) dX9_shears_77 (fun H locs hW hS => ?_)
  obtain ⟨σ8, hσ8, h⟩ := o_d h
  replace hW : WR D ac (z + 80) σ8 H := by rw [← hσ8]; exact hW
  refine lv_aload_n (pc := 78) hx hb dX9_shears_78 rfl (lv_at hl 0 rfl) ?_
  refine gf_X9_3 (pc := 79) C hW fl_X9_16 dX9_shears_79 ?_
  refine lv_iconst (pc := 82) (v := 4) hx hb dX9_shears_82 (by decide) ?_
  refine lv_iload_n (pc := 83) hx hb dX9_shears_83 rfl (lv_at hl 1 rfl) ?_
  refine lv_imul (pc := 84) hx hb dX9_shears_84 ?_
  refine lv_iconst (pc := 85) (v := 3) hx hb dX9_shears_85 (by decide) ?_
  refine lv_iadd (pc := 86) hx hb dX9_shears_86 ?_
  refine lv_iconst (pc := 87) (v := 1) hx hb dX9_shears_87 (by decide) ?_
  obtain ⟨hc8, h⟩ := o_chk h
  refine ir_st (pc := 88) (k := 3) C hW hS (by decide) (by decide) rfl rfl (inb_in hc8) dX9_shears_88 (fun H locs hW hS => ?_)
  obtain ⟨σ10, hσ10, h⟩ := o_d h
  replace hW : WR D ac (z + 80) σ10 H := by rw [← hσ10]; exact hW
  refine lv_iconst (pc := 89) (v := 0) hx hb dX9_shears_89 (by decide) ?_
  refine lv_istore_n (pc := 90) (lv' := [(3, .int (0 : Int32)), (0, .ref (z + 80 + 0)), (1, .int v1)]) hx hb dX9_shears_90 rfl hl (by decide) rfl (fun ls hl => ?_)
  exact w_X9_shears_b91 C hK v1 FU σ10 (0 : Int32) hW hS (lv_sub hl [1, 2, 0] rfl) h

theorem w_X9_shears_b46 (C : CX cX9_shears 4 RX9 none D ac p m c s args meth (z, aK, aV) (Ar (z + 80))) (hK : 3 ≤ K) {σf : Mem}   (σ : Mem) (v1 : Int32) (k1 : Int32)  {H : Heap} {locs : List Loc} {ls : Array Slot} (hW : WR D ac (z + 80) σ H) (hS : va_S (Ar (z + 80)) s.heap H locs) (hl : lv_has ls 4 [(0, .ref (z + 80 + 0)), (1, .int v1)]) (h : f_X9_shears_b46 σ v1 k1 = some σf) : W p l e (rma K 0 0) s m args below meth c H locs 0 0 (MQ below (QV D (Er ac (z + 80)) inR (z + 80) none σf (Ar (z + 80))) args s 0 0 (Ar (z + 80))) (F0 m 46 ls [.int k1, .ref (z + 80 + 0)]) := by
  have hx := C.1.1
  have hb := C.1.2.1
  unfold f_X9_shears_b46 at h
  refine pf_X9_36 (pc := 46) C hW hS fl_X9_200 dX9_shears_46 (fun H locs hW hS => ?_)
  refine lv_aload_n (pc := 49) hx hb dX9_shears_49 rfl (lv_at hl 0 rfl) ?_
  refine lv_aload_n (pc := 50) hx hb dX9_shears_50 rfl (lv_at hl 0 rfl) ?_
  refine gf_X9_35 (pc := 51) C hW fl_X9_197 dX9_shears_51 ?_
  refine lv_iconst (pc := 54) (v := -1) hx hb dX9_shears_54 (by decide) ?_
  refine lv_icmp_ne (pc := 55) (tgt := 62) hx hb dX9_shears_55 (by decide) (fun hc5 => ?_) (fun hc5 => ?_)
  · replace h := o_neg hc5 h
    refine lv_aload_n (pc := 62) hx hb dX9_shears_62 rfl (lv_at hl 0 rfl) ?_
    refine gf_X9_35 (pc := 63) C hW fl_X9_197 dX9_shears_63 ?_
    exact w_X9_shears_b66 C hK (ms σ 0 36 k1) v1 ((ms σ 0 36 k1) 0 35) hW hS (lv_sub hl [0, 1] rfl) h
  · replace h := o_pos hc5 h
    refine lv_iload_n (pc := 58) hx hb dX9_shears_58 rfl (lv_at hl 1 rfl) ?_
    refine lv_goto (pc := 59) (tgt := 66) hx hb dX9_shears_59 (by decide) ?_
    exact w_X9_shears_b66 C hK (ms σ 0 36 k1) v1 v1 hW hS (lv_sub hl [0, 1] rfl) h

theorem c_X9_shears {K : Nat}  (hK : 3 ≤ K) {σ : Mem} {σf : Mem} {v1 : Int32} {v2 : Int32} (h : f_X9_shears σ v1 v2 = some σf) : MC l D (Er ac (z + 80)) inR (z + 80) ac (z, aK, aV) (Ar (z + 80)) yX9_shears cX9_shears 4 none K [.ref (z + 80 + 0), .int v1, .int v2] σ none σf := by
  refine MC.of (fun q hq => by have := hq.1; show z ≤ q; omega) (plainFor_of_name (by decide)) (Nat.le_of_ble_eq_true rfl) ?_
  intro p e s m below meth c args C hW ls hl
  replace hl : lv_has ls 4 [(0, .ref (z + 80 + 0)), (1, .int v1), (2, .int v2)] := hl
  have hS : va_S (Ar (z + 80)) s.heap s.heap [] := va_S.rf
  have hx := C.1.1
  have hb := C.1.2.1
  unfold f_X9_shears at h
  refine lv_aload_n (pc := 0) hx hb dX9_shears_0 rfl (lv_at hl 0 rfl) ?_
  refine lv_dup (pc := 1) hx hb dX9_shears_1 rfl ?_
  refine gf_X9_38 (pc := 2) C hW fl_X9_206 dX9_shears_2 ?_
  refine lv_aload_n (pc := 5) hx hb dX9_shears_5 rfl (lv_at hl 0 rfl) ?_
  refine lv_iconst (pc := 6) (v := 2) hx hb dX9_shears_6 (by decide) ?_
  refine lv_iload_n (pc := 7) hx hb dX9_shears_7 rfl (lv_at hl 1 rfl) ?_
  refine lv_aload_n (pc := 8) hx hb dX9_shears_8 rfl (lv_at hl 0 rfl) ?_
  refine gf_X9_6 (pc := 9) C hW fl_X9_91 dX9_shears_9 ?_
  obtain ⟨r2, σ3, hc0, h⟩ := o_b2 h
  refine g_virt (pc := 12) (st2 := [.int r2, .int (σ 0 38), .ref (z + 80 + 0)]) (rest := [.int (σ 0 38), .ref (z + 80 + 0)]) C hW hS (c_X9_asksOf (K := K - 1) (by omega) hc0) mw_X9_179 inR0 Er_0 rfl (hRoom (by omega) (by decide)) rfl rfl rfl (Nat.le_of_ble_eq_true rfl) hl.1 dX9_shears_12 (fun H locs hW hS => ?_)
  refine lv_iadd (pc := 15) hx hb dX9_shears_15 ?_
  refine pf_X9_38 (pc := 16) C hW hS fl_X9_206 dX9_shears_16 (fun H locs hW hS => ?_)
  refine lv_aload_n (pc := 19) hx hb dX9_shears_19 rfl (lv_at hl 0 rfl) ?_
  refine lv_dup (pc := 20) hx hb dX9_shears_20 rfl ?_
  refine gf_X9_34 (pc := 21) C hW fl_X9_194 dX9_shears_21 ?_
  refine lv_iconst (pc := 24) (v := 1) hx hb dX9_shears_24 (by decide) ?_
  refine lv_iadd (pc := 25) hx hb dX9_shears_25 ?_
  refine pf_X9_34 (pc := 26) C hW hS fl_X9_194 dX9_shears_26 (fun H locs hW hS => ?_)
  obtain ⟨σ4, hσ4, h⟩ := o_d h
  replace hW : WR D ac (z + 80) σ4 H := by rw [← hσ4]; exact hW
  refine lv_aload_n (pc := 29) hx hb dX9_shears_29 rfl (lv_at hl 0 rfl) ?_
  refine lv_aload_n (pc := 30) hx hb dX9_shears_30 rfl (lv_at hl 0 rfl) ?_
  refine gf_X9_35 (pc := 31) C hW fl_X9_197 dX9_shears_31 ?_
  refine lv_iconst (pc := 34) (v := -1) hx hb dX9_shears_34 (by decide) ?_
  refine lv_icmp_ne (pc := 35) (tgt := 42) hx hb dX9_shears_35 (by decide) (fun hc4 => ?_) (fun hc4 => ?_)
  · replace h := o_neg hc4 h
    refine lv_aload_n (pc := 42) hx hb dX9_shears_42 rfl (lv_at hl 0 rfl) ?_
    refine gf_X9_36 (pc := 43) C hW fl_X9_200 dX9_shears_43 ?_
    exact w_X9_shears_b46 C hK σ4 v1 (σ4 0 36) hW hS (lv_sub hl [0, 1] rfl) h
  · replace h := o_pos hc4 h
    refine lv_iload_n (pc := 38) hx hb dX9_shears_38 rfl (lv_at hl 2 rfl) ?_
    refine lv_goto (pc := 39) (tgt := 46) hx hb dX9_shears_39 (by decide) ?_
    exact w_X9_shears_b46 C hK σ4 v1 v2 hW hS (lv_sub hl [0, 1] rfl) h

theorem w_X9_isDue_b83 (C : CX cX9_isDue 6 RX9 none D ac p m c s args meth (z, aK, aV) (Ar (z + 80))) (hK : 4 ≤ K) {σf : Mem}   (σ : Mem) (v1 : Int32) (v4 : Int32) (k1 : Int32) (k2 : Int32)  {H : Heap} {locs : List Loc} {ls : Array Slot} (hW : WR D ac (z + 80) σ H) (hS : va_S (Ar (z + 80)) s.heap H locs) (hl : lv_has ls 6 [(0, .ref (z + 80 + 0)), (1, .int v1), (4, .int v4)]) (h : f_X9_isDue_b83 σ v1 v4 k1 k2 = some σf) : W p l e (rma K 0 0) s m args below meth c H locs 0 0 (MQ below (QV D (Er ac (z + 80)) inR (z + 80) none σf (Ar (z + 80))) args s 0 0 (Ar (z + 80))) (F0 m 83 ls [.int k2, .int k1, .ref (z + 80 + 3)]) := by
  have hx := C.1.1
  have hb := C.1.2.1
  unfold f_X9_isDue_b83 at h
  obtain ⟨hc20, h⟩ := o_chk h
  refine ir_st (pc := 83) (k := 3) C hW hS (by decide) (by decide) rfl rfl (inb_in hc20) dX9_isDue_83 (fun H locs hW hS => ?_)
  refine lv_aload_n (pc := 84) hx hb dX9_isDue_84 rfl (lv_at hl 0 rfl) ?_
  refine gf_X9_5 (pc := 85) C hW fl_X9_19 dX9_isDue_85 ?_
  refine lv_bipush (pc := 88) (v := 6) hx hb dX9_isDue_88 (by decide) ?_
  refine lv_iload_n (pc := 90) hx hb dX9_isDue_90 rfl (lv_at hl 1 rfl) ?_
  refine lv_imul (pc := 91) hx hb dX9_isDue_91 ?_
  refine lv_iconst (pc := 92) (v := 5) hx hb dX9_isDue_92 (by decide) ?_
  refine lv_iadd (pc := 93) hx hb dX9_isDue_93 ?_
  refine lv_iconst (pc := 94) (v := 1) hx hb dX9_isDue_94 (by decide) ?_
  obtain ⟨hc21, h⟩ := o_chk h
  refine ir_st (pc := 95) (k := 4) C hW hS (by decide) (by decide) rfl rfl (inb_in hc21) dX9_isDue_95 (fun H locs hW hS => ?_)
  obtain ⟨σ23, hσ23, h⟩ := o_d h
  replace hW : WR D ac (z + 80) σ23 H := by rw [← hσ23]; exact hW
  refine lv_aload_n (pc := 96) hx hb dX9_isDue_96 rfl (lv_at hl 0 rfl) ?_
  refine lv_dup (pc := 97) hx hb dX9_isDue_97 rfl ?_
  refine gf_X9_37 (pc := 98) C hW fl_X9_203 dX9_isDue_98 ?_
  refine lv_iload (pc := 101) hx hb dX9_isDue_101 (lv_at hl 2 rfl) ?_
  refine lv_iadd (pc := 103) hx hb dX9_isDue_103 ?_
  refine pf_X9_37 (pc := 104) C hW hS fl_X9_203 dX9_isDue_104 (fun H locs hW hS => ?_)
  refine lv_goto (pc := 107) (tgt := 134) hx hb dX9_isDue_107 (by decide) ?_
  exact g_vret (pc := 134) C hW hS dX9_isDue_134 rfl (Option.some.inj h).symm

theorem c_X9_isDue {K : Nat}  (hK : 4 ≤ K) {σ : Mem} {σf : Mem} {v1 : Int32} {v2 : Int32} (h : f_X9_isDue σ v1 v2 = some σf) : MC l D (Er ac (z + 80)) inR (z + 80) ac (z, aK, aV) (Ar (z + 80)) yX9_isDue cX9_isDue 6 none K [.ref (z + 80 + 0), .int v1, .int v2] σ none σf := by
  refine MC.of (fun q hq => by have := hq.1; show z ≤ q; omega) (plainFor_of_name (by decide)) (Nat.le_of_ble_eq_true rfl) ?_
  intro p e s m below meth c args C hW ls hl
  replace hl : lv_has ls 6 [(0, .ref (z + 80 + 0)), (1, .int v1), (2, .int v2)] := hl
  have hS : va_S (Ar (z + 80)) s.heap s.heap [] := va_S.rf
  have hx := C.1.1
  have hb := C.1.2.1
  unfold f_X9_isDue at h
  refine lv_aload_n (pc := 0) hx hb dX9_isDue_0 rfl (lv_at hl 0 rfl) ?_
  refine gf_X9_5 (pc := 1) C hW fl_X9_19 dX9_isDue_1 ?_
  refine lv_bipush (pc := 4) (v := 6) hx hb dX9_isDue_4 (by decide) ?_
  refine lv_iload_n (pc := 6) hx hb dX9_isDue_6 rfl (lv_at hl 1 rfl) ?_
  refine lv_imul (pc := 7) hx hb dX9_isDue_7 ?_
  obtain ⟨hc0, h⟩ := o_chk h
  refine ir_ld (pc := 8) (k := 4) C hW (by decide) (by decide) rfl rfl (inb_in hc0) dX9_isDue_8 ?_
  refine lv_istore_n (pc := 9) (lv' := [(3, .int (σ 4 (((6 : Int32) * v1).toNatClampNeg))), (0, .ref (z + 80 + 0)), (1, .int v1), (2, .int v2)]) hx hb dX9_isDue_9 rfl hl (by decide) rfl (fun ls hl => ?_)
  refine lv_aload_n (pc := 10) hx hb dX9_isDue_10 rfl (lv_at hl 1 rfl) ?_
  refine gf_X9_5 (pc := 11) C hW fl_X9_19 dX9_isDue_11 ?_
  refine lv_bipush (pc := 14) (v := 6) hx hb dX9_isDue_14 (by decide) ?_
  refine lv_iload_n (pc := 16) hx hb dX9_isDue_16 rfl (lv_at hl 2 rfl) ?_
  refine lv_imul (pc := 17) hx hb dX9_isDue_17 ?_
  refine lv_iconst (pc := 18) (v := 2) hx hb dX9_isDue_18 (by decide) ?_
  refine lv_iadd (pc := 19) hx hb dX9_isDue_19 ?_
  obtain ⟨hc1, h⟩ := o_chk h
  refine ir_ld (pc := 20) (k := 4) C hW (by decide) (by decide) rfl rfl (inb_in hc1) dX9_isDue_20 ?_
  obtain ⟨x3, hxx3, h⟩ := o_d h
  refine g_top hxx3 ?_
  refine lv_istore (pc := 21) (lv' := [(4, .int x3), (3, .int (σ 4 (((6 : Int32) * v1).toNatClampNeg))), (0, .ref (z + 80 + 0)), (1, .int v1), (2, .int v2)]) hx hb dX9_isDue_21 hl (by decide) rfl (fun ls hl => ?_)
  refine lv_aload_n (pc := 23) hx hb dX9_isDue_23 rfl (lv_at hl 2 rfl) ?_
  refine lv_iload_n (pc := 24) hx hb dX9_isDue_24 rfl (lv_at hl 1 rfl) ?_
  refine lv_aload_n (pc := 25) hx hb dX9_isDue_25 rfl (lv_at hl 2 rfl) ?_
  refine gf_X9_3 (pc := 26) C hW fl_X9_16 dX9_isDue_26 ?_
  refine lv_iconst (pc := 29) (v := 4) hx hb dX9_isDue_29 (by decide) ?_
  refine lv_iload_n (pc := 30) hx hb dX9_isDue_30 rfl (lv_at hl 1 rfl) ?_
  refine lv_imul (pc := 31) hx hb dX9_isDue_31 ?_
  obtain ⟨hc3, h⟩ := o_chk h
  refine ir_ld (pc := 32) (k := 3) C hW (by decide) (by decide) rfl rfl (inb_in hc3) dX9_isDue_32 ?_
  obtain ⟨r6, hc4, h⟩ := o_b h
  refine g_virt (pc := 33) (st2 := [.int r6]) (rest := []) C hW hS (c_X9_countsOf (K := K - 1) (by omega) hc4) mw_X9_182 inR0 Er_0 rfl (hRoom (by omega) (by decide)) rfl rfl rfl (Nat.le_of_ble_eq_true rfl) hl.1 dX9_isDue_33 (fun H locs hW hS => ?_)
  refine lv_iload (pc := 36) hx hb dX9_isDue_36 (lv_at hl 0 rfl) ?_
  refine lv_icmp_lt (pc := 38) (tgt := 110) hx hb dX9_isDue_38 (by decide) (fun hc6 => ?_) (fun hc6 => ?_)
  · replace h := o_pos hc6 h
    refine lv_aload_n (pc := 110) hx hb dX9_isDue_110 rfl (lv_at hl 2 rfl) ?_
    refine gf_X9_6 (pc := 111) C hW fl_X9_91 dX9_isDue_111 ?_
    refine lv_aload_n (pc := 114) hx hb dX9_isDue_114 rfl (lv_at hl 2 rfl) ?_
    refine lv_iload_n (pc := 115) hx hb dX9_isDue_115 rfl (lv_at hl 3 rfl) ?_
    obtain ⟨r9, hc7, h⟩ := o_b h
    refine g_virt (pc := 116) (st2 := [.int r9, .int (σ 0 6)]) (rest := [.int (σ 0 6)]) C hW hS (c_X9_maturesOf (K := K - 1) (by omega) hc7) mw_X9_191 inR0 Er_0 rfl (hRoom (by omega) (by decide)) rfl rfl rfl (Nat.le_of_ble_eq_true rfl) hl.1 dX9_isDue_116 (fun H locs hW hS => ?_)
    refine lv_aload_n (pc := 119) hx hb dX9_isDue_119 rfl (lv_at hl 2 rfl) ?_
    refine lv_iload_n (pc := 120) hx hb dX9_isDue_120 rfl (lv_at hl 1 rfl) ?_
    obtain ⟨r11, hc9, h⟩ := o_b h
    refine g_virt (pc := 121) (st2 := [.int r11, .int r9, .int (σ 0 6)]) (rest := [.int r9, .int (σ 0 6)]) C hW hS (c_X9_graceOf (K := K - 1) (by omega) hc9) mw_X9_185 inR0 Er_0 rfl (hRoom (by omega) (by decide)) rfl rfl rfl (Nat.le_of_ble_eq_true rfl) hl.1 dX9_isDue_121 (fun H locs hW hS => ?_)
    refine lv_iadd (pc := 124) hx hb dX9_isDue_124 ?_
    refine lv_icmp_lt (pc := 125) (tgt := 134) hx hb dX9_isDue_125 (by decide) (fun hc11 => ?_) (fun hc11 => ?_)
    · replace h := o_pos hc11 h
      exact g_vret (pc := 134) C hW hS dX9_isDue_134 rfl (Option.some.inj h).symm
    · replace h := o_neg hc11 h
      refine lv_aload_n (pc := 128) hx hb dX9_isDue_128 rfl (lv_at hl 2 rfl) ?_
      refine lv_iload_n (pc := 129) hx hb dX9_isDue_129 rfl (lv_at hl 1 rfl) ?_
      refine lv_iload_n (pc := 130) hx hb dX9_isDue_130 rfl (lv_at hl 4 rfl) ?_
      obtain ⟨σ14, hc12, h⟩ := o_b h
      refine g_virt (pc := 131) (st2 := []) (rest := []) C hW hS (c_X9_shears (K := K - 1) (by omega) hc12) mw_X9_212 inR0 Er_0 rfl (hRoom (by omega) (by decide)) rfl rfl rfl (Nat.le_of_ble_eq_true rfl) hl.1 dX9_isDue_131 (fun H locs hW hS => ?_)
      exact g_vret (pc := 134) C hW hS dX9_isDue_134 rfl (Option.some.inj h).symm
  · replace h := o_neg hc6 h
    refine lv_aload_n (pc := 41) hx hb dX9_isDue_41 rfl (lv_at hl 2 rfl) ?_
    refine gf_X9_3 (pc := 42) C hW fl_X9_16 dX9_isDue_42 ?_
    refine lv_iconst (pc := 45) (v := 4) hx hb dX9_isDue_45 (by decide) ?_
    refine lv_iload_n (pc := 46) hx hb dX9_isDue_46 rfl (lv_at hl 1 rfl) ?_
    refine lv_imul (pc := 47) hx hb dX9_isDue_47 ?_
    obtain ⟨hc14, h⟩ := o_chk h
    refine ir_ld (pc := 48) (k := 3) C hW (by decide) (by decide) rfl rfl (inb_in hc14) dX9_isDue_48 ?_
    refine lv_iload (pc := 49) hx hb dX9_isDue_49 (lv_at hl 0 rfl) ?_
    refine lv_isub (pc := 51) hx hb dX9_isDue_51 ?_
    refine lv_aload_n (pc := 52) hx hb dX9_isDue_52 rfl (lv_at hl 2 rfl) ?_
    refine lv_iconst (pc := 53) (v := 1) hx hb dX9_isDue_53 (by decide) ?_
    refine lv_iload_n (pc := 54) hx hb dX9_isDue_54 rfl (lv_at hl 1 rfl) ?_
    refine lv_aload_n (pc := 55) hx hb dX9_isDue_55 rfl (lv_at hl 2 rfl) ?_
    refine gf_X9_6 (pc := 56) C hW fl_X9_91 dX9_isDue_56 ?_
    obtain ⟨r17, σ18, hc15, h⟩ := o_b2 h
    refine g_virt (pc := 59) (st2 := [.int r17, .int ((σ 3 (((4 : Int32) * (σ 4 (((6 : Int32) * v1).toNatClampNeg))).toNatClampNeg)) - x3)]) (rest := [.int ((σ 3 (((4 : Int32) * (σ 4 (((6 : Int32) * v1).toNatClampNeg))).toNatClampNeg)) - x3)]) C hW hS (c_X9_asksOf (K := K - 1) (by omega) hc15) mw_X9_179 inR0 Er_0 rfl (hRoom (by omega) (by decide)) rfl rfl rfl (Nat.le_of_ble_eq_true rfl) hl.1 dX9_isDue_59 (fun H locs hW hS => ?_)
    refine lv_isub (pc := 62) hx hb dX9_isDue_62 ?_
    obtain ⟨x19, hxx19, h⟩ := o_d h
    refine g_top hxx19 ?_
    refine lv_istore (pc := 63) (lv' := [(5, .int x19), (4, .int x3), (3, .int (σ 4 (((6 : Int32) * v1).toNatClampNeg))), (0, .ref (z + 80 + 0)), (1, .int v1), (2, .int v2)]) hx hb dX9_isDue_63 hl (by decide) rfl (fun ls hl => ?_)
    refine lv_aload_n (pc := 65) hx hb dX9_isDue_65 rfl (lv_at hl 3 rfl) ?_
    refine gf_X9_3 (pc := 66) C hW fl_X9_16 dX9_isDue_66 ?_
    refine lv_iconst (pc := 69) (v := 4) hx hb dX9_isDue_69 (by decide) ?_
    refine lv_iload_n (pc := 70) hx hb dX9_isDue_70 rfl (lv_at hl 2 rfl) ?_
    refine lv_imul (pc := 71) hx hb dX9_isDue_71 ?_
    refine lv_iload (pc := 72) hx hb dX9_isDue_72 (lv_at hl 0 rfl) ?_
    refine lv_if_ge (pc := 74) (tgt := 81) hx hb dX9_isDue_74 (by decide) (fun hc19 => ?_) (fun hc19 => ?_)
    · replace h := o_pos hc19 h
      refine lv_iload (pc := 81) hx hb dX9_isDue_81 (lv_at hl 0 rfl) ?_
      exact w_X9_isDue_b83 C hK σ18 v1 x3 ((4 : Int32) * (σ 4 (((6 : Int32) * v1).toNatClampNeg))) x19 hW hS (lv_sub hl [3, 4, 1] rfl) h
    · replace h := o_neg hc19 h
      refine lv_iconst (pc := 77) (v := 0) hx hb dX9_isDue_77 (by decide) ?_
      refine lv_goto (pc := 78) (tgt := 83) hx hb dX9_isDue_78 (by decide) ?_
      exact w_X9_isDue_b83 C hK σ18 v1 x3 ((4 : Int32) * (σ 4 (((6 : Int32) * v1).toNatClampNeg))) (0 : Int32) hW hS (lv_sub hl [3, 4, 1] rfl) h

theorem w_X9_weekOf_b57 (C : CX cX9_weekOf 3 RX9 none D ac p m c s args meth (z, aK, aV) (Ar (z + 80))) (hK : 5 ≤ K) {σf : Mem}   (σ : Mem) (v1 : Int32) (v2 : Int32) (s23 : Mem → Int32 → Option Mem) (hs23 : ∀ (σ : Mem) (v2 : Int32) {H : Heap} {locs : List Loc} {ls : Array Slot} (_ : WR D ac (z + 80) σ H) (_ : va_S (Ar (z + 80)) s.heap H locs) (_ : lv_has ls 3 [(0, .ref (z + 80 + 0)), (1, .int v1), (2, .int v2)]) (_ : s23 σ v2 = some σf), W p l e (rma K 0 0) s m args below meth c H locs 0 0 (MQ below (QV D (Er ac (z + 80)) inR (z + 80) none σf (Ar (z + 80))) args s 0 0 (Ar (z + 80))) (F0 m 23 ls [])) {H : Heap} {locs : List Loc} {ls : Array Slot} (hW : WR D ac (z + 80) σ H) (hS : va_S (Ar (z + 80)) s.heap H locs) (hl : lv_has ls 3 [(0, .ref (z + 80 + 0)), (1, .int v1), (2, .int v2)]) (h : f_X9_weekOf_b57 s23 σ v1 v2 = some σf) : W p l e (rma K 0 0) s m args below meth c H locs 0 0 (MQ below (QV D (Er ac (z + 80)) inR (z + 80) none σf (Ar (z + 80))) args s 0 0 (Ar (z + 80))) (F0 m 57 ls []) := by
  have hx := C.1.1
  have hb := C.1.2.1
  unfold f_X9_weekOf_b57 at h
  refine lv_iinc (pc := 57) (v := (v2 + 1)) (lv' := [(2, .int (v2 + 1)), (0, .ref (z + 80 + 0)), (1, .int v1)]) hx hb dX9_weekOf_57 hl (k := 2) rfl rfl (by decide) rfl (fun ls hl => ?_)
  refine lv_goto (pc := 60) (tgt := 23) hx hb dX9_weekOf_60 (by decide) ?_
  exact hs23 σ (v2 + 1) hW hS (lv_sub hl [1, 2, 0] rfl) h

theorem w_X9_weekOf_b23 (C : CX cX9_weekOf 3 RX9 none D ac p m c s args meth (z, aK, aV) (Ar (z + 80))) (hK : 5 ≤ K) {σf : Mem}   (v1 : Int32)  : ∀ (n : Nat) (σ : Mem) (v2 : Int32) {H : Heap} {locs : List Loc} {ls : Array Slot} (hW : WR D ac (z + 80) σ H) (hS : va_S (Ar (z + 80)) s.heap H locs) (hl : lv_has ls 3 [(0, .ref (z + 80 + 0)), (1, .int v1), (2, .int v2)]) (h : f_X9_weekOf_b23 v1 n σ v2 = some σf), W p l e (rma K 0 0) s m args below meth c H locs 0 0 (MQ below (QV D (Er ac (z + 80)) inR (z + 80) none σf (Ar (z + 80))) args s 0 0 (Ar (z + 80))) (F0 m 23 ls []) := by
  have hx := C.1.1
  have hb := C.1.2.1
  intro n
  induction n with
  | zero =>
    intro σ v2 H locs ls  hW hS hl h
    cases h
  | succ n ih =>
    intro σ v2 H locs ls  hW hS hl h
    rw [f_X9_weekOf_b23.eq_2] at h
    refine lv_iload_n (pc := 23) hx hb dX9_weekOf_23 rfl (lv_at hl 2 rfl) ?_
    refine lv_aload_n (pc := 24) hx hb dX9_weekOf_24 rfl (lv_at hl 0 rfl) ?_
    refine gf_X9_4 (pc := 25) C hW fl_X9_88 dX9_weekOf_25 ?_
    refine lv_icmp_ge (pc := 28) (tgt := 63) hx hb dX9_weekOf_28 (by decide) (fun hc3 => ?_) (fun hc3 => ?_)
    · replace h := o_pos hc3 h
      refine lv_aload_n (pc := 63) hx hb dX9_weekOf_63 rfl (lv_at hl 0 rfl) ?_
      refine lv_dup (pc := 64) hx hb dX9_weekOf_64 rfl ?_
      refine gf_X9_6 (pc := 65) C hW fl_X9_91 dX9_weekOf_65 ?_
      refine lv_iconst (pc := 68) (v := 1) hx hb dX9_weekOf_68 (by decide) ?_
      refine lv_iadd (pc := 69) hx hb dX9_weekOf_69 ?_
      refine pf_X9_6 (pc := 70) C hW hS fl_X9_91 dX9_weekOf_70 (fun H locs hW hS => ?_)
      exact g_vret (pc := 73) C hW hS dX9_weekOf_73 rfl (Option.some.inj h).symm
    · replace h := o_neg hc3 h
      refine lv_aload_n (pc := 31) hx hb dX9_weekOf_31 rfl (lv_at hl 0 rfl) ?_
      refine lv_iload_n (pc := 32) hx hb dX9_weekOf_32 rfl (lv_at hl 2 rfl) ?_
      obtain ⟨r6, hc4, h⟩ := o_b h
      refine g_virt (pc := 33) (st2 := [.int r6]) (rest := []) C hW hS (c_X9_stands (K := K - 1) (by omega) hc4) mw_X9_164 inR0 Er_0 rfl (hRoom (by omega) (by decide)) rfl rfl rfl (Nat.le_of_ble_eq_true rfl) hl.1 dX9_weekOf_33 (fun H locs hW hS => ?_)
      refine lv_if_eq (pc := 36) (tgt := 57) hx hb dX9_weekOf_36 (by decide) (fun hc6 => ?_) (fun hc6 => ?_)
      · replace h := o_pos hc6 h
        exact w_X9_weekOf_b57 C hK σ v1 v2 (f_X9_weekOf_b23 v1 n) (fun σ v2 {H : Heap} {locs : List Loc} {ls : Array Slot}  hW hS hl h => ih σ v2 hW hS hl h) hW hS (lv_sub hl [0, 1, 2] rfl) h
      · replace h := o_neg hc6 h
        refine lv_aload_n (pc := 39) hx hb dX9_weekOf_39 rfl (lv_at hl 0 rfl) ?_
        refine lv_iload_n (pc := 40) hx hb dX9_weekOf_40 rfl (lv_at hl 2 rfl) ?_
        obtain ⟨r9, hc7, h⟩ := o_b h
        refine g_virt (pc := 41) (st2 := [.int r9]) (rest := []) C hW hS (c_X9_maturesOf (K := K - 1) (by omega) hc7) mw_X9_191 inR0 Er_0 rfl (hRoom (by omega) (by decide)) rfl rfl rfl (Nat.le_of_ble_eq_true rfl) hl.1 dX9_weekOf_41 (fun H locs hW hS => ?_)
        refine lv_aload_n (pc := 44) hx hb dX9_weekOf_44 rfl (lv_at hl 0 rfl) ?_
        refine gf_X9_6 (pc := 45) C hW fl_X9_91 dX9_weekOf_45 ?_
        refine lv_icmp_gt (pc := 48) (tgt := 57) hx hb dX9_weekOf_48 (by decide) (fun hc9 => ?_) (fun hc9 => ?_)
        · replace h := o_pos hc9 h
          exact w_X9_weekOf_b57 C hK σ v1 v2 (f_X9_weekOf_b23 v1 n) (fun σ v2 {H : Heap} {locs : List Loc} {ls : Array Slot}  hW hS hl h => ih σ v2 hW hS hl h) hW hS (lv_sub hl [0, 1, 2] rfl) h
        · replace h := o_neg hc9 h
          refine lv_aload_n (pc := 51) hx hb dX9_weekOf_51 rfl (lv_at hl 0 rfl) ?_
          refine lv_iload_n (pc := 52) hx hb dX9_weekOf_52 rfl (lv_at hl 2 rfl) ?_
          refine lv_iload_n (pc := 53) hx hb dX9_weekOf_53 rfl (lv_at hl 1 rfl) ?_
          obtain ⟨σ12, hc10, h⟩ := o_b h
          refine g_virt (pc := 54) (st2 := []) (rest := []) C hW hS (c_X9_isDue (K := K - 1) (by omega) hc10) mw_X9_219 inR0 Er_0 rfl (hRoom (by omega) (by decide)) rfl rfl rfl (Nat.le_of_ble_eq_true rfl) hl.1 dX9_weekOf_54 (fun H locs hW hS => ?_)
          exact w_X9_weekOf_b57 C hK σ12 v1 v2 (f_X9_weekOf_b23 v1 n) (fun σ v2 {H : Heap} {locs : List Loc} {ls : Array Slot}  hW hS hl h => ih σ v2 hW hS hl h) hW hS (lv_sub hl [0, 1, 2] rfl) h

theorem w_X9_weekOf_b2 (C : CX cX9_weekOf 3 RX9 none D ac p m c s args meth (z, aK, aV) (Ar (z + 80))) (hK : 5 ≤ K) {σf : Mem}   (v1 : Int32)  : ∀ (n : Nat) (σ : Mem) (v2 : Int32) {H : Heap} {locs : List Loc} {ls : Array Slot} (hW : WR D ac (z + 80) σ H) (hS : va_S (Ar (z + 80)) s.heap H locs) (hl : lv_has ls 3 [(0, .ref (z + 80 + 0)), (1, .int v1), (2, .int v2)]) (h : f_X9_weekOf_b2 v1 n σ v2 = some σf), W p l e (rma K 0 0) s m args below meth c H locs 0 0 (MQ below (QV D (Er ac (z + 80)) inR (z + 80) none σf (Ar (z + 80))) args s 0 0 (Ar (z + 80))) (F0 m 2 ls []) := by
  have hx := C.1.1
  have hb := C.1.2.1
  intro n
  induction n with
  | zero =>
    intro σ v2 H locs ls  hW hS hl h
    cases h
  | succ n ih =>
    intro σ v2 H locs ls  hW hS hl h
    rw [f_X9_weekOf_b2.eq_2] at h
    refine lv_iload_n (pc := 2) hx hb dX9_weekOf_2 rfl (lv_at hl 2 rfl) ?_
    refine lv_aload_n (pc := 3) hx hb dX9_weekOf_3 rfl (lv_at hl 0 rfl) ?_
    refine gf_X9_0 (pc := 4) C hW fl_X9_81 dX9_weekOf_4 ?_
    refine lv_icmp_ge (pc := 7) (tgt := 21) hx hb dX9_weekOf_7 (by decide) (fun hc0 => ?_) (fun hc0 => ?_)
    · replace h := o_pos hc0 h
      refine lv_iconst (pc := 21) (v := 0) hx hb dX9_weekOf_21 (by decide) ?_
      refine lv_istore_n (pc := 22) (lv' := [(2, .int (0 : Int32)), (0, .ref (z + 80 + 0)), (1, .int v1)]) hx hb dX9_weekOf_22 rfl hl (by decide) rfl (fun ls hl => ?_)
      exact w_X9_weekOf_b23 C hK v1 FU σ (0 : Int32) hW hS (lv_sub hl [1, 2, 0] rfl) h
    · replace h := o_neg hc0 h
      refine lv_aload_n (pc := 10) hx hb dX9_weekOf_10 rfl (lv_at hl 0 rfl) ?_
      refine lv_iload_n (pc := 11) hx hb dX9_weekOf_11 rfl (lv_at hl 2 rfl) ?_
      obtain ⟨σ3, hc1, h⟩ := o_b h
      refine g_virt (pc := 12) (st2 := []) (rest := []) C hW hS (c_X9_grow (K := K - 1) (by omega) hc1) mw_X9_216 inR0 Er_0 rfl (hRoom (by omega) (by decide)) rfl rfl rfl (Nat.le_of_ble_eq_true rfl) hl.1 dX9_weekOf_12 (fun H locs hW hS => ?_)
      refine lv_iinc (pc := 15) (v := (v2 + 1)) (lv' := [(2, .int (v2 + 1)), (0, .ref (z + 80 + 0)), (1, .int v1)]) hx hb dX9_weekOf_15 hl (k := 2) rfl rfl (by decide) rfl (fun ls hl => ?_)
      refine lv_goto (pc := 18) (tgt := 2) hx hb dX9_weekOf_18 (by decide) ?_
      exact ih σ3 (v2 + 1) hW hS (lv_sub hl [1, 2, 0] rfl) h

theorem c_X9_weekOf {K : Nat}  (hK : 5 ≤ K) {σ : Mem} {σf : Mem} {v1 : Int32} (h : f_X9_weekOf σ v1 = some σf) : MC l D (Er ac (z + 80)) inR (z + 80) ac (z, aK, aV) (Ar (z + 80)) yX9_weekOf cX9_weekOf 3 none K [.ref (z + 80 + 0), .int v1] σ none σf := by
  refine MC.of (fun q hq => by have := hq.1; show z ≤ q; omega) (plainFor_of_name (by decide)) (Nat.le_of_ble_eq_true rfl) ?_
  intro p e s m below meth c args C hW ls hl
  replace hl : lv_has ls 3 [(0, .ref (z + 80 + 0)), (1, .int v1)] := hl
  have hS : va_S (Ar (z + 80)) s.heap s.heap [] := va_S.rf
  have hx := C.1.1
  have hb := C.1.2.1
  unfold f_X9_weekOf at h
  refine lv_iconst (pc := 0) (v := 0) hx hb dX9_weekOf_0 (by decide) ?_
  refine lv_istore_n (pc := 1) (lv' := [(2, .int (0 : Int32)), (0, .ref (z + 80 + 0)), (1, .int v1)]) hx hb dX9_weekOf_1 rfl hl (by decide) rfl (fun ls hl => ?_)
  exact w_X9_weekOf_b2 C hK v1 FU σ (0 : Int32) hW hS (lv_sub hl [1, 2, 0] rfl) h

theorem c_X9_live {K : Nat}  (hK : 6 ≤ K) {σ : Mem} {σf : Mem} {r : Int32} (h : f_X9_live σ = some (r, σf)) : MC l D (Er ac (z + 80)) inR (z + 80) ac (z, aK, aV) (Ar (z + 80)) yX9_live cX9_live 1 (some .int) K [.ref (z + 80 + 0)] σ (some (.int r)) σf := by
  refine MC.of (fun q hq => by have := hq.1; show z ≤ q; omega) (plainFor_of_name (by decide)) (Nat.le_of_ble_eq_true rfl) ?_
  intro p e s m below meth c args C hW ls hl
  replace hl : lv_has ls 1 [(0, .ref (z + 80 + 0))] := hl
  have hS : va_S (Ar (z + 80)) s.heap s.heap [] := va_S.rf
  have hx := C.1.1
  have hb := C.1.2.1
  unfold f_X9_live at h
  refine lv_aload_n (pc := 0) hx hb dX9_live_0 rfl (lv_at hl 0 rfl) ?_
  refine gf_X9_6 (pc := 1) C hW fl_X9_91 dX9_live_1 ?_
  refine lv_sipush (pc := 4) (v := 999) hx hb dX9_live_4 (by decide) ?_
  refine lv_icmp_ne (pc := 7) (tgt := 13) hx hb dX9_live_7 (by decide) (fun hc0 => ?_) (fun hc0 => ?_)
  · replace h := o_neg hc0 h
    refine lv_aload_n (pc := 13) hx hb dX9_live_13 rfl (lv_at hl 0 rfl) ?_
    refine g_virt (pc := 14) (st2 := []) (rest := []) C hW hS (c_X9_begins (K := K - 1) (by omega) rfl) mw_X9_222 inR0 Er_0 rfl (hRoom (by omega) (by decide)) rfl rfl rfl (Nat.le_of_ble_eq_true rfl) hl.1 dX9_live_14 (fun H locs hW hS => ?_)
    obtain ⟨σ2, hσ2, h⟩ := o_d h
    replace hW : WR D ac (z + 80) σ2 H := by rw [← hσ2]; exact hW
    refine lv_aload_n (pc := 17) hx hb dX9_live_17 rfl (lv_at hl 0 rfl) ?_
    refine lv_iconst (pc := 18) (v := 0) hx hb dX9_live_18 (by decide) ?_
    obtain ⟨σ4, hc2, h⟩ := o_b h
    refine g_virt (pc := 19) (st2 := []) (rest := []) C hW hS (c_X9_weekOf (K := K - 1) (by omega) hc2) mw_X9_225 inR0 Er_0 rfl (hRoom (by omega) (by decide)) rfl rfl rfl (Nat.le_of_ble_eq_true rfl) hl.1 dX9_live_19 (fun H locs hW hS => ?_)
    refine lv_aload_n (pc := 22) hx hb dX9_live_22 rfl (lv_at hl 0 rfl) ?_
    refine gf_X9_34 (pc := 23) C hW fl_X9_194 dX9_live_23 ?_
    exact g_ret (pc := 26) C hW hS rfl dX9_live_26 (congrArg (fun q => some (Value.int q)) (o_r h).1) (o_r h).2
  · replace h := o_pos hc0 h
    refine lv_bipush (pc := 10) (v := -4) hx hb dX9_live_10 (by decide) ?_
    exact g_ret (pc := 12) C hW hS rfl dX9_live_12 (congrArg (fun q => some (Value.int q)) (o_r h).1) (o_r h).2

theorem w_X9_keeps_b49 (C : CX cX9_keeps 2 RX9 none D ac p m c s args meth (z, aK, aV) (Ar (z + 80))) (hK : 1 ≤ K) {σf : Mem}   (σ : Mem) (v1 : Int32) (k1 : Int32) (k2 : Int32) (s2 : Mem → Int32 → Option Mem) (hs2 : ∀ (σ : Mem) (v1 : Int32) {H : Heap} {locs : List Loc} {ls : Array Slot} (_ : WR D ac (z + 80) σ H) (_ : va_S (Ar (z + 80)) s.heap H locs) (_ : lv_has ls 2 [(0, .ref (z + 80 + 0)), (1, .int v1)]) (_ : s2 σ v1 = some σf), W p l e (rma K 0 0) s m args below meth c H locs 0 0 (MQ below (QV D (Er ac (z + 80)) inR (z + 80) none σf (Ar (z + 80))) args s 0 0 (Ar (z + 80))) (F0 m 2 ls [])) {H : Heap} {locs : List Loc} {ls : Array Slot} (hW : WR D ac (z + 80) σ H) (hS : va_S (Ar (z + 80)) s.heap H locs) (hl : lv_has ls 2 [(0, .ref (z + 80 + 0)), (1, .int v1)]) (h : f_X9_keeps_b49 s2 σ v1 k1 k2 = some σf) : W p l e (rma K 0 0) s m args below meth c H locs 0 0 (MQ below (QV D (Er ac (z + 80)) inR (z + 80) none σf (Ar (z + 80))) args s 0 0 (Ar (z + 80))) (F0 m 49 ls [.int k2, .int k1, .ref (z + 80 + 17)]) := by
  have hx := C.1.1
  have hb := C.1.2.1
  unfold f_X9_keeps_b49 at h
  obtain ⟨hc5, h⟩ := o_chk h
  refine ir_st (pc := 49) (k := 17) C hW hS (by decide) (by decide) rfl rfl (inb_in hc5) dX9_keeps_49 (fun H locs hW hS => ?_)
  refine lv_iinc (pc := 50) (v := (v1 + 1)) (lv' := [(1, .int (v1 + 1)), (0, .ref (z + 80 + 0))]) hx hb dX9_keeps_50 hl (k := 1) rfl rfl (by decide) rfl (fun ls hl => ?_)
  refine lv_goto (pc := 53) (tgt := 2) hx hb dX9_keeps_53 (by decide) ?_
  exact hs2 (ms σ 17 (k1.toNatClampNeg) k2) (v1 + 1) hW hS (lv_sub hl [1, 0] rfl) h

theorem w_X9_keeps_b2 (C : CX cX9_keeps 2 RX9 none D ac p m c s args meth (z, aK, aV) (Ar (z + 80))) (hK : 1 ≤ K) {σf : Mem}    : ∀ (n : Nat) (σ : Mem) (v1 : Int32) {H : Heap} {locs : List Loc} {ls : Array Slot} (hW : WR D ac (z + 80) σ H) (hS : va_S (Ar (z + 80)) s.heap H locs) (hl : lv_has ls 2 [(0, .ref (z + 80 + 0)), (1, .int v1)]) (h : f_X9_keeps_b2 n σ v1 = some σf), W p l e (rma K 0 0) s m args below meth c H locs 0 0 (MQ below (QV D (Er ac (z + 80)) inR (z + 80) none σf (Ar (z + 80))) args s 0 0 (Ar (z + 80))) (F0 m 2 ls []) := by
  have hx := C.1.1
  have hb := C.1.2.1
  intro n
  induction n with
  | zero =>
    intro σ v1 H locs ls  hW hS hl h
    cases h
  | succ n ih =>
    intro σ v1 H locs ls  hW hS hl h
    rw [f_X9_keeps_b2.eq_2] at h
    refine lv_iload_n (pc := 2) hx hb dX9_keeps_2 rfl (lv_at hl 1 rfl) ?_
    refine lv_bipush (pc := 3) (v := 72) hx hb dX9_keeps_3 (by decide) ?_
    refine lv_icmp_ge (pc := 5) (tgt := 56) hx hb dX9_keeps_5 (by decide) (fun hc0 => ?_) (fun hc0 => ?_)
    · replace h := o_pos hc0 h
      refine lv_aload_n (pc := 56) hx hb dX9_keeps_56 rfl (lv_at hl 0 rfl) ?_
      refine lv_aload_n (pc := 57) hx hb dX9_keeps_57 rfl (lv_at hl 0 rfl) ?_
      refine gf_X9_6 (pc := 58) C hW fl_X9_91 dX9_keeps_58 ?_
      refine pf_X9_40 (pc := 61) C hW hS fl_X9_228 dX9_keeps_61 (fun H locs hW hS => ?_)
      refine lv_aload_n (pc := 64) hx hb dX9_keeps_64 rfl (lv_at hl 0 rfl) ?_
      refine g_virt (pc := 65) (st2 := []) (rest := []) C hW hS (c_X9_begins (K := K - 1) (by omega) rfl) mw_X9_222 inR0 Er_0 rfl (hRoom (by omega) (by decide)) rfl rfl rfl (Nat.le_of_ble_eq_true rfl) hl.1 dX9_keeps_65 (fun H locs hW hS => ?_)
      obtain ⟨σ2, hσ2, h⟩ := o_d h
      replace hW : WR D ac (z + 80) σ2 H := by rw [← hσ2]; exact hW
      exact g_vret (pc := 68) C hW hS dX9_keeps_68 rfl (Option.some.inj h).symm
    · replace h := o_neg hc0 h
      refine lv_aload_n (pc := 8) hx hb dX9_keeps_8 rfl (lv_at hl 0 rfl) ?_
      refine gf_X9_39 (pc := 9) C hW fl_X9_58 dX9_keeps_9 ?_
      refine lv_iload_n (pc := 12) hx hb dX9_keeps_12 rfl (lv_at hl 1 rfl) ?_
      refine lv_iload_n (pc := 13) hx hb dX9_keeps_13 rfl (lv_at hl 1 rfl) ?_
      refine lv_bipush (pc := 14) (v := 24) hx hb dX9_keeps_14 (by decide) ?_
      refine lv_icmp_ge (pc := 16) (tgt := 34) hx hb dX9_keeps_16 (by decide) (fun hc2 => ?_) (fun hc2 => ?_)
      · replace h := o_pos hc2 h
        refine lv_aload_n (pc := 34) hx hb dX9_keeps_34 rfl (lv_at hl 0 rfl) ?_
        refine gf_X9_5 (pc := 35) C hW fl_X9_19 dX9_keeps_35 ?_
        refine lv_iload_n (pc := 38) hx hb dX9_keeps_38 rfl (lv_at hl 1 rfl) ?_
        refine lv_bipush (pc := 39) (v := 24) hx hb dX9_keeps_39 (by decide) ?_
        refine lv_isub (pc := 41) hx hb dX9_keeps_41 ?_
        refine lv_iconst (pc := 42) (v := 0) hx hb dX9_keeps_42 (by decide) ?_
        refine lv_bipush (pc := 43) (v := 47) hx hb dX9_keeps_43 (by decide) ?_
        refine g_stat (pc := 45) (st2 := [.int (f_X9_within (v1 - (24 : Int32)) (0 : Int32) (47 : Int32)), .ref (z + 80 + 4), .int v1, .ref (z + 80 + 17)]) (rest := [.ref (z + 80 + 4), .int v1, .ref (z + 80 + 17)]) C hW hS (c_X9_within (K := K - 1) (by omega) rfl) mw_X9_173 (hRoom (by omega) (by decide)) rfl rfl rfl (Nat.le_of_ble_eq_true rfl) hl.1 dX9_keeps_45 (fun H locs hW hS => ?_)
        obtain ⟨hc3, h⟩ := o_chk h
        refine ir_ld (pc := 48) (k := 4) C hW (by decide) (by decide) rfl rfl (inb_in hc3) dX9_keeps_48 ?_
        exact w_X9_keeps_b49 C hK σ v1 v1 (σ 4 ((f_X9_within (v1 - (24 : Int32)) (0 : Int32) (47 : Int32)).toNatClampNeg)) (f_X9_keeps_b2  n) (fun σ v1 {H : Heap} {locs : List Loc} {ls : Array Slot}  hW hS hl h => ih σ v1 hW hS hl h) hW hS (lv_sub hl [0, 1] rfl) h
      · replace h := o_neg hc2 h
        refine lv_aload_n (pc := 19) hx hb dX9_keeps_19 rfl (lv_at hl 0 rfl) ?_
        refine gf_X9_3 (pc := 20) C hW fl_X9_16 dX9_keeps_20 ?_
        refine lv_iload_n (pc := 23) hx hb dX9_keeps_23 rfl (lv_at hl 1 rfl) ?_
        refine lv_iconst (pc := 24) (v := 0) hx hb dX9_keeps_24 (by decide) ?_
        refine lv_bipush (pc := 25) (v := 23) hx hb dX9_keeps_25 (by decide) ?_
        refine g_stat (pc := 27) (st2 := [.int (f_X9_within v1 (0 : Int32) (23 : Int32)), .ref (z + 80 + 3), .int v1, .ref (z + 80 + 17)]) (rest := [.ref (z + 80 + 3), .int v1, .ref (z + 80 + 17)]) C hW hS (c_X9_within (K := K - 1) (by omega) rfl) mw_X9_173 (hRoom (by omega) (by decide)) rfl rfl rfl (Nat.le_of_ble_eq_true rfl) hl.1 dX9_keeps_27 (fun H locs hW hS => ?_)
        obtain ⟨hc4, h⟩ := o_chk h
        refine ir_ld (pc := 30) (k := 3) C hW (by decide) (by decide) rfl rfl (inb_in hc4) dX9_keeps_30 ?_
        refine lv_goto (pc := 31) (tgt := 49) hx hb dX9_keeps_31 (by decide) ?_
        exact w_X9_keeps_b49 C hK σ v1 v1 (σ 3 ((f_X9_within v1 (0 : Int32) (23 : Int32)).toNatClampNeg)) (f_X9_keeps_b2  n) (fun σ v1 {H : Heap} {locs : List Loc} {ls : Array Slot}  hW hS hl h => ih σ v1 hW hS hl h) hW hS (lv_sub hl [0, 1] rfl) h

theorem c_X9_keeps {K : Nat}  (hK : 1 ≤ K) {σ : Mem} {σf : Mem} (h : f_X9_keeps σ = some σf) : MC l D (Er ac (z + 80)) inR (z + 80) ac (z, aK, aV) (Ar (z + 80)) yX9_keeps cX9_keeps 2 none K [.ref (z + 80 + 0)] σ none σf := by
  refine MC.of (fun q hq => by have := hq.1; show z ≤ q; omega) (plainFor_of_name (by decide)) (Nat.le_of_ble_eq_true rfl) ?_
  intro p e s m below meth c args C hW ls hl
  replace hl : lv_has ls 2 [(0, .ref (z + 80 + 0))] := hl
  have hS : va_S (Ar (z + 80)) s.heap s.heap [] := va_S.rf
  have hx := C.1.1
  have hb := C.1.2.1
  unfold f_X9_keeps at h
  refine lv_iconst (pc := 0) (v := 0) hx hb dX9_keeps_0 (by decide) ?_
  refine lv_istore_n (pc := 1) (lv' := [(1, .int (0 : Int32)), (0, .ref (z + 80 + 0))]) hx hb dX9_keeps_1 rfl hl (by decide) rfl (fun ls hl => ?_)
  exact w_X9_keeps_b2 C hK FU σ (0 : Int32) hW hS (lv_sub hl [1, 0] rfl) h

theorem w_X9_laysBack_b40 (C : CX cX9_laysBack 2 RX9 none D ac p m c s args meth (z, aK, aV) (Ar (z + 80))) (hK : 0 ≤ K) {σf : Mem}    : ∀ (n : Nat) (σ : Mem) (v1 : Int32) {H : Heap} {locs : List Loc} {ls : Array Slot} (hW : WR D ac (z + 80) σ H) (hS : va_S (Ar (z + 80)) s.heap H locs) (hl : lv_has ls 2 [(0, .ref (z + 80 + 0)), (1, .int v1)]) (h : f_X9_laysBack_b40 n σ v1 = some σf), W p l e (rma K 0 0) s m args below meth c H locs 0 0 (MQ below (QV D (Er ac (z + 80)) inR (z + 80) none σf (Ar (z + 80))) args s 0 0 (Ar (z + 80))) (F0 m 40 ls []) := by
  have hx := C.1.1
  have hb := C.1.2.1
  intro n
  induction n with
  | zero =>
    intro σ v1 H locs ls  hW hS hl h
    cases h
  | succ n ih =>
    intro σ v1 H locs ls  hW hS hl h
    rw [f_X9_laysBack_b40.eq_2] at h
    refine lv_iload_n (pc := 40) hx hb dX9_laysBack_40 rfl (lv_at hl 1 rfl) ?_
    refine lv_bipush (pc := 41) (v := 48) hx hb dX9_laysBack_41 (by decide) ?_
    refine lv_icmp_ge (pc := 43) (tgt := 82) hx hb dX9_laysBack_43 (by decide) (fun hc7 => ?_) (fun hc7 => ?_)
    · replace h := o_pos hc7 h
      refine lv_aload_n (pc := 82) hx hb dX9_laysBack_82 rfl (lv_at hl 0 rfl) ?_
      refine lv_aload_n (pc := 83) hx hb dX9_laysBack_83 rfl (lv_at hl 0 rfl) ?_
      refine gf_X9_40 (pc := 84) C hW fl_X9_228 dX9_laysBack_84 ?_
      refine pf_X9_6 (pc := 87) C hW hS fl_X9_91 dX9_laysBack_87 (fun H locs hW hS => ?_)
      exact g_vret (pc := 90) C hW hS dX9_laysBack_90 rfl (Option.some.inj h).symm
    · replace h := o_neg hc7 h
      refine lv_aload_n (pc := 46) hx hb dX9_laysBack_46 rfl (lv_at hl 0 rfl) ?_
      refine gf_X9_41 (pc := 47) C hW fl_X9_61 dX9_laysBack_47 ?_
      refine lv_bipush (pc := 50) (v := 24) hx hb dX9_laysBack_50 (by decide) ?_
      refine lv_iload_n (pc := 52) hx hb dX9_laysBack_52 rfl (lv_at hl 1 rfl) ?_
      refine lv_iadd (pc := 53) hx hb dX9_laysBack_53 ?_
      refine lv_aload_n (pc := 54) hx hb dX9_laysBack_54 rfl (lv_at hl 0 rfl) ?_
      refine gf_X9_5 (pc := 55) C hW fl_X9_19 dX9_laysBack_55 ?_
      refine lv_iload_n (pc := 58) hx hb dX9_laysBack_58 rfl (lv_at hl 1 rfl) ?_
      obtain ⟨hc8, h⟩ := o_chk h
      refine ir_ld (pc := 59) (k := 4) C hW (by decide) (by decide) rfl rfl (inb_in hc8) dX9_laysBack_59 ?_
      obtain ⟨hc9, h⟩ := o_chk h
      refine ir_st (pc := 60) (k := 18) C hW hS (by decide) (by decide) rfl rfl (inb_in hc9) dX9_laysBack_60 (fun H locs hW hS => ?_)
      obtain ⟨σ11, hσ11, h⟩ := o_d h
      replace hW : WR D ac (z + 80) σ11 H := by rw [← hσ11]; exact hW
      refine lv_aload_n (pc := 61) hx hb dX9_laysBack_61 rfl (lv_at hl 0 rfl) ?_
      refine gf_X9_5 (pc := 62) C hW fl_X9_19 dX9_laysBack_62 ?_
      refine lv_iload_n (pc := 65) hx hb dX9_laysBack_65 rfl (lv_at hl 1 rfl) ?_
      refine lv_aload_n (pc := 66) hx hb dX9_laysBack_66 rfl (lv_at hl 0 rfl) ?_
      refine gf_X9_39 (pc := 67) C hW fl_X9_58 dX9_laysBack_67 ?_
      refine lv_bipush (pc := 70) (v := 24) hx hb dX9_laysBack_70 (by decide) ?_
      refine lv_iload_n (pc := 72) hx hb dX9_laysBack_72 rfl (lv_at hl 1 rfl) ?_
      refine lv_iadd (pc := 73) hx hb dX9_laysBack_73 ?_
      obtain ⟨hc11, h⟩ := o_chk h
      refine ir_ld (pc := 74) (k := 17) C hW (by decide) (by decide) rfl rfl (inb_in hc11) dX9_laysBack_74 ?_
      obtain ⟨hc12, h⟩ := o_chk h
      refine ir_st (pc := 75) (k := 4) C hW hS (by decide) (by decide) rfl rfl (inb_in hc12) dX9_laysBack_75 (fun H locs hW hS => ?_)
      obtain ⟨σ14, hσ14, h⟩ := o_d h
      replace hW : WR D ac (z + 80) σ14 H := by rw [← hσ14]; exact hW
      refine lv_iinc (pc := 76) (v := (v1 + 1)) (lv' := [(1, .int (v1 + 1)), (0, .ref (z + 80 + 0))]) hx hb dX9_laysBack_76 hl (k := 1) rfl rfl (by decide) rfl (fun ls hl => ?_)
      refine lv_goto (pc := 79) (tgt := 40) hx hb dX9_laysBack_79 (by decide) ?_
      exact ih σ14 (v1 + 1) hW hS (lv_sub hl [1, 0] rfl) h

theorem w_X9_laysBack_b2 (C : CX cX9_laysBack 2 RX9 none D ac p m c s args meth (z, aK, aV) (Ar (z + 80))) (hK : 0 ≤ K) {σf : Mem}    : ∀ (n : Nat) (σ : Mem) (v1 : Int32) {H : Heap} {locs : List Loc} {ls : Array Slot} (hW : WR D ac (z + 80) σ H) (hS : va_S (Ar (z + 80)) s.heap H locs) (hl : lv_has ls 2 [(0, .ref (z + 80 + 0)), (1, .int v1)]) (h : f_X9_laysBack_b2 n σ v1 = some σf), W p l e (rma K 0 0) s m args below meth c H locs 0 0 (MQ below (QV D (Er ac (z + 80)) inR (z + 80) none σf (Ar (z + 80))) args s 0 0 (Ar (z + 80))) (F0 m 2 ls []) := by
  have hx := C.1.1
  have hb := C.1.2.1
  intro n
  induction n with
  | zero =>
    intro σ v1 H locs ls  hW hS hl h
    cases h
  | succ n ih =>
    intro σ v1 H locs ls  hW hS hl h
    rw [f_X9_laysBack_b2.eq_2] at h
    refine lv_iload_n (pc := 2) hx hb dX9_laysBack_2 rfl (lv_at hl 1 rfl) ?_
    refine lv_bipush (pc := 3) (v := 24) hx hb dX9_laysBack_3 (by decide) ?_
    refine lv_icmp_ge (pc := 5) (tgt := 38) hx hb dX9_laysBack_5 (by decide) (fun hc0 => ?_) (fun hc0 => ?_)
    · replace h := o_pos hc0 h
      refine lv_iconst (pc := 38) (v := 0) hx hb dX9_laysBack_38 (by decide) ?_
      refine lv_istore_n (pc := 39) (lv' := [(1, .int (0 : Int32)), (0, .ref (z + 80 + 0))]) hx hb dX9_laysBack_39 rfl hl (by decide) rfl (fun ls hl => ?_)
      exact w_X9_laysBack_b40 C hK FU σ (0 : Int32) hW hS (lv_sub hl [1, 0] rfl) h
    · replace h := o_neg hc0 h
      refine lv_aload_n (pc := 8) hx hb dX9_laysBack_8 rfl (lv_at hl 0 rfl) ?_
      refine gf_X9_41 (pc := 9) C hW fl_X9_61 dX9_laysBack_9 ?_
      refine lv_iload_n (pc := 12) hx hb dX9_laysBack_12 rfl (lv_at hl 1 rfl) ?_
      refine lv_aload_n (pc := 13) hx hb dX9_laysBack_13 rfl (lv_at hl 0 rfl) ?_
      refine gf_X9_3 (pc := 14) C hW fl_X9_16 dX9_laysBack_14 ?_
      refine lv_iload_n (pc := 17) hx hb dX9_laysBack_17 rfl (lv_at hl 1 rfl) ?_
      obtain ⟨hc1, h⟩ := o_chk h
      refine ir_ld (pc := 18) (k := 3) C hW (by decide) (by decide) rfl rfl (inb_in hc1) dX9_laysBack_18 ?_
      obtain ⟨hc2, h⟩ := o_chk h
      refine ir_st (pc := 19) (k := 18) C hW hS (by decide) (by decide) rfl rfl (inb_in hc2) dX9_laysBack_19 (fun H locs hW hS => ?_)
      obtain ⟨σ4, hσ4, h⟩ := o_d h
      replace hW : WR D ac (z + 80) σ4 H := by rw [← hσ4]; exact hW
      refine lv_aload_n (pc := 20) hx hb dX9_laysBack_20 rfl (lv_at hl 0 rfl) ?_
      refine gf_X9_3 (pc := 21) C hW fl_X9_16 dX9_laysBack_21 ?_
      refine lv_iload_n (pc := 24) hx hb dX9_laysBack_24 rfl (lv_at hl 1 rfl) ?_
      refine lv_aload_n (pc := 25) hx hb dX9_laysBack_25 rfl (lv_at hl 0 rfl) ?_
      refine gf_X9_39 (pc := 26) C hW fl_X9_58 dX9_laysBack_26 ?_
      refine lv_iload_n (pc := 29) hx hb dX9_laysBack_29 rfl (lv_at hl 1 rfl) ?_
      obtain ⟨hc4, h⟩ := o_chk h
      refine ir_ld (pc := 30) (k := 17) C hW (by decide) (by decide) rfl rfl (inb_in hc4) dX9_laysBack_30 ?_
      obtain ⟨hc5, h⟩ := o_chk h
      refine ir_st (pc := 31) (k := 3) C hW hS (by decide) (by decide) rfl rfl (inb_in hc5) dX9_laysBack_31 (fun H locs hW hS => ?_)
      obtain ⟨σ7, hσ7, h⟩ := o_d h
      replace hW : WR D ac (z + 80) σ7 H := by rw [← hσ7]; exact hW
      refine lv_iinc (pc := 32) (v := (v1 + 1)) (lv' := [(1, .int (v1 + 1)), (0, .ref (z + 80 + 0))]) hx hb dX9_laysBack_32 hl (k := 1) rfl rfl (by decide) rfl (fun ls hl => ?_)
      refine lv_goto (pc := 35) (tgt := 2) hx hb dX9_laysBack_35 (by decide) ?_
      exact ih σ7 (v1 + 1) hW hS (lv_sub hl [1, 0] rfl) h

theorem c_X9_laysBack {K : Nat}  (hK : 0 ≤ K) {σ : Mem} {σf : Mem} (h : f_X9_laysBack σ = some σf) : MC l D (Er ac (z + 80)) inR (z + 80) ac (z, aK, aV) (Ar (z + 80)) yX9_laysBack cX9_laysBack 2 none K [.ref (z + 80 + 0)] σ none σf := by
  refine MC.of (fun q hq => by have := hq.1; show z ≤ q; omega) (plainFor_of_name (by decide)) (Nat.le_of_ble_eq_true rfl) ?_
  intro p e s m below meth c args C hW ls hl
  replace hl : lv_has ls 2 [(0, .ref (z + 80 + 0))] := hl
  have hS : va_S (Ar (z + 80)) s.heap s.heap [] := va_S.rf
  have hx := C.1.1
  have hb := C.1.2.1
  unfold f_X9_laysBack at h
  refine lv_iconst (pc := 0) (v := 0) hx hb dX9_laysBack_0 (by decide) ?_
  refine lv_istore_n (pc := 1) (lv' := [(1, .int (0 : Int32)), (0, .ref (z + 80 + 0))]) hx hb dX9_laysBack_1 rfl hl (by decide) rfl (fun ls hl => ?_)
  exact w_X9_laysBack_b2 C hK FU σ (0 : Int32) hW hS (lv_sub hl [1, 0] rfl) h

theorem w_X9_goes_b6 (C : CX cX9_goes 3 RX9 none D ac p m c s args meth (z, aK, aV) (Ar (z + 80))) (hK : 6 ≤ K) {σf : Mem}   (v1 : Int32)  : ∀ (n : Nat) (σ : Mem) (v2 : Int32) {H : Heap} {locs : List Loc} {ls : Array Slot} (hW : WR D ac (z + 80) σ H) (hS : va_S (Ar (z + 80)) s.heap H locs) (hl : lv_has ls 3 [(0, .ref (z + 80 + 0)), (1, .int v1), (2, .int v2)]) (h : f_X9_goes_b6 v1 n σ v2 = some σf), W p l e (rma K 0 0) s m args below meth c H locs 0 0 (MQ below (QV D (Er ac (z + 80)) inR (z + 80) none σf (Ar (z + 80))) args s 0 0 (Ar (z + 80))) (F0 m 6 ls []) := by
  have hx := C.1.1
  have hb := C.1.2.1
  intro n
  induction n with
  | zero =>
    intro σ v2 H locs ls  hW hS hl h
    cases h
  | succ n ih =>
    intro σ v2 H locs ls  hW hS hl h
    rw [f_X9_goes_b6.eq_2] at h
    refine lv_iload_n (pc := 6) hx hb dX9_goes_6 rfl (lv_at hl 2 rfl) ?_
    refine lv_iload_n (pc := 7) hx hb dX9_goes_7 rfl (lv_at hl 1 rfl) ?_
    refine lv_icmp_ge (pc := 8) (tgt := 22) hx hb dX9_goes_8 (by decide) (fun hc2 => ?_) (fun hc2 => ?_)
    · replace h := o_pos hc2 h
      refine lv_aload_n (pc := 22) hx hb dX9_goes_22 rfl (lv_at hl 0 rfl) ?_
      obtain ⟨σ5, hc3, h⟩ := o_b h
      refine g_virt (pc := 23) (st2 := []) (rest := []) C hW hS (c_X9_laysBack (K := K - 1) (by omega) hc3) mw_X9_234 inR0 Er_0 rfl (hRoom (by omega) (by decide)) rfl rfl rfl (Nat.le_of_ble_eq_true rfl) hl.1 dX9_goes_23 (fun H locs hW hS => ?_)
      exact g_vret (pc := 26) C hW hS dX9_goes_26 rfl (Option.some.inj h).symm
    · replace h := o_neg hc2 h
      refine lv_aload_n (pc := 11) hx hb dX9_goes_11 rfl (lv_at hl 0 rfl) ?_
      refine lv_iload_n (pc := 12) hx hb dX9_goes_12 rfl (lv_at hl 2 rfl) ?_
      obtain ⟨σ7, hc5, h⟩ := o_b h
      refine g_virt (pc := 13) (st2 := []) (rest := []) C hW hS (c_X9_weekOf (K := K - 1) (by omega) hc5) mw_X9_225 inR0 Er_0 rfl (hRoom (by omega) (by decide)) rfl rfl rfl (Nat.le_of_ble_eq_true rfl) hl.1 dX9_goes_13 (fun H locs hW hS => ?_)
      refine lv_iinc (pc := 16) (v := (v2 + 1)) (lv' := [(2, .int (v2 + 1)), (0, .ref (z + 80 + 0)), (1, .int v1)]) hx hb dX9_goes_16 hl (k := 2) rfl rfl (by decide) rfl (fun ls hl => ?_)
      refine lv_goto (pc := 19) (tgt := 6) hx hb dX9_goes_19 (by decide) ?_
      exact ih σ7 (v2 + 1) hW hS (lv_sub hl [1, 2, 0] rfl) h

theorem c_X9_goes {K : Nat}  (hK : 6 ≤ K) {σ : Mem} {σf : Mem} {v1 : Int32} (h : f_X9_goes σ v1 = some σf) : MC l D (Er ac (z + 80)) inR (z + 80) ac (z, aK, aV) (Ar (z + 80)) yX9_goes cX9_goes 3 none K [.ref (z + 80 + 0), .int v1] σ none σf := by
  refine MC.of (fun q hq => by have := hq.1; show z ≤ q; omega) (plainFor_of_name (by decide)) (Nat.le_of_ble_eq_true rfl) ?_
  intro p e s m below meth c args C hW ls hl
  replace hl : lv_has ls 3 [(0, .ref (z + 80 + 0)), (1, .int v1)] := hl
  have hS : va_S (Ar (z + 80)) s.heap s.heap [] := va_S.rf
  have hx := C.1.1
  have hb := C.1.2.1
  unfold f_X9_goes at h
  refine lv_aload_n (pc := 0) hx hb dX9_goes_0 rfl (lv_at hl 0 rfl) ?_
  obtain ⟨σ2, hc0, h⟩ := o_b h
  refine g_virt (pc := 1) (st2 := []) (rest := []) C hW hS (c_X9_keeps (K := K - 1) (by omega) hc0) mw_X9_231 inR0 Er_0 rfl (hRoom (by omega) (by decide)) rfl rfl rfl (Nat.le_of_ble_eq_true rfl) hl.1 dX9_goes_1 (fun H locs hW hS => ?_)
  refine lv_iconst (pc := 4) (v := 0) hx hb dX9_goes_4 (by decide) ?_
  refine lv_istore_n (pc := 5) (lv' := [(2, .int (0 : Int32)), (0, .ref (z + 80 + 0)), (1, .int v1)]) hx hb dX9_goes_5 rfl hl (by decide) rfl (fun ls hl => ?_)
  exact w_X9_goes_b6 C hK v1 FU σ2 (0 : Int32) hW hS (lv_sub hl [1, 2, 0] rfl) h

theorem w_X9_run_b57 (C : CX cX9_run 3 RX9 (some .int) D ac p m c s args meth (z, aK, aV) (Ar (z + 80))) (hK : 7 ≤ K) {r : Int32} {σf : Mem}   (σ : Mem) (v1 : Int32) (v2 : Int32)  {H : Heap} {locs : List Loc} {ls : Array Slot} (hW : WR D ac (z + 80) σ H) (hS : va_S (Ar (z + 80)) s.heap H locs) (hl : lv_has ls 3 [(0, .ref (z + 80 + 0)), (1, .int v1), (2, .int v2)]) (h : f_X9_run_b57 σ v1 v2 = some (r, σf)) : W p l e (rma K 0 0) s m args below meth c H locs 0 0 (MQ below (QV D (Er ac (z + 80)) inR (z + 80) (some (.int r)) σf (Ar (z + 80))) args s 0 0 (Ar (z + 80))) (F0 m 57 ls []) := by
  have hx := C.1.1
  have hb := C.1.2.1
  unfold f_X9_run_b57 at h
  refine lv_aload_n (pc := 57) hx hb dX9_run_57 rfl (lv_at hl 0 rfl) ?_
  refine lv_iload_n (pc := 58) hx hb dX9_run_58 rfl (lv_at hl 1 rfl) ?_
  obtain ⟨σ6, hc4, h⟩ := o_b h
  refine g_virt (pc := 59) (st2 := []) (rest := []) C hW hS (c_X9_goes (K := K - 1) (by omega) hc4) mw_X9_237 inR0 Er_0 rfl (hRoom (by omega) (by decide)) rfl rfl rfl (Nat.le_of_ble_eq_true rfl) hl.1 dX9_run_59 (fun H locs hW hS => ?_)
  refine lv_iload_n (pc := 62) hx hb dX9_run_62 rfl (lv_at hl 2 rfl) ?_
  by_cases hc6 : v2 = 0
  · replace h := o_pos hc6 h
    refine lv_tableIn (pc := 63) (off := 33) (tgt := 96) hx hb dX9_run_63 (by rw [hc6]; decide) (by rw [hc6]; decide) (by rw [hc6]; rfl) (by decide) ?_
    refine lv_aload_n (pc := 96) hx hb dX9_run_96 rfl (lv_at hl 0 rfl) ?_
    refine gf_X9_34 (pc := 97) C hW fl_X9_194 dX9_run_97 ?_
    exact g_ret (pc := 100) C hW hS rfl dX9_run_100 (congrArg (fun q => some (Value.int q)) (o_r h).1) (o_r h).2
  replace h := o_neg hc6 h
  by_cases hc7 : v2 = 1
  · replace h := o_pos hc7 h
    refine lv_tableIn (pc := 63) (off := 38) (tgt := 101) hx hb dX9_run_63 (by rw [hc7]; decide) (by rw [hc7]; decide) (by rw [hc7]; rfl) (by decide) ?_
    refine lv_aload_n (pc := 101) hx hb dX9_run_101 rfl (lv_at hl 0 rfl) ?_
    refine gf_X9_35 (pc := 102) C hW fl_X9_197 dX9_run_102 ?_
    exact g_ret (pc := 105) C hW hS rfl dX9_run_105 (congrArg (fun q => some (Value.int q)) (o_r h).1) (o_r h).2
  replace h := o_neg hc7 h
  by_cases hc8 : v2 = 2
  · replace h := o_pos hc8 h
    refine lv_tableIn (pc := 63) (off := 43) (tgt := 106) hx hb dX9_run_63 (by rw [hc8]; decide) (by rw [hc8]; decide) (by rw [hc8]; rfl) (by decide) ?_
    refine lv_aload_n (pc := 106) hx hb dX9_run_106 rfl (lv_at hl 0 rfl) ?_
    refine gf_X9_36 (pc := 107) C hW fl_X9_200 dX9_run_107 ?_
    exact g_ret (pc := 110) C hW hS rfl dX9_run_110 (congrArg (fun q => some (Value.int q)) (o_r h).1) (o_r h).2
  replace h := o_neg hc8 h
  by_cases hc9 : v2 = 3
  · replace h := o_pos hc9 h
    refine lv_tableIn (pc := 63) (off := 48) (tgt := 111) hx hb dX9_run_63 (by rw [hc9]; decide) (by rw [hc9]; decide) (by rw [hc9]; rfl) (by decide) ?_
    refine lv_aload_n (pc := 111) hx hb dX9_run_111 rfl (lv_at hl 0 rfl) ?_
    refine gf_X9_37 (pc := 112) C hW fl_X9_203 dX9_run_112 ?_
    exact g_ret (pc := 115) C hW hS rfl dX9_run_115 (congrArg (fun q => some (Value.int q)) (o_r h).1) (o_r h).2
  replace h := o_neg hc9 h
  by_cases hc10 : v2 = 4
  · replace h := o_pos hc10 h
    refine lv_tableIn (pc := 63) (off := 53) (tgt := 116) hx hb dX9_run_63 (by rw [hc10]; decide) (by rw [hc10]; decide) (by rw [hc10]; rfl) (by decide) ?_
    refine lv_aload_n (pc := 116) hx hb dX9_run_116 rfl (lv_at hl 0 rfl) ?_
    refine gf_X9_38 (pc := 117) C hW fl_X9_206 dX9_run_117 ?_
    exact g_ret (pc := 120) C hW hS rfl dX9_run_120 (congrArg (fun q => some (Value.int q)) (o_r h).1) (o_r h).2
  replace h := o_neg hc10 h
  have hzhc6 := lv_neT (k := 0) (a := 0) hc6 (by decide)
  have hzhc7 := lv_neT (k := 1) (a := 1) hc7 (by decide)
  have hzhc8 := lv_neT (k := 2) (a := 2) hc8 (by decide)
  have hzhc9 := lv_neT (k := 3) (a := 3) hc9 (by decide)
  have hzhc10 := lv_neT (k := 4) (a := 4) hc10 (by decide)
  refine lv_tableOut (pc := 63) (tgt := 121) hx hb dX9_run_63 (by omega) (by decide) ?_
  refine lv_iload_n (pc := 121) hx hb dX9_run_121 rfl (lv_at hl 2 rfl) ?_
  refine lv_bipush (pc := 122) (v := 20) hx hb dX9_run_122 (by decide) ?_
  refine lv_icmp_ge (pc := 124) (tgt := 141) hx hb dX9_run_124 (by decide) (fun hc11 => ?_) (fun hc11 => ?_)
  · replace h := o_pos hc11 h
    refine lv_aload_n (pc := 141) hx hb dX9_run_141 rfl (lv_at hl 0 rfl) ?_
    refine gf_X9_41 (pc := 142) C hW fl_X9_61 dX9_run_142 ?_
    refine lv_bipush (pc := 145) (v := 24) hx hb dX9_run_145 (by decide) ?_
    refine lv_bipush (pc := 147) (v := 6) hx hb dX9_run_147 (by decide) ?_
    refine lv_iload_n (pc := 149) hx hb dX9_run_149 rfl (lv_at hl 2 rfl) ?_
    refine lv_bipush (pc := 150) (v := 20) hx hb dX9_run_150 (by decide) ?_
    refine lv_isub (pc := 152) hx hb dX9_run_152 ?_
    refine lv_imul (pc := 153) hx hb dX9_run_153 ?_
    refine lv_iadd (pc := 154) hx hb dX9_run_154 ?_
    refine lv_iconst (pc := 155) (v := 5) hx hb dX9_run_155 (by decide) ?_
    refine lv_iadd (pc := 156) hx hb dX9_run_156 ?_
    obtain ⟨hc12, h⟩ := o_chk h
    refine ir_ld (pc := 157) (k := 18) C hW (by decide) (by decide) rfl rfl (inb_in hc12) dX9_run_157 ?_
    exact g_ret (pc := 158) C hW hS rfl dX9_run_158 (congrArg (fun q => some (Value.int q)) (o_r h).1) (o_r h).2
  · replace h := o_neg hc11 h
    refine lv_aload_n (pc := 127) hx hb dX9_run_127 rfl (lv_at hl 0 rfl) ?_
    refine gf_X9_41 (pc := 128) C hW fl_X9_61 dX9_run_128 ?_
    refine lv_iconst (pc := 131) (v := 4) hx hb dX9_run_131 (by decide) ?_
    refine lv_iload_n (pc := 132) hx hb dX9_run_132 rfl (lv_at hl 2 rfl) ?_
    refine lv_bipush (pc := 133) (v := 10) hx hb dX9_run_133 (by decide) ?_
    refine lv_isub (pc := 135) hx hb dX9_run_135 ?_
    refine lv_imul (pc := 136) hx hb dX9_run_136 ?_
    obtain ⟨hc13, h⟩ := o_chk h
    refine ir_ld (pc := 137) (k := 18) C hW (by decide) (by decide) rfl rfl (inb_in hc13) dX9_run_137 ?_
    refine lv_goto (pc := 138) (tgt := 158) hx hb dX9_run_138 (by decide) ?_
    exact g_ret (pc := 158) C hW hS rfl dX9_run_158 (congrArg (fun q => some (Value.int q)) (o_r h).1) (o_r h).2

theorem c_X9_run {K : Nat}  (hK : 7 ≤ K) {σ : Mem} {σf : Mem} {v1 : Int32} {v2 : Int32} {r : Int32} (h : f_X9_run σ v1 v2 = some (r, σf)) : MC l D (Er ac (z + 80)) inR (z + 80) ac (z, aK, aV) (Ar (z + 80)) yX9_run cX9_run 3 (some .int) K [.ref (z + 80 + 0), .int v1, .int v2] σ (some (.int r)) σf := by
  refine MC.of (fun q hq => by have := hq.1; show z ≤ q; omega) (plainFor_of_name (by decide)) (Nat.le_of_ble_eq_true rfl) ?_
  intro p e s m below meth c args C hW ls hl
  replace hl : lv_has ls 3 [(0, .ref (z + 80 + 0)), (1, .int v1), (2, .int v2)] := hl
  have hS : va_S (Ar (z + 80)) s.heap s.heap [] := va_S.rf
  have hx := C.1.1
  have hb := C.1.2.1
  unfold f_X9_run at h
  refine lv_iload_n (pc := 0) hx hb dX9_run_0 rfl (lv_at hl 1 rfl) ?_
  refine lv_iconst (pc := 1) (v := 0) hx hb dX9_run_1 (by decide) ?_
  refine lv_bipush (pc := 2) (v := 60) hx hb dX9_run_2 (by decide) ?_
  refine g_stat (pc := 4) (st2 := [.int (f_X9_in v1 (0 : Int32) (60 : Int32))]) (rest := []) C hW hS (c_X9_in (K := K - 1) (by omega) rfl) mw_X9_84 (hRoom (by omega) (by decide)) rfl rfl rfl (Nat.le_of_ble_eq_true rfl) hl.1 dX9_run_4 (fun H locs hW hS => ?_)
  refine lv_if_ne (pc := 7) (tgt := 13) hx hb dX9_run_7 (by decide) (fun hc0 => ?_) (fun hc0 => ?_)
  · replace h := o_neg hc0 h
    refine lv_iload_n (pc := 13) hx hb dX9_run_13 rfl (lv_at hl 2 rfl) ?_
    refine lv_iconst (pc := 14) (v := 0) hx hb dX9_run_14 (by decide) ?_
    refine lv_iconst (pc := 15) (v := 4) hx hb dX9_run_15 (by decide) ?_
    refine g_stat (pc := 16) (st2 := [.int (f_X9_in v2 (0 : Int32) (4 : Int32))]) (rest := []) C hW hS (c_X9_in (K := K - 1) (by omega) rfl) mw_X9_84 (hRoom (by omega) (by decide)) rfl rfl rfl (Nat.le_of_ble_eq_true rfl) hl.1 dX9_run_16 (fun H locs hW hS => ?_)
    refine lv_if_ne (pc := 19) (tgt := 57) hx hb dX9_run_19 (by decide) (fun hc1 => ?_) (fun hc1 => ?_)
    · replace h := o_neg hc1 h
      exact w_X9_run_b57 C hK σ v1 v2 hW hS (lv_sub hl [0, 1, 2] rfl) h
    · replace h := o_pos hc1 h
      refine lv_iload_n (pc := 22) hx hb dX9_run_22 rfl (lv_at hl 2 rfl) ?_
      refine lv_bipush (pc := 23) (v := 10) hx hb dX9_run_23 (by decide) ?_
      refine lv_bipush (pc := 25) (v := 9) hx hb dX9_run_25 (by decide) ?_
      refine lv_aload_n (pc := 27) hx hb dX9_run_27 rfl (lv_at hl 0 rfl) ?_
      refine gf_X9_0 (pc := 28) C hW fl_X9_81 dX9_run_28 ?_
      refine lv_iadd (pc := 31) hx hb dX9_run_31 ?_
      refine g_stat (pc := 32) (st2 := [.int (f_X9_in v2 (10 : Int32) ((9 : Int32) + (σ 0 0)))]) (rest := []) C hW hS (c_X9_in (K := K - 1) (by omega) rfl) mw_X9_84 (hRoom (by omega) (by decide)) rfl rfl rfl (Nat.le_of_ble_eq_true rfl) hl.1 dX9_run_32 (fun H locs hW hS => ?_)
      refine lv_if_ne (pc := 35) (tgt := 57) hx hb dX9_run_35 (by decide) (fun hc2 => ?_) (fun hc2 => ?_)
      · replace h := o_neg hc2 h
        exact w_X9_run_b57 C hK σ v1 v2 hW hS (lv_sub hl [0, 1, 2] rfl) h
      · replace h := o_pos hc2 h
        refine lv_iload_n (pc := 38) hx hb dX9_run_38 rfl (lv_at hl 2 rfl) ?_
        refine lv_bipush (pc := 39) (v := 20) hx hb dX9_run_39 (by decide) ?_
        refine lv_bipush (pc := 41) (v := 19) hx hb dX9_run_41 (by decide) ?_
        refine lv_aload_n (pc := 43) hx hb dX9_run_43 rfl (lv_at hl 0 rfl) ?_
        refine gf_X9_4 (pc := 44) C hW fl_X9_88 dX9_run_44 ?_
        refine lv_iadd (pc := 47) hx hb dX9_run_47 ?_
        refine g_stat (pc := 48) (st2 := [.int (f_X9_in v2 (20 : Int32) ((19 : Int32) + (σ 0 4)))]) (rest := []) C hW hS (c_X9_in (K := K - 1) (by omega) rfl) mw_X9_84 (hRoom (by omega) (by decide)) rfl rfl rfl (Nat.le_of_ble_eq_true rfl) hl.1 dX9_run_48 (fun H locs hW hS => ?_)
        refine lv_if_ne (pc := 51) (tgt := 57) hx hb dX9_run_51 (by decide) (fun hc3 => ?_) (fun hc3 => ?_)
        · replace h := o_neg hc3 h
          exact w_X9_run_b57 C hK σ v1 v2 hW hS (lv_sub hl [0, 1, 2] rfl) h
        · replace h := o_pos hc3 h
          refine lv_bipush (pc := 54) (v := -7) hx hb dX9_run_54 (by decide) ?_
          exact g_ret (pc := 56) C hW hS rfl dX9_run_56 (congrArg (fun q => some (Value.int q)) (o_r h).1) (o_r h).2
  · replace h := o_pos hc0 h
    refine lv_bipush (pc := 10) (v := -2) hx hb dX9_run_10 (by decide) ?_
    exact g_ret (pc := 12) C hW hS rfl dX9_run_12 (congrArg (fun q => some (Value.int q)) (o_r h).1) (o_r h).2

theorem w_X9_ripeOf_b59 (C : CX cX9_ripeOf 5 RX9 (some .int) D ac p m c s args meth (z, aK, aV) (Ar (z + 80))) (hK : 5 ≤ K) {r : Int32} {σf : Mem}   (σ : Mem) (v1 : Int32) (v2 : Int32) (v4 : Int32) (k0 : Int32) (s9 : Mem → Int32 → Int32 → Option (Int32 × Mem)) (hs9 : ∀ (σ : Mem) (v3 : Int32) (v4 : Int32) {H : Heap} {locs : List Loc} {ls : Array Slot} (_ : WR D ac (z + 80) σ H) (_ : va_S (Ar (z + 80)) s.heap H locs) (_ : lv_has ls 5 [(0, .ref (z + 80 + 0)), (1, .int v1), (2, .int v2), (3, .int v3), (4, .int v4)]) (_ : s9 σ v3 v4 = some (r, σf)), W p l e (rma K 0 0) s m args below meth c H locs 0 0 (MQ below (QV D (Er ac (z + 80)) inR (z + 80) (some (.int r)) σf (Ar (z + 80))) args s 0 0 (Ar (z + 80))) (F0 m 9 ls [])) {H : Heap} {locs : List Loc} {ls : Array Slot} (hW : WR D ac (z + 80) σ H) (hS : va_S (Ar (z + 80)) s.heap H locs) (hl : lv_has ls 5 [(0, .ref (z + 80 + 0)), (1, .int v1), (2, .int v2), (4, .int v4)]) (h : f_X9_ripeOf_b59 s9 σ v1 v2 v4 k0 = some (r, σf)) : W p l e (rma K 0 0) s m args below meth c H locs 0 0 (MQ below (QV D (Er ac (z + 80)) inR (z + 80) (some (.int r)) σf (Ar (z + 80))) args s 0 0 (Ar (z + 80))) (F0 m 59 ls [.int k0]) := by
  have hx := C.1.1
  have hb := C.1.2.1
  unfold f_X9_ripeOf_b59 at h
  refine lv_istore_n (pc := 59) (lv' := [(3, .int k0), (0, .ref (z + 80 + 0)), (1, .int v1), (2, .int v2), (4, .int v4)]) hx hb dX9_ripeOf_59 rfl hl (by decide) rfl (fun ls hl => ?_)
  refine lv_iinc (pc := 60) (v := (v4 + 1)) (lv' := [(4, .int (v4 + 1)), (3, .int k0), (0, .ref (z + 80 + 0)), (1, .int v1), (2, .int v2)]) hx hb dX9_ripeOf_60 hl (k := 4) rfl rfl (by decide) rfl (fun ls hl => ?_)
  refine lv_goto (pc := 63) (tgt := 9) hx hb dX9_ripeOf_63 (by decide) ?_
  exact hs9 σ k0 (v4 + 1) hW hS (lv_sub hl [2, 3, 4, 1, 0] rfl) h

theorem w_X9_ripeOf_b9 (C : CX cX9_ripeOf 5 RX9 (some .int) D ac p m c s args meth (z, aK, aV) (Ar (z + 80))) (hK : 5 ≤ K) {r : Int32} {σf : Mem}   (v1 : Int32) (v2 : Int32)  : ∀ (n : Nat) (σ : Mem) (v3 : Int32) (v4 : Int32) {H : Heap} {locs : List Loc} {ls : Array Slot} (hW : WR D ac (z + 80) σ H) (hS : va_S (Ar (z + 80)) s.heap H locs) (hl : lv_has ls 5 [(0, .ref (z + 80 + 0)), (1, .int v1), (2, .int v2), (3, .int v3), (4, .int v4)]) (h : f_X9_ripeOf_b9 v1 v2 n σ v3 v4 = some (r, σf)), W p l e (rma K 0 0) s m args below meth c H locs 0 0 (MQ below (QV D (Er ac (z + 80)) inR (z + 80) (some (.int r)) σf (Ar (z + 80))) args s 0 0 (Ar (z + 80))) (F0 m 9 ls []) := by
  have hx := C.1.1
  have hb := C.1.2.1
  intro n
  induction n with
  | zero =>
    intro σ v3 v4 H locs ls  hW hS hl h
    cases h
  | succ n ih =>
    intro σ v3 v4 H locs ls  hW hS hl h
    rw [f_X9_ripeOf_b9.eq_2] at h
    refine lv_iload (pc := 9) hx hb dX9_ripeOf_9 (lv_at hl 4 rfl) ?_
    refine lv_bipush (pc := 11) (v := 60) hx hb dX9_ripeOf_11 (by decide) ?_
    refine lv_icmp_ge (pc := 13) (tgt := 66) hx hb dX9_ripeOf_13 (by decide) (fun hc2 => ?_) (fun hc2 => ?_)
    · replace h := o_pos hc2 h
      refine lv_aload_n (pc := 66) hx hb dX9_ripeOf_66 rfl (lv_at hl 0 rfl) ?_
      obtain ⟨σ5, hc3, h⟩ := o_b h
      refine g_virt (pc := 67) (st2 := []) (rest := []) C hW hS (c_X9_laysBack (K := K - 1) (by omega) hc3) mw_X9_234 inR0 Er_0 rfl (hRoom (by omega) (by decide)) rfl rfl rfl (Nat.le_of_ble_eq_true rfl) hl.1 dX9_ripeOf_67 (fun H locs hW hS => ?_)
      refine lv_iload_n (pc := 70) hx hb dX9_ripeOf_70 rfl (lv_at hl 3 rfl) ?_
      exact g_ret (pc := 71) C hW hS rfl dX9_ripeOf_71 (congrArg (fun q => some (Value.int q)) (o_r h).1) (o_r h).2
    · replace h := o_neg hc2 h
      refine lv_iload_n (pc := 16) hx hb dX9_ripeOf_16 rfl (lv_at hl 3 rfl) ?_
      refine lv_iconst (pc := 17) (v := -1) hx hb dX9_ripeOf_17 (by decide) ?_
      refine lv_icmp_ne (pc := 18) (tgt := 66) hx hb dX9_ripeOf_18 (by decide) (fun hc5 => ?_) (fun hc5 => ?_)
      · replace h := o_neg hc5 h
        refine lv_aload_n (pc := 66) hx hb dX9_ripeOf_66 rfl (lv_at hl 0 rfl) ?_
        obtain ⟨σ8, hc6, h⟩ := o_b h
        refine g_virt (pc := 67) (st2 := []) (rest := []) C hW hS (c_X9_laysBack (K := K - 1) (by omega) hc6) mw_X9_234 inR0 Er_0 rfl (hRoom (by omega) (by decide)) rfl rfl rfl (Nat.le_of_ble_eq_true rfl) hl.1 dX9_ripeOf_67 (fun H locs hW hS => ?_)
        refine lv_iload_n (pc := 70) hx hb dX9_ripeOf_70 rfl (lv_at hl 3 rfl) ?_
        exact g_ret (pc := 71) C hW hS rfl dX9_ripeOf_71 (congrArg (fun q => some (Value.int q)) (o_r h).1) (o_r h).2
      · replace h := o_pos hc5 h
        refine lv_aload_n (pc := 21) hx hb dX9_ripeOf_21 rfl (lv_at hl 0 rfl) ?_
        refine lv_iload_n (pc := 22) hx hb dX9_ripeOf_22 rfl (lv_at hl 1 rfl) ?_
        obtain ⟨σ10, hc8, h⟩ := o_b h
        refine g_virt (pc := 23) (st2 := []) (rest := []) C hW hS (c_X9_grow (K := K - 1) (by omega) hc8) mw_X9_216 inR0 Er_0 rfl (hRoom (by omega) (by decide)) rfl rfl rfl (Nat.le_of_ble_eq_true rfl) hl.1 dX9_ripeOf_23 (fun H locs hW hS => ?_)
        refine lv_aload_n (pc := 26) hx hb dX9_ripeOf_26 rfl (lv_at hl 0 rfl) ?_
        refine lv_dup (pc := 27) hx hb dX9_ripeOf_27 rfl ?_
        refine gf_X9_6 (pc := 28) C hW fl_X9_91 dX9_ripeOf_28 ?_
        refine lv_iconst (pc := 31) (v := 1) hx hb dX9_ripeOf_31 (by decide) ?_
        refine lv_iadd (pc := 32) hx hb dX9_ripeOf_32 ?_
        refine pf_X9_6 (pc := 33) C hW hS fl_X9_91 dX9_ripeOf_33 (fun H locs hW hS => ?_)
        refine lv_aload_n (pc := 36) hx hb dX9_ripeOf_36 rfl (lv_at hl 0 rfl) ?_
        refine lv_iload_n (pc := 37) hx hb dX9_ripeOf_37 rfl (lv_at hl 1 rfl) ?_
        refine lv_aload_n (pc := 38) hx hb dX9_ripeOf_38 rfl (lv_at hl 0 rfl) ?_
        refine gf_X9_3 (pc := 39) C hW fl_X9_16 dX9_ripeOf_39 ?_
        refine lv_iconst (pc := 42) (v := 4) hx hb dX9_ripeOf_42 (by decide) ?_
        refine lv_iload_n (pc := 43) hx hb dX9_ripeOf_43 rfl (lv_at hl 1 rfl) ?_
        refine lv_imul (pc := 44) hx hb dX9_ripeOf_44 ?_
        obtain ⟨hc10, h⟩ := o_chk h
        refine ir_ld (pc := 45) (k := 3) C hW (by decide) (by decide) rfl rfl (inb_in hc10) dX9_ripeOf_45 ?_
        obtain ⟨r13, hc11, h⟩ := o_b h
        refine g_virt (pc := 46) (st2 := [.int r13]) (rest := []) C hW hS (c_X9_countsOf (K := K - 1) (by omega) hc11) mw_X9_182 inR0 Er_0 rfl (hRoom (by omega) (by decide)) rfl rfl rfl (Nat.le_of_ble_eq_true rfl) hl.1 dX9_ripeOf_46 (fun H locs hW hS => ?_)
        refine lv_iload_n (pc := 49) hx hb dX9_ripeOf_49 rfl (lv_at hl 2 rfl) ?_
        refine lv_icmp_lt (pc := 50) (tgt := 58) hx hb dX9_ripeOf_50 (by decide) (fun hc13 => ?_) (fun hc13 => ?_)
        · replace h := o_pos hc13 h
          refine lv_iconst (pc := 58) (v := -1) hx hb dX9_ripeOf_58 (by decide) ?_
          exact w_X9_ripeOf_b59 C hK (ms σ10 0 6 ((σ10 0 6) + (1 : Int32))) v1 v2 v4 (-1 : Int32) (f_X9_ripeOf_b9 v1 v2 n) (fun σ v3 v4 {H : Heap} {locs : List Loc} {ls : Array Slot}  hW hS hl h => ih σ v3 v4 hW hS hl h) hW hS (lv_sub hl [0, 1, 2, 4] rfl) h
        · replace h := o_neg hc13 h
          refine lv_iload (pc := 53) hx hb dX9_ripeOf_53 (lv_at hl 4 rfl) ?_
          refine lv_goto (pc := 55) (tgt := 59) hx hb dX9_ripeOf_55 (by decide) ?_
          exact w_X9_ripeOf_b59 C hK (ms σ10 0 6 ((σ10 0 6) + (1 : Int32))) v1 v2 v4 v4 (f_X9_ripeOf_b9 v1 v2 n) (fun σ v3 v4 {H : Heap} {locs : List Loc} {ls : Array Slot}  hW hS hl h => ih σ v3 v4 hW hS hl h) hW hS (lv_sub hl [0, 1, 2, 4] rfl) h

theorem c_X9_ripeOf {K : Nat}  (hK : 5 ≤ K) {σ : Mem} {σf : Mem} {v1 : Int32} {v2 : Int32} {r : Int32} (h : f_X9_ripeOf σ v1 v2 = some (r, σf)) : MC l D (Er ac (z + 80)) inR (z + 80) ac (z, aK, aV) (Ar (z + 80)) yX9_ripeOf cX9_ripeOf 5 (some .int) K [.ref (z + 80 + 0), .int v1, .int v2] σ (some (.int r)) σf := by
  refine MC.of (fun q hq => by have := hq.1; show z ≤ q; omega) (plainFor_of_name (by decide)) (Nat.le_of_ble_eq_true rfl) ?_
  intro p e s m below meth c args C hW ls hl
  replace hl : lv_has ls 5 [(0, .ref (z + 80 + 0)), (1, .int v1), (2, .int v2)] := hl
  have hS : va_S (Ar (z + 80)) s.heap s.heap [] := va_S.rf
  have hx := C.1.1
  have hb := C.1.2.1
  unfold f_X9_ripeOf at h
  refine lv_iconst (pc := 0) (v := -1) hx hb dX9_ripeOf_0 (by decide) ?_
  refine lv_istore_n (pc := 1) (lv' := [(3, .int (-1 : Int32)), (0, .ref (z + 80 + 0)), (1, .int v1), (2, .int v2)]) hx hb dX9_ripeOf_1 rfl hl (by decide) rfl (fun ls hl => ?_)
  refine lv_aload_n (pc := 2) hx hb dX9_ripeOf_2 rfl (lv_at hl 1 rfl) ?_
  obtain ⟨σ2, hc0, h⟩ := o_b h
  refine g_virt (pc := 3) (st2 := []) (rest := []) C hW hS (c_X9_keeps (K := K - 1) (by omega) hc0) mw_X9_231 inR0 Er_0 rfl (hRoom (by omega) (by decide)) rfl rfl rfl (Nat.le_of_ble_eq_true rfl) hl.1 dX9_ripeOf_3 (fun H locs hW hS => ?_)
  refine lv_iconst (pc := 6) (v := 0) hx hb dX9_ripeOf_6 (by decide) ?_
  refine lv_istore (pc := 7) (lv' := [(4, .int (0 : Int32)), (3, .int (-1 : Int32)), (0, .ref (z + 80 + 0)), (1, .int v1), (2, .int v2)]) hx hb dX9_ripeOf_7 hl (by decide) rfl (fun ls hl => ?_)
  exact w_X9_ripeOf_b9 C hK v1 v2 FU σ2 (-1 : Int32) (0 : Int32) hW hS (lv_sub hl [2, 3, 4, 1, 0] rfl) h

end
