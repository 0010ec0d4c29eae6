section
variable {p : Program} {l : Launch} {e : Env} {s : State} {m : MethodId} {args : Array Value} {below : List Frame} {meth : Method} {c : Code} {D : va_G} {ac : Nat → ClassId} {z : Nat} {aK aV : Nat → Nat} {K : Nat}

theorem c_X2_nameToken {K : Nat}  (hK : 6 ≤ K) {σ : Mem} {v1 : Int32} {v2 : Int32} {r : Int32} (h : f_X2_nameToken σ v1 v2 = some r) : MC l D (Ec ac z) inC z ac (z, aK, aV) (Ac z) yX2_nameToken cX2_nameToken 3 (some .int) K [.ref (z + 9), .int v1, .int v2] σ (some (.int r)) σ := by
  refine MC.of (fun q hq => by have := hq.1; show z ≤ q; omega) (plainFor_of_name (by decide)) (Nat.le_of_ble_eq_true rfl) ?_
  intro p e s m below meth c args C hW ls hl
  replace hl : lv_has ls 3 [(0, .ref (z + 9)), (1, .int v1), (2, .int v2)] := hl
  have hS : va_S (Ac z) s.heap s.heap [] := va_S.rf
  have hx := C.1.1
  have hb := C.1.2.1
  unfold f_X2_nameToken at h
  refine lv_aload_n (pc := 0) hx hb dX2_nameToken_0 rfl (lv_at hl 0 rfl) ?_
  refine va_ldcS (pc := 1) hx hb C.1.2.2.2.1 (C.2.2.2.2.1.1 6 (by decide)) dX2_nameToken_1 ?_
  refine lv_iload_n (pc := 3) hx hb dX2_nameToken_3 rfl (lv_at hl 1 rfl) ?_
  refine lv_iload_n (pc := 4) hx hb dX2_nameToken_4 rfl (lv_at hl 2 rfl) ?_
  obtain ⟨r2, hc0, h⟩ := o_b h
  refine g_virt (pc := 5) (st2 := [.int r2]) (rest := []) C hW hS (c_X2_isWord (K := K - 1) (by omega) (by decide) hc0) mw_X2_90 (kin_5 kdc_9) (Ek_5 kdc_9) rfl (hRoom (by omega) (by decide)) rfl rfl rfl (Nat.le_of_ble_eq_true rfl) hl.1 dX2_nameToken_5 (fun H locs hW hS => ?_)
  refine lv_if_eq (pc := 8) (tgt := 13) hx hb dX2_nameToken_8 (by decide) (fun hc2 => ?_) (fun hc2 => ?_)
  · replace h := o_pos hc2 h
    refine lv_aload_n (pc := 13) hx hb dX2_nameToken_13 rfl (lv_at hl 0 rfl) ?_
    refine va_ldcS (pc := 14) hx hb C.1.2.2.2.1 (C.2.2.2.2.1.1 7 (by decide)) dX2_nameToken_14 ?_
    refine lv_iload_n (pc := 16) hx hb dX2_nameToken_16 rfl (lv_at hl 1 rfl) ?_
    refine lv_iload_n (pc := 17) hx hb dX2_nameToken_17 rfl (lv_at hl 2 rfl) ?_
    obtain ⟨r5, hc3, h⟩ := o_b h
    refine g_virt (pc := 18) (st2 := [.int r5]) (rest := []) C hW hS (c_X2_isWord (K := K - 1) (by omega) (by decide) hc3) mw_X2_90 (kin_5 kdc_9) (Ek_5 kdc_9) rfl (hRoom (by omega) (by decide)) rfl rfl rfl (Nat.le_of_ble_eq_true rfl) hl.1 dX2_nameToken_18 (fun H locs hW hS => ?_)
    refine lv_if_eq (pc := 21) (tgt := 27) hx hb dX2_nameToken_21 (by decide) (fun hc5 => ?_) (fun hc5 => ?_)
    · replace h := o_pos hc5 h
      refine lv_aload_n (pc := 27) hx hb dX2_nameToken_27 rfl (lv_at hl 0 rfl) ?_
      refine va_ldcS (pc := 28) hx hb C.1.2.2.2.1 (C.2.2.2.2.1.1 8 (by decide)) dX2_nameToken_28 ?_
      refine lv_iload_n (pc := 30) hx hb dX2_nameToken_30 rfl (lv_at hl 1 rfl) ?_
      refine lv_iload_n (pc := 31) hx hb dX2_nameToken_31 rfl (lv_at hl 2 rfl) ?_
      obtain ⟨r8, hc6, h⟩ := o_b h
      refine g_virt (pc := 32) (st2 := [.int r8]) (rest := []) C hW hS (c_X2_isWord (K := K - 1) (by omega) (by decide) hc6) mw_X2_90 (kin_5 kdc_9) (Ek_5 kdc_9) rfl (hRoom (by omega) (by decide)) rfl rfl rfl (Nat.le_of_ble_eq_true rfl) hl.1 dX2_nameToken_32 (fun H locs hW hS => ?_)
      refine lv_if_eq (pc := 35) (tgt := 41) hx hb dX2_nameToken_35 (by decide) (fun hc8 => ?_) (fun hc8 => ?_)
      · replace h := o_pos hc8 h
        refine lv_aload_n (pc := 41) hx hb dX2_nameToken_41 rfl (lv_at hl 0 rfl) ?_
        refine va_ldcS (pc := 42) hx hb C.1.2.2.2.1 (C.2.2.2.2.1.1 9 (by decide)) dX2_nameToken_42 ?_
        refine lv_iload_n (pc := 44) hx hb dX2_nameToken_44 rfl (lv_at hl 1 rfl) ?_
        refine lv_iload_n (pc := 45) hx hb dX2_nameToken_45 rfl (lv_at hl 2 rfl) ?_
        obtain ⟨r11, hc9, h⟩ := o_b h
        refine g_virt (pc := 46) (st2 := [.int r11]) (rest := []) C hW hS (c_X2_isWord (K := K - 1) (by omega) (by decide) hc9) mw_X2_90 (kin_5 kdc_9) (Ek_5 kdc_9) rfl (hRoom (by omega) (by decide)) rfl rfl rfl (Nat.le_of_ble_eq_true rfl) hl.1 dX2_nameToken_46 (fun H locs hW hS => ?_)
        refine lv_if_eq (pc := 49) (tgt := 55) hx hb dX2_nameToken_49 (by decide) (fun hc11 => ?_) (fun hc11 => ?_)
        · replace h := o_pos hc11 h
          refine lv_aload_n (pc := 55) hx hb dX2_nameToken_55 rfl (lv_at hl 0 rfl) ?_
          refine va_ldcS (pc := 56) hx hb C.1.2.2.2.1 (C.2.2.2.2.1.1 10 (by decide)) dX2_nameToken_56 ?_
          refine lv_iload_n (pc := 58) hx hb dX2_nameToken_58 rfl (lv_at hl 1 rfl) ?_
          refine lv_iload_n (pc := 59) hx hb dX2_nameToken_59 rfl (lv_at hl 2 rfl) ?_
          obtain ⟨r14, hc12, h⟩ := o_b h
          refine g_virt (pc := 60) (st2 := [.int r14]) (rest := []) C hW hS (c_X2_isWord (K := K - 1) (by omega) (by decide) hc12) mw_X2_90 (kin_5 kdc_9) (Ek_5 kdc_9) rfl (hRoom (by omega) (by decide)) rfl rfl rfl (Nat.le_of_ble_eq_true rfl) hl.1 dX2_nameToken_60 (fun H locs hW hS => ?_)
          refine lv_if_eq (pc := 63) (tgt := 69) hx hb dX2_nameToken_63 (by decide) (fun hc14 => ?_) (fun hc14 => ?_)
          · replace h := o_pos hc14 h
            refine lv_aload_n (pc := 69) hx hb dX2_nameToken_69 rfl (lv_at hl 0 rfl) ?_
            refine va_ldcS (pc := 70) hx hb C.1.2.2.2.1 (C.2.2.2.2.1.1 11 (by decide)) dX2_nameToken_70 ?_
            refine lv_iload_n (pc := 72) hx hb dX2_nameToken_72 rfl (lv_at hl 1 rfl) ?_
            refine lv_iload_n (pc := 73) hx hb dX2_nameToken_73 rfl (lv_at hl 2 rfl) ?_
            obtain ⟨r17, hc15, h⟩ := o_b h
            refine g_virt (pc := 74) (st2 := [.int r17]) (rest := []) C hW hS (c_X2_isWord (K := K - 1) (by omega) (by decide) hc15) mw_X2_90 (kin_5 kdc_9) (Ek_5 kdc_9) rfl (hRoom (by omega) (by decide)) rfl rfl rfl (Nat.le_of_ble_eq_true rfl) hl.1 dX2_nameToken_74 (fun H locs hW hS => ?_)
            refine lv_if_eq (pc := 77) (tgt := 85) hx hb dX2_nameToken_77 (by decide) (fun hc17 => ?_) (fun hc17 => ?_)
            · replace h := o_pos hc17 h
              refine lv_bipush (pc := 85) (v := -40) hx hb dX2_nameToken_85 (by decide) ?_
              exact g_ret (pc := 87) C hW hS rfl dX2_nameToken_87 (congrArg (fun q => some (Value.int q)) (Option.some.inj h).symm) rfl
            · replace h := o_neg hc17 h
              refine lv_bipush (pc := 80) (v := -6) hx hb dX2_nameToken_80 (by decide) ?_
              refine lv_goto (pc := 82) (tgt := 87) hx hb dX2_nameToken_82 (by decide) ?_
              exact g_ret (pc := 87) C hW hS rfl dX2_nameToken_87 (congrArg (fun q => some (Value.int q)) (Option.some.inj h).symm) rfl
          · replace h := o_neg hc14 h
            refine lv_bipush (pc := 66) (v := -5) hx hb dX2_nameToken_66 (by decide) ?_
            exact g_ret (pc := 68) C hW hS rfl dX2_nameToken_68 (congrArg (fun q => some (Value.int q)) (Option.some.inj h).symm) rfl
        · replace h := o_neg hc11 h
          refine lv_bipush (pc := 52) (v := -4) hx hb dX2_nameToken_52 (by decide) ?_
          exact g_ret (pc := 54) C hW hS rfl dX2_nameToken_54 (congrArg (fun q => some (Value.int q)) (Option.some.inj h).symm) rfl
      · replace h := o_neg hc8 h
        refine lv_bipush (pc := 38) (v := -3) hx hb dX2_nameToken_38 (by decide) ?_
        exact g_ret (pc := 40) C hW hS rfl dX2_nameToken_40 (congrArg (fun q => some (Value.int q)) (Option.some.inj h).symm) rfl
    · replace h := o_neg hc5 h
      refine lv_bipush (pc := 24) (v := -2) hx hb dX2_nameToken_24 (by decide) ?_
      exact g_ret (pc := 26) C hW hS rfl dX2_nameToken_26 (congrArg (fun q => some (Value.int q)) (Option.some.inj h).symm) rfl
  · replace h := o_neg hc2 h
    refine lv_iconst (pc := 11) (v := -1) hx hb dX2_nameToken_11 (by decide) ?_
    exact g_ret (pc := 12) C hW hS rfl dX2_nameToken_12 (congrArg (fun q => some (Value.int q)) (Option.some.inj h).symm) rfl

theorem c_X2_wordToken {K : Nat}  (hK : 7 ≤ K) {σ : Mem} {v1 : Int32} {v2 : Int32} {r : Int32} (h : f_X2_wordToken σ v1 v2 = some r) : MC l D (Ec ac z) inC z ac (z, aK, aV) (Ac z) yX2_wordToken cX2_wordToken 3 (some .int) K [.ref (z + 9), .int v1, .int v2] σ (some (.int r)) σ := by
  refine MC.of (fun q hq => by have := hq.1; show z ≤ q; omega) (plainFor_of_name (by decide)) (Nat.le_of_ble_eq_true rfl) ?_
  intro p e s m below meth c args C hW ls hl
  replace hl : lv_has ls 3 [(0, .ref (z + 9)), (1, .int v1), (2, .int v2)] := hl
  have hS : va_S (Ac z) s.heap s.heap [] := va_S.rf
  have hx := C.1.1
  have hb := C.1.2.1
  unfold f_X2_wordToken at h
  refine lv_aload_n (pc := 0) hx hb dX2_wordToken_0 rfl (lv_at hl 0 rfl) ?_
  refine va_ldcS (pc := 1) hx hb C.1.2.2.2.1 (C.2.2.2.2.1.1 0 (by decide)) dX2_wordToken_1 ?_
  refine lv_iload_n (pc := 3) hx hb dX2_wordToken_3 rfl (lv_at hl 1 rfl) ?_
  refine lv_iload_n (pc := 4) hx hb dX2_wordToken_4 rfl (lv_at hl 2 rfl) ?_
  obtain ⟨r2, hc0, h⟩ := o_b h
  refine g_virt (pc := 5) (st2 := [.int r2]) (rest := []) C hW hS (c_X2_isWord (K := K - 1) (by omega) (by decide) hc0) mw_X2_90 (kin_5 kdc_9) (Ek_5 kdc_9) rfl (hRoom (by omega) (by decide)) rfl rfl rfl (Nat.le_of_ble_eq_true rfl) hl.1 dX2_wordToken_5 (fun H locs hW hS => ?_)
  refine lv_if_eq (pc := 8) (tgt := 14) hx hb dX2_wordToken_8 (by decide) (fun hc2 => ?_) (fun hc2 => ?_)
  · replace h := o_pos hc2 h
    refine lv_aload_n (pc := 14) hx hb dX2_wordToken_14 rfl (lv_at hl 0 rfl) ?_
    refine va_ldcS (pc := 15) hx hb C.1.2.2.2.1 (C.2.2.2.2.1.1 1 (by decide)) dX2_wordToken_15 ?_
    refine lv_iload_n (pc := 17) hx hb dX2_wordToken_17 rfl (lv_at hl 1 rfl) ?_
    refine lv_iload_n (pc := 18) hx hb dX2_wordToken_18 rfl (lv_at hl 2 rfl) ?_
    obtain ⟨r5, hc3, h⟩ := o_b h
    refine g_virt (pc := 19) (st2 := [.int r5]) (rest := []) C hW hS (c_X2_isWord (K := K - 1) (by omega) (by decide) hc3) mw_X2_90 (kin_5 kdc_9) (Ek_5 kdc_9) rfl (hRoom (by omega) (by decide)) rfl rfl rfl (Nat.le_of_ble_eq_true rfl) hl.1 dX2_wordToken_19 (fun H locs hW hS => ?_)
    refine lv_if_eq (pc := 22) (tgt := 28) hx hb dX2_wordToken_22 (by decide) (fun hc5 => ?_) (fun hc5 => ?_)
    · replace h := o_pos hc5 h
      refine lv_aload_n (pc := 28) hx hb dX2_wordToken_28 rfl (lv_at hl 0 rfl) ?_
      refine va_ldcS (pc := 29) hx hb C.1.2.2.2.1 (C.2.2.2.2.1.1 2 (by decide)) dX2_wordToken_29 ?_
      refine lv_iload_n (pc := 31) hx hb dX2_wordToken_31 rfl (lv_at hl 1 rfl) ?_
      refine lv_iload_n (pc := 32) hx hb dX2_wordToken_32 rfl (lv_at hl 2 rfl) ?_
      obtain ⟨r8, hc6, h⟩ := o_b h
      refine g_virt (pc := 33) (st2 := [.int r8]) (rest := []) C hW hS (c_X2_isWord (K := K - 1) (by omega) (by decide) hc6) mw_X2_90 (kin_5 kdc_9) (Ek_5 kdc_9) rfl (hRoom (by omega) (by decide)) rfl rfl rfl (Nat.le_of_ble_eq_true rfl) hl.1 dX2_wordToken_33 (fun H locs hW hS => ?_)
      refine lv_if_eq (pc := 36) (tgt := 42) hx hb dX2_wordToken_36 (by decide) (fun hc8 => ?_) (fun hc8 => ?_)
      · replace h := o_pos hc8 h
        refine lv_aload_n (pc := 42) hx hb dX2_wordToken_42 rfl (lv_at hl 0 rfl) ?_
        refine va_ldcS (pc := 43) hx hb C.1.2.2.2.1 (C.2.2.2.2.1.1 3 (by decide)) dX2_wordToken_43 ?_
        refine lv_iload_n (pc := 45) hx hb dX2_wordToken_45 rfl (lv_at hl 1 rfl) ?_
        refine lv_iload_n (pc := 46) hx hb dX2_wordToken_46 rfl (lv_at hl 2 rfl) ?_
        obtain ⟨r11, hc9, h⟩ := o_b h
        refine g_virt (pc := 47) (st2 := [.int r11]) (rest := []) C hW hS (c_X2_isWord (K := K - 1) (by omega) (by decide) hc9) mw_X2_90 (kin_5 kdc_9) (Ek_5 kdc_9) rfl (hRoom (by omega) (by decide)) rfl rfl rfl (Nat.le_of_ble_eq_true rfl) hl.1 dX2_wordToken_47 (fun H locs hW hS => ?_)
        refine lv_if_eq (pc := 50) (tgt := 56) hx hb dX2_wordToken_50 (by decide) (fun hc11 => ?_) (fun hc11 => ?_)
        · replace h := o_pos hc11 h
          refine lv_aload_n (pc := 56) hx hb dX2_wordToken_56 rfl (lv_at hl 0 rfl) ?_
          refine va_ldcS (pc := 57) hx hb C.1.2.2.2.1 (C.2.2.2.2.1.1 4 (by decide)) dX2_wordToken_57 ?_
          refine lv_iload_n (pc := 59) hx hb dX2_wordToken_59 rfl (lv_at hl 1 rfl) ?_
          refine lv_iload_n (pc := 60) hx hb dX2_wordToken_60 rfl (lv_at hl 2 rfl) ?_
          obtain ⟨r14, hc12, h⟩ := o_b h
          refine g_virt (pc := 61) (st2 := [.int r14]) (rest := []) C hW hS (c_X2_isWord (K := K - 1) (by omega) (by decide) hc12) mw_X2_90 (kin_5 kdc_9) (Ek_5 kdc_9) rfl (hRoom (by omega) (by decide)) rfl rfl rfl (Nat.le_of_ble_eq_true rfl) hl.1 dX2_wordToken_61 (fun H locs hW hS => ?_)
          refine lv_if_eq (pc := 64) (tgt := 70) hx hb dX2_wordToken_64 (by decide) (fun hc14 => ?_) (fun hc14 => ?_)
          · replace h := o_pos hc14 h
            refine lv_aload_n (pc := 70) hx hb dX2_wordToken_70 rfl (lv_at hl 0 rfl) ?_
            refine va_ldcS (pc := 71) hx hb C.1.2.2.2.1 (C.2.2.2.2.1.1 5 (by decide)) dX2_wordToken_71 ?_
            refine lv_iload_n (pc := 73) hx hb dX2_wordToken_73 rfl (lv_at hl 1 rfl) ?_
            refine lv_iload_n (pc := 74) hx hb dX2_wordToken_74 rfl (lv_at hl 2 rfl) ?_
            obtain ⟨r17, hc15, h⟩ := o_b h
            refine g_virt (pc := 75) (st2 := [.int r17]) (rest := []) C hW hS (c_X2_isWord (K := K - 1) (by omega) (by decide) hc15) mw_X2_90 (kin_5 kdc_9) (Ek_5 kdc_9) rfl (hRoom (by omega) (by decide)) rfl rfl rfl (Nat.le_of_ble_eq_true rfl) hl.1 dX2_wordToken_75 (fun H locs hW hS => ?_)
            refine lv_if_eq (pc := 78) (tgt := 86) hx hb dX2_wordToken_78 (by decide) (fun hc17 => ?_) (fun hc17 => ?_)
            · replace h := o_pos hc17 h
              refine lv_aload_n (pc := 86) hx hb dX2_wordToken_86 rfl (lv_at hl 0 rfl) ?_
              refine lv_iload_n (pc := 87) hx hb dX2_wordToken_87 rfl (lv_at hl 1 rfl) ?_
              refine lv_iload_n (pc := 88) hx hb dX2_wordToken_88 rfl (lv_at hl 2 rfl) ?_
              obtain ⟨r20, hc18, h⟩ := o_b h
              refine g_virt (pc := 89) (st2 := [.int r20]) (rest := []) C hW hS (c_X2_nameToken (K := K - 1) (by omega) hc18) mw_X2_104 (kin_5 kdc_9) (Ek_5 kdc_9) rfl (hRoom (by omega) (by decide)) rfl rfl rfl (Nat.le_of_ble_eq_true rfl) hl.1 dX2_wordToken_89 (fun H locs hW hS => ?_)
              exact g_ret (pc := 92) C hW hS rfl dX2_wordToken_92 (congrArg (fun q => some (Value.int q)) (Option.some.inj h).symm) rfl
            · replace h := o_neg hc17 h
              refine lv_bipush (pc := 81) (v := -17) hx hb dX2_wordToken_81 (by decide) ?_
              refine lv_goto (pc := 83) (tgt := 92) hx hb dX2_wordToken_83 (by decide) ?_
              exact g_ret (pc := 92) C hW hS rfl dX2_wordToken_92 (congrArg (fun q => some (Value.int q)) (Option.some.inj h).symm) rfl
          · replace h := o_neg hc14 h
            refine lv_bipush (pc := 67) (v := -11) hx hb dX2_wordToken_67 (by decide) ?_
            exact g_ret (pc := 69) C hW hS rfl dX2_wordToken_69 (congrArg (fun q => some (Value.int q)) (Option.some.inj h).symm) rfl
        · replace h := o_neg hc11 h
          refine lv_bipush (pc := 53) (v := -10) hx hb dX2_wordToken_53 (by decide) ?_
          exact g_ret (pc := 55) C hW hS rfl dX2_wordToken_55 (congrArg (fun q => some (Value.int q)) (Option.some.inj h).symm) rfl
      · replace h := o_neg hc8 h
        refine lv_bipush (pc := 39) (v := -22) hx hb dX2_wordToken_39 (by decide) ?_
        exact g_ret (pc := 41) C hW hS rfl dX2_wordToken_41 (congrArg (fun q => some (Value.int q)) (Option.some.inj h).symm) rfl
    · replace h := o_neg hc5 h
      refine lv_bipush (pc := 25) (v := -21) hx hb dX2_wordToken_25 (by decide) ?_
      exact g_ret (pc := 27) C hW hS rfl dX2_wordToken_27 (congrArg (fun q => some (Value.int q)) (Option.some.inj h).symm) rfl
  · replace h := o_neg hc2 h
    refine lv_bipush (pc := 11) (v := -20) hx hb dX2_wordToken_11 (by decide) ?_
    exact g_ret (pc := 13) C hW hS rfl dX2_wordToken_13 (congrArg (fun q => some (Value.int q)) (Option.some.inj h).symm) rfl

theorem w_X2_splitTape_b114 (C : CX cX2_splitTape 5 RX2 none D ac p m c s args meth (z, aK, aV) (Ac z)) (hK : 8 ≤ K) {σf : Mem}   (σ : Mem) (v2 : Int32) (v4 : Int32) (s9 : Mem → Int32 → Int32 → Option Mem) (hs9 : ∀ (σ : Mem) (v1 : Int32) (v2 : Int32) {H : Heap} {locs : List Loc} {ls : Array Slot} (_ : WC D ac z σ H) (_ : va_S (Ac z) s.heap H locs) (_ : lv_has ls 5 [(0, .ref (z + 9)), (1, .int v1), (2, .int v2)]) (_ : s9 σ v1 v2 = some σf), W p l e (rma K 0 0) s m args below meth c H locs 0 0 (MQ below (QV D (Ec ac z) inC z none σf (Ac z)) args s 0 0 (Ac z)) (F0 m 9 ls [])) {H : Heap} {locs : List Loc} {ls : Array Slot} (hW : WC D ac z σ H) (hS : va_S (Ac z) s.heap H locs) (hl : lv_has ls 5 [(0, .ref (z + 9)), (2, .int v2), (4, .int v4)]) (h : f_X2_splitTape_b114 s9 σ v2 v4 = some σf) : W p l e (rma K 0 0) s m args below meth c H locs 0 0 (MQ below (QV D (Ec ac z) inC z none σf (Ac z)) args s 0 0 (Ac z)) (F0 m 114 ls []) := by
  have hx := C.1.1
  have hb := C.1.2.1
  unfold f_X2_splitTape_b114 at h
  refine lv_iload (pc := 114) hx hb dX2_splitTape_114 (lv_at hl 2 rfl) ?_
  refine lv_istore_n (pc := 116) (lv' := [(1, .int v4), (0, .ref (z + 9)), (2, .int v2), (4, .int v4)]) hx hb dX2_splitTape_116 rfl hl (by decide) rfl (fun ls hl => ?_)
  refine lv_iinc (pc := 117) (v := (v2 + 1)) (lv' := [(2, .int (v2 + 1)), (1, .int v4), (0, .ref (z + 9)), (4, .int v4)]) hx hb dX2_splitTape_117 hl (k := 2) rfl rfl (by decide) rfl (fun ls hl => ?_)
  refine lv_goto (pc := 120) (tgt := 9) hx hb dX2_splitTape_120 (by decide) ?_
  exact hs9 σ v4 (v2 + 1) hW hS (lv_sub hl [2, 1, 0] rfl) h

theorem w_X2_splitTape_b9 (C : CX cX2_splitTape 5 RX2 none D ac p m c s args meth (z, aK, aV) (Ac z)) (hK : 8 ≤ K) {σf : Mem}    : ∀ (n : Nat) (σ : Mem) (v1 : Int32) (v2 : Int32) {H : Heap} {locs : List Loc} {ls : Array Slot} (hW : WC D ac z σ H) (hS : va_S (Ac z) s.heap H locs) (hl : lv_has ls 5 [(0, .ref (z + 9)), (1, .int v1), (2, .int v2)]) (h : f_X2_splitTape_b9 n σ v1 v2 = some σf), W p l e (rma K 0 0) s m args below meth c H locs 0 0 (MQ below (QV D (Ec ac z) inC z none σf (Ac z)) args s 0 0 (Ac z)) (F0 m 9 ls []) := by
  have hx := C.1.1
  have hb := C.1.2.1
  intro n
  induction n with
  | zero =>
    intro σ v1 v2 H locs ls  hW hS hl h
    cases h
  | succ n ih =>
    intro σ v1 v2 H locs ls  hW hS hl h
    rw [f_X2_splitTape_b9.eq_2] at h
    refine lv_iload_n (pc := 9) hx hb dX2_splitTape_9 rfl (lv_at hl 2 rfl) ?_
    refine lv_sipush (pc := 10) (v := 160) hx hb dX2_splitTape_10 (by decide) ?_
    refine lv_icmp_ge (pc := 13) (tgt := 123) hx hb dX2_splitTape_13 (by decide) (fun hc0 => ?_) (fun hc0 => ?_)
    · replace h := o_pos hc0 h
      refine lv_aload_n (pc := 123) hx hb dX2_splitTape_123 rfl (lv_at hl 0 rfl) ?_
      refine lv_bipush (pc := 124) (v := -41) hx hb dX2_splitTape_124 (by decide) ?_
      refine lv_aload_n (pc := 126) hx hb dX2_splitTape_126 rfl (lv_at hl 0 rfl) ?_
      refine gf_X2_1 (pc := 127) C hW kdc_9 fl_X2_27 dX2_splitTape_127 ?_
      obtain ⟨σ3, hc1, h⟩ := o_b h
      refine g_virt (pc := 130) (st2 := []) (rest := []) C hW hS (c_X2_addToken (K := K - 1) (by omega) hc1) mw_X2_72 (kin_5 kdc_9) (Ek_5 kdc_9) rfl (hRoom (by omega) (by decide)) rfl rfl rfl (Nat.le_of_ble_eq_true rfl) hl.1 dX2_splitTape_130 (fun H locs hW hS => ?_)
      exact g_vret (pc := 133) C hW hS dX2_splitTape_133 rfl (Option.some.inj h).symm
    · replace h := o_neg hc0 h
      refine lv_iload_n (pc := 16) hx hb dX2_splitTape_16 rfl (lv_at hl 1 rfl) ?_
      refine lv_aload_n (pc := 17) hx hb dX2_splitTape_17 rfl (lv_at hl 0 rfl) ?_
      refine gf_X2_1 (pc := 18) C hW kdc_9 fl_X2_27 dX2_splitTape_18 ?_
      refine lv_icmp_ge (pc := 21) (tgt := 123) hx hb dX2_splitTape_21 (by decide) (fun hc3 => ?_) (fun hc3 => ?_)
      · replace h := o_pos hc3 h
        refine lv_aload_n (pc := 123) hx hb dX2_splitTape_123 rfl (lv_at hl 0 rfl) ?_
        refine lv_bipush (pc := 124) (v := -41) hx hb dX2_splitTape_124 (by decide) ?_
        refine lv_aload_n (pc := 126) hx hb dX2_splitTape_126 rfl (lv_at hl 0 rfl) ?_
        refine gf_X2_1 (pc := 127) C hW kdc_9 fl_X2_27 dX2_splitTape_127 ?_
        obtain ⟨σ6, hc4, h⟩ := o_b h
        refine g_virt (pc := 130) (st2 := []) (rest := []) C hW hS (c_X2_addToken (K := K - 1) (by omega) hc4) mw_X2_72 (kin_5 kdc_9) (Ek_5 kdc_9) rfl (hRoom (by omega) (by decide)) rfl rfl rfl (Nat.le_of_ble_eq_true rfl) hl.1 dX2_splitTape_130 (fun H locs hW hS => ?_)
        exact g_vret (pc := 133) C hW hS dX2_splitTape_133 rfl (Option.some.inj h).symm
      · replace h := o_neg hc3 h
        refine lv_aload_n (pc := 24) hx hb dX2_splitTape_24 rfl (lv_at hl 0 rfl) ?_
        refine lv_iload_n (pc := 25) hx hb dX2_splitTape_25 rfl (lv_at hl 1 rfl) ?_
        obtain ⟨r8, hc6, h⟩ := o_b h
        refine g_virt (pc := 26) (st2 := [.int r8]) (rest := []) C hW hS (c_X2_byteAt (K := K - 1) (by omega) hc6) mw_X2_57 (kin_5 kdc_9) (Ek_5 kdc_9) rfl (hRoom (by omega) (by decide)) rfl rfl rfl (Nat.le_of_ble_eq_true rfl) hl.1 dX2_splitTape_26 (fun H locs hW hS => ?_)
        refine lv_istore_n (pc := 29) (lv' := [(3, .int r8), (0, .ref (z + 9)), (1, .int v1), (2, .int v2)]) hx hb dX2_splitTape_29 rfl hl (by decide) rfl (fun ls hl => ?_)
        refine lv_iload_n (pc := 30) hx hb dX2_splitTape_30 rfl (lv_at hl 2 rfl) ?_
        refine lv_iconst (pc := 31) (v := 1) hx hb dX2_splitTape_31 (by decide) ?_
        refine lv_iadd (pc := 32) hx hb dX2_splitTape_32 ?_
        refine lv_istore (pc := 33) (lv' := [(4, .int (v1 + (1 : Int32))), (3, .int r8), (0, .ref (z + 9)), (1, .int v1), (2, .int v2)]) hx hb dX2_splitTape_33 hl (by decide) rfl (fun ls hl => ?_)
        refine lv_iload_n (pc := 35) hx hb dX2_splitTape_35 rfl (lv_at hl 1 rfl) ?_
        refine g_stat (pc := 36) (st2 := [.int (f_X2_isLetter r8)]) (rest := []) C hW hS (c_X2_isLetter (K := K - 1) (by omega) rfl) mw_X2_61 (hRoom (by omega) (by decide)) rfl rfl rfl (Nat.le_of_ble_eq_true rfl) hl.1 dX2_splitTape_36 (fun H locs hW hS => ?_)
        refine lv_if_eq (pc := 39) (tgt := 64) hx hb dX2_splitTape_39 (by decide) (fun hc8 => ?_) (fun hc8 => ?_)
        · replace h := o_pos hc8 h
          refine lv_iload_n (pc := 64) hx hb dX2_splitTape_64 rfl (lv_at hl 1 rfl) ?_
          refine g_stat (pc := 65) (st2 := [.int (f_X2_isDigit r8)]) (rest := []) C hW hS (c_X2_isDigit (K := K - 1) (by omega) rfl) mw_X2_76 (hRoom (by omega) (by decide)) rfl rfl rfl (Nat.le_of_ble_eq_true rfl) hl.1 dX2_splitTape_65 (fun H locs hW hS => ?_)
          refine lv_if_eq (pc := 68) (tgt := 93) hx hb dX2_splitTape_68 (by decide) (fun hc9 => ?_) (fun hc9 => ?_)
          · replace h := o_pos hc9 h
            refine lv_iload_n (pc := 93) hx hb dX2_splitTape_93 rfl (lv_at hl 1 rfl) ?_
            refine lv_bipush (pc := 94) (v := 32) hx hb dX2_splitTape_94 (by decide) ?_
            refine lv_icmp_eq (pc := 96) (tgt := 114) hx hb dX2_splitTape_96 (by decide) (fun hc10 => ?_) (fun hc10 => ?_)
            · replace h := o_pos hc10 h
              exact w_X2_splitTape_b114 C hK σ v2 (v1 + (1 : Int32)) (f_X2_splitTape_b9  n) (fun σ v1 v2 {H : Heap} {locs : List Loc} {ls : Array Slot}  hW hS hl h => ih σ v1 v2 hW hS hl h) hW hS (lv_sub hl [2, 4, 0] rfl) h
            · replace h := o_neg hc10 h
              refine lv_iload_n (pc := 99) hx hb dX2_splitTape_99 rfl (lv_at hl 1 rfl) ?_
              refine lv_bipush (pc := 100) (v := 10) hx hb dX2_splitTape_100 (by decide) ?_
              refine lv_icmp_eq (pc := 102) (tgt := 114) hx hb dX2_splitTape_102 (by decide) (fun hc11 => ?_) (fun hc11 => ?_)
              · replace h := o_pos hc11 h
                exact w_X2_splitTape_b114 C hK σ v2 (v1 + (1 : Int32)) (f_X2_splitTape_b9  n) (fun σ v1 v2 {H : Heap} {locs : List Loc} {ls : Array Slot}  hW hS hl h => ih σ v1 v2 hW hS hl h) hW hS (lv_sub hl [2, 4, 0] rfl) h
              · replace h := o_neg hc11 h
                refine lv_aload_n (pc := 105) hx hb dX2_splitTape_105 rfl (lv_at hl 2 rfl) ?_
                refine lv_iload_n (pc := 106) hx hb dX2_splitTape_106 rfl (lv_at hl 1 rfl) ?_
                refine g_stat (pc := 107) (st2 := [.int (f_X2_signToken r8), .ref (z + 9)]) (rest := [.ref (z + 9)]) C hW hS (c_X2_signToken (K := K - 1) (by omega) rfl) mw_X2_85 (hRoom (by omega) (by decide)) rfl rfl rfl (Nat.le_of_ble_eq_true rfl) hl.1 dX2_splitTape_107 (fun H locs hW hS => ?_)
                refine lv_iload_n (pc := 110) hx hb dX2_splitTape_110 rfl (lv_at hl 3 rfl) ?_
                obtain ⟨σ14, hc12, h⟩ := o_b h
                refine g_virt (pc := 111) (st2 := []) (rest := []) C hW hS (c_X2_addToken (K := K - 1) (by omega) hc12) mw_X2_72 (kin_5 kdc_9) (Ek_5 kdc_9) rfl (hRoom (by omega) (by decide)) rfl rfl rfl (Nat.le_of_ble_eq_true rfl) hl.1 dX2_splitTape_111 (fun H locs hW hS => ?_)
                exact w_X2_splitTape_b114 C hK σ14 v2 (v1 + (1 : Int32)) (f_X2_splitTape_b9  n) (fun σ v1 v2 {H : Heap} {locs : List Loc} {ls : Array Slot}  hW hS hl h => ih σ v1 v2 hW hS hl h) hW hS (lv_sub hl [2, 4, 0] rfl) h
          · replace h := o_neg hc9 h
            refine lv_aload_n (pc := 71) hx hb dX2_splitTape_71 rfl (lv_at hl 2 rfl) ?_
            refine lv_iload_n (pc := 72) hx hb dX2_splitTape_72 rfl (lv_at hl 3 rfl) ?_
            obtain ⟨r16, hc14, h⟩ := o_b h
            refine g_virt (pc := 73) (st2 := [.int r16]) (rest := []) C hW hS (c_X2_endOfNumber (K := K - 1) (by omega) hc14) mw_X2_79 (kin_5 kdc_9) (Ek_5 kdc_9) rfl (hRoom (by omega) (by decide)) rfl rfl rfl (Nat.le_of_ble_eq_true rfl) hl.1 dX2_splitTape_73 (fun H locs hW hS => ?_)
            refine lv_istore (pc := 76) (lv' := [(4, .int r16), (3, .int r8), (0, .ref (z + 9)), (1, .int v1), (2, .int v2)]) hx hb dX2_splitTape_76 hl (by decide) rfl (fun ls hl => ?_)
            refine lv_aload_n (pc := 78) hx hb dX2_splitTape_78 rfl (lv_at hl 2 rfl) ?_
            refine lv_aload_n (pc := 79) hx hb dX2_splitTape_79 rfl (lv_at hl 2 rfl) ?_
            refine lv_iload_n (pc := 80) hx hb dX2_splitTape_80 rfl (lv_at hl 3 rfl) ?_
            refine lv_iload (pc := 81) hx hb dX2_splitTape_81 (lv_at hl 0 rfl) ?_
            obtain ⟨r18, hc16, h⟩ := o_b h
            refine g_virt (pc := 83) (st2 := [.int r18, .ref (z + 9)]) (rest := [.ref (z + 9)]) C hW hS (c_X2_numberToken (K := K - 1) (by omega) hc16) mw_X2_82 (kin_5 kdc_9) (Ek_5 kdc_9) rfl (hRoom (by omega) (by decide)) rfl rfl rfl (Nat.le_of_ble_eq_true rfl) hl.1 dX2_splitTape_83 (fun H locs hW hS => ?_)
            refine lv_iload_n (pc := 86) hx hb dX2_splitTape_86 rfl (lv_at hl 3 rfl) ?_
            obtain ⟨σ20, hc18, h⟩ := o_b h
            refine g_virt (pc := 87) (st2 := []) (rest := []) C hW hS (c_X2_addToken (K := K - 1) (by omega) hc18) mw_X2_72 (kin_5 kdc_9) (Ek_5 kdc_9) rfl (hRoom (by omega) (by decide)) rfl rfl rfl (Nat.le_of_ble_eq_true rfl) hl.1 dX2_splitTape_87 (fun H locs hW hS => ?_)
            refine lv_goto (pc := 90) (tgt := 114) hx hb dX2_splitTape_90 (by decide) ?_
            exact w_X2_splitTape_b114 C hK σ20 v2 r16 (f_X2_splitTape_b9  n) (fun σ v1 v2 {H : Heap} {locs : List Loc} {ls : Array Slot}  hW hS hl h => ih σ v1 v2 hW hS hl h) hW hS (lv_sub hl [2, 4, 0] rfl) h
        · replace h := o_neg hc8 h
          refine lv_aload_n (pc := 42) hx hb dX2_splitTape_42 rfl (lv_at hl 2 rfl) ?_
          refine lv_iload_n (pc := 43) hx hb dX2_splitTape_43 rfl (lv_at hl 3 rfl) ?_
          obtain ⟨r22, hc20, h⟩ := o_b h
          refine g_virt (pc := 44) (st2 := [.int r22]) (rest := []) C hW hS (c_X2_endOfWord (K := K - 1) (by omega) hc20) mw_X2_65 (kin_5 kdc_9) (Ek_5 kdc_9) rfl (hRoom (by omega) (by decide)) rfl rfl rfl (Nat.le_of_ble_eq_true rfl) hl.1 dX2_splitTape_44 (fun H locs hW hS => ?_)
          refine lv_istore (pc := 47) (lv' := [(4, .int r22), (3, .int r8), (0, .ref (z + 9)), (1, .int v1), (2, .int v2)]) hx hb dX2_splitTape_47 hl (by decide) rfl (fun ls hl => ?_)
          refine lv_aload_n (pc := 49) hx hb dX2_splitTape_49 rfl (lv_at hl 2 rfl) ?_
          refine lv_aload_n (pc := 50) hx hb dX2_splitTape_50 rfl (lv_at hl 2 rfl) ?_
          refine lv_iload_n (pc := 51) hx hb dX2_splitTape_51 rfl (lv_at hl 3 rfl) ?_
          refine lv_iload (pc := 52) hx hb dX2_splitTape_52 (lv_at hl 0 rfl) ?_
          obtain ⟨r24, hc22, h⟩ := o_b h
          refine g_virt (pc := 54) (st2 := [.int r24, .ref (z + 9)]) (rest := [.ref (z + 9)]) C hW hS (c_X2_wordToken (K := K - 1) (by omega) hc22) mw_X2_68 (kin_5 kdc_9) (Ek_5 kdc_9) rfl (hRoom (by omega) (by decide)) rfl rfl rfl (Nat.le_of_ble_eq_true rfl) hl.1 dX2_splitTape_54 (fun H locs hW hS => ?_)
          refine lv_iload_n (pc := 57) hx hb dX2_splitTape_57 rfl (lv_at hl 3 rfl) ?_
          obtain ⟨σ26, hc24, h⟩ := o_b h
          refine g_virt (pc := 58) (st2 := []) (rest := []) C hW hS (c_X2_addToken (K := K - 1) (by omega) hc24) mw_X2_72 (kin_5 kdc_9) (Ek_5 kdc_9) rfl (hRoom (by omega) (by decide)) rfl rfl rfl (Nat.le_of_ble_eq_true rfl) hl.1 dX2_splitTape_58 (fun H locs hW hS => ?_)
          refine lv_goto (pc := 61) (tgt := 114) hx hb dX2_splitTape_61 (by decide) ?_
          exact w_X2_splitTape_b114 C hK σ26 v2 r22 (f_X2_splitTape_b9  n) (fun σ v1 v2 {H : Heap} {locs : List Loc} {ls : Array Slot}  hW hS hl h => ih σ v1 v2 hW hS hl h) hW hS (lv_sub hl [2, 4, 0] rfl) h

theorem c_X2_splitTape {K : Nat}  (hK : 8 ≤ K) {σ : Mem} {σf : Mem} (h : f_X2_splitTape σ = some σf) : MC l D (Ec ac z) inC z ac (z, aK, aV) (Ac z) yX2_splitTape cX2_splitTape 5 none K [.ref (z + 9)] σ none σf := by
  refine MC.of (fun q hq => by have := hq.1; show z ≤ q; omega) (plainFor_of_name (by decide)) (Nat.le_of_ble_eq_true rfl) ?_
  intro p e s m below meth c args C hW ls hl
  replace hl : lv_has ls 5 [(0, .ref (z + 9))] := hl
  have hS : va_S (Ac z) s.heap s.heap [] := va_S.rf
  have hx := C.1.1
  have hb := C.1.2.1
  unfold f_X2_splitTape at h
  refine lv_aload_n (pc := 0) hx hb dX2_splitTape_0 rfl (lv_at hl 0 rfl) ?_
  refine lv_iconst (pc := 1) (v := 0) hx hb dX2_splitTape_1 (by decide) ?_
  refine pf_X2_4 (pc := 2) C hW hS kdc_9 fl_X2_54 dX2_splitTape_2 (fun H locs hW hS => ?_)
  refine lv_iconst (pc := 5) (v := 0) hx hb dX2_splitTape_5 (by decide) ?_
  refine lv_istore_n (pc := 6) (lv' := [(1, .int (0 : Int32)), (0, .ref (z + 9))]) hx hb dX2_splitTape_6 rfl hl (by decide) rfl (fun ls hl => ?_)
  refine lv_iconst (pc := 7) (v := 0) hx hb dX2_splitTape_7 (by decide) ?_
  refine lv_istore_n (pc := 8) (lv' := [(2, .int (0 : Int32)), (1, .int (0 : Int32)), (0, .ref (z + 9))]) hx hb dX2_splitTape_8 rfl hl (by decide) rfl (fun ls hl => ?_)
  exact w_X2_splitTape_b9 C hK FU (ms σ 9 4 (0 : Int32)) (0 : Int32) (0 : Int32) hW hS (lv_sub hl [2, 1, 0] rfl) h

theorem w_X2_readOne_b40 (C : CX cX2_readOne 4 RX2 (some .boolean) D ac p m c s args meth (z, aK, aV) (Ac z)) {B : Nat} (hK : B + 3 ≤ K) {r : Int32} {σf : Mem}  (rf_readOr : Mem → Int32 → Option (Int32 × Mem)) (hrf_readOr : ∀ {K : Nat} (_ : B ≤ K) {σ : Mem} {σf : Mem} {v1 : Int32} {r : Int32} (_ : rf_readOr σ v1 = some (r, σf)), MC l D (Ec ac z) inC z ac (z, aK, aV) (Ac z) yX2_readOr cX2_readOr 3 (some .boolean) K [.ref (z + 9), .int v1] σ (some (.int r)) σf) (rf_readOne : Mem → Int32 → Option (Int32 × Mem)) (hrf_readOne : ∀ {K : Nat} (_ : B ≤ K) {σ : Mem} {σf : Mem} {v1 : Int32} {r : Int32} (_ : rf_readOne σ v1 = some (r, σf)), MC l D (Ec ac z) inC z ac (z, aK, aV) (Ac z) yX2_readOne cX2_readOne 4 (some .boolean) K [.ref (z + 9), .int v1] σ (some (.int r)) σf) (σ : Mem) (v1 : Int32) (v2 : Int32)  {H : Heap} {locs : List Loc} {ls : Array Slot} (hW : WC D ac z σ H) (hS : va_S (Ac z) s.heap H locs) (hl : lv_has ls 4 [(0, .ref (z + 9)), (1, .int v1), (2, .int v2)]) (h : f_X2_readOne_b40 rf_readOr rf_readOne σ v1 v2 = some (r, σf)) : W p l e (rma K 0 0) s m args below meth c H locs 0 0 (MQ below (QV D (Ec ac z) inC z (some (.int r)) σf (Ac z)) args s 0 0 (Ac z)) (F0 m 40 ls []) := by
  have hx := C.1.1
  have hb := C.1.2.1
  unfold f_X2_readOne_b40 at h
  refine lv_iload_n (pc := 40) hx hb dX2_readOne_40 rfl (lv_at hl 1 rfl) ?_
  refine lv_iconst (pc := 41) (v := 5) hx hb dX2_readOne_41 (by decide) ?_
  refine lv_icmp_lt (pc := 42) (tgt := 47) hx hb dX2_readOne_42 (by decide) (fun hc7 => ?_) (fun hc7 => ?_)
  · replace h := o_pos hc7 h
    refine lv_aload_n (pc := 47) hx hb dX2_readOne_47 rfl (lv_at hl 0 rfl) ?_
    refine lv_dup (pc := 48) hx hb dX2_readOne_48 rfl ?_
    refine gf_X2_5 (pc := 49) C hW kdc_9 fl_X2_40 dX2_readOne_49 ?_
    refine lv_iconst (pc := 52) (v := 1) hx hb dX2_readOne_52 (by decide) ?_
    refine lv_iadd (pc := 53) hx hb dX2_readOne_53 ?_
    refine pf_X2_5 (pc := 54) C hW hS kdc_9 fl_X2_40 dX2_readOne_54 (fun H locs hW hS => ?_)
    refine lv_iload_n (pc := 57) hx hb dX2_readOne_57 rfl (lv_at hl 2 rfl) ?_
    refine lv_bipush (pc := 58) (v := -30) hx hb dX2_readOne_58 (by decide) ?_
    refine lv_icmp_ne (pc := 60) (tgt := 88) hx hb dX2_readOne_60 (by decide) (fun hc8 => ?_) (fun hc8 => ?_)
    · replace h := o_neg hc8 h
      refine lv_aload_n (pc := 88) hx hb dX2_readOne_88 rfl (lv_at hl 0 rfl) ?_
      refine lv_iload_n (pc := 89) hx hb dX2_readOne_89 rfl (lv_at hl 1 rfl) ?_
      refine lv_iconst (pc := 90) (v := 1) hx hb dX2_readOne_90 (by decide) ?_
      refine lv_iadd (pc := 91) hx hb dX2_readOne_91 ?_
      obtain ⟨r11, σ12, hc9, h⟩ := o_b2 h
      refine g_virt (pc := 92) (st2 := [.int r11]) (rest := []) C hW hS (hrf_readOne (K := K - 1) (by omega) hc9) mw_X2_150 (kin_5 kdc_9) (Ek_5 kdc_9) rfl (hRoom (by omega) (by decide)) rfl rfl rfl (Nat.le_of_ble_eq_true rfl) hl.1 dX2_readOne_92 (fun H locs hW hS => ?_)
      refine lv_istore_n (pc := 95) (lv' := [(3, .int r11), (0, .ref (z + 9)), (1, .int v1), (2, .int v2)]) hx hb dX2_readOne_95 rfl hl (by decide) rfl (fun ls hl => ?_)
      refine lv_aload_n (pc := 96) hx hb dX2_readOne_96 rfl (lv_at hl 1 rfl) ?_
      refine lv_bipush (pc := 97) (v := -18) hx hb dX2_readOne_97 (by decide) ?_
      obtain ⟨σ14, hc12, h⟩ := o_b h
      refine g_virt (pc := 99) (st2 := []) (rest := []) C hW hS (c_X2_emit (K := K - 1) (by omega) hc12) mw_X2_137 (kin_5 kdc_9) (Ek_5 kdc_9) rfl (hRoom (by omega) (by decide)) rfl rfl rfl (Nat.le_of_ble_eq_true rfl) hl.1 dX2_readOne_99 (fun H locs hW hS => ?_)
      refine lv_iload_n (pc := 102) hx hb dX2_readOne_102 rfl (lv_at hl 0 rfl) ?_
      obtain ⟨hb0, h⟩ := o_chk h
      exact g_ret (pc := 103) C hW hS (nar_b hb0) dX2_readOne_103 (congrArg (fun q => some (Value.int q)) (o_r h).1) (o_r h).2
    · replace h := o_pos hc8 h
      refine lv_aload_n (pc := 63) hx hb dX2_readOne_63 rfl (lv_at hl 0 rfl) ?_
      refine lv_iload_n (pc := 64) hx hb dX2_readOne_64 rfl (lv_at hl 1 rfl) ?_
      refine lv_iconst (pc := 65) (v := 1) hx hb dX2_readOne_65 (by decide) ?_
      refine lv_iadd (pc := 66) hx hb dX2_readOne_66 ?_
      obtain ⟨r16, σ17, hc14, h⟩ := o_b2 h
      refine g_virt (pc := 67) (st2 := [.int r16]) (rest := []) C hW hS (hrf_readOr (K := K - 1) (by omega) hc14) mw_X2_131 (kin_5 kdc_9) (Ek_5 kdc_9) rfl (hRoom (by omega) (by decide)) rfl rfl rfl (Nat.le_of_ble_eq_true rfl) hl.1 dX2_readOne_67 (fun H locs hW hS => ?_)
      refine lv_if_eq (pc := 70) (tgt := 86) hx hb dX2_readOne_70 (by decide) (fun hc17 => ?_) (fun hc17 => ?_)
      · replace h := o_pos hc17 h
        refine lv_iconst (pc := 86) (v := 0) hx hb dX2_readOne_86 (by decide) ?_
        exact g_ret (pc := 87) C hW hS rfl dX2_readOne_87 (congrArg (fun q => some (Value.int q)) (o_r h).1) (o_r h).2
      · replace h := o_neg hc17 h
        refine lv_aload_n (pc := 73) hx hb dX2_readOne_73 rfl (lv_at hl 0 rfl) ?_
        refine lv_bipush (pc := 74) (v := -31) hx hb dX2_readOne_74 (by decide) ?_
        obtain ⟨r20, σ21, hc18, h⟩ := o_b2 h
        refine g_virt (pc := 76) (st2 := [.int r20]) (rest := []) C hW hS (c_X2_skip (K := K - 1) (by omega) hc18) mw_X2_128 (kin_5 kdc_9) (Ek_5 kdc_9) rfl (hRoom (by omega) (by decide)) rfl rfl rfl (Nat.le_of_ble_eq_true rfl) hl.1 dX2_readOne_76 (fun H locs hW hS => ?_)
        refine lv_if_eq (pc := 79) (tgt := 86) hx hb dX2_readOne_79 (by decide) (fun hc21 => ?_) (fun hc21 => ?_)
        · replace h := o_pos hc21 h
          refine lv_iconst (pc := 86) (v := 0) hx hb dX2_readOne_86 (by decide) ?_
          exact g_ret (pc := 87) C hW hS rfl dX2_readOne_87 (congrArg (fun q => some (Value.int q)) (o_r h).1) (o_r h).2
        · replace h := o_neg hc21 h
          refine lv_iconst (pc := 82) (v := 1) hx hb dX2_readOne_82 (by decide) ?_
          refine lv_goto (pc := 83) (tgt := 87) hx hb dX2_readOne_83 (by decide) ?_
          exact g_ret (pc := 87) C hW hS rfl dX2_readOne_87 (congrArg (fun q => some (Value.int q)) (o_r h).1) (o_r h).2
  · replace h := o_neg hc7 h
    refine lv_iconst (pc := 45) (v := 0) hx hb dX2_readOne_45 (by decide) ?_
    exact g_ret (pc := 46) C hW hS rfl dX2_readOne_46 (congrArg (fun q => some (Value.int q)) (o_r h).1) (o_r h).2

theorem c_X2_readOne {K : Nat} {B : Nat} (rf_readOr : Mem → Int32 → Option (Int32 × Mem)) (hrf_readOr : ∀ {K : Nat} (_ : B ≤ K) {σ : Mem} {σf : Mem} {v1 : Int32} {r : Int32} (_ : rf_readOr σ v1 = some (r, σf)), MC l D (Ec ac z) inC z ac (z, aK, aV) (Ac z) yX2_readOr cX2_readOr 3 (some .boolean) K [.ref (z + 9), .int v1] σ (some (.int r)) σf) (rf_readOne : Mem → Int32 → Option (Int32 × Mem)) (hrf_readOne : ∀ {K : Nat} (_ : B ≤ K) {σ : Mem} {σf : Mem} {v1 : Int32} {r : Int32} (_ : rf_readOne σ v1 = some (r, σf)), MC l D (Ec ac z) inC z ac (z, aK, aV) (Ac z) yX2_readOne cX2_readOne 4 (some .boolean) K [.ref (z + 9), .int v1] σ (some (.int r)) σf) (hK : B + 3 ≤ K) {σ : Mem} {σf : Mem} {v1 : Int32} {r : Int32} (h : f_X2_readOne rf_readOr rf_readOne σ v1 = some (r, σf)) : MC l D (Ec ac z) inC z ac (z, aK, aV) (Ac z) yX2_readOne cX2_readOne 4 (some .boolean) K [.ref (z + 9), .int v1] σ (some (.int r)) σf := by
  refine MC.of (fun q hq => by have := hq.1; show z ≤ q; omega) (plainFor_of_name (by decide)) (Nat.le_of_ble_eq_true rfl) ?_
  intro p e s m below meth c args C hW ls hl
  replace hl : lv_has ls 4 [(0, .ref (z + 9)), (1, .int v1)] := hl
  have hS : va_S (Ac z) s.heap s.heap [] := va_S.rf
  have hx := C.1.1
  have hb := C.1.2.1
  unfold f_X2_readOne at h
  refine lv_aload_n (pc := 0) hx hb dX2_readOne_0 rfl (lv_at hl 0 rfl) ?_
  obtain ⟨r2, hc0, h⟩ := o_b h
  refine g_virt (pc := 1) (st2 := [.int r2]) (rest := []) C hW hS (c_X2_current (K := K - 1) (by omega) hc0) mw_X2_50 (kin_5 kdc_9) (Ek_5 kdc_9) rfl (hRoom (by omega) (by decide)) rfl rfl rfl (Nat.le_of_ble_eq_true rfl) hl.1 dX2_readOne_1 (fun H locs hW hS => ?_)
  refine lv_istore_n (pc := 4) (lv' := [(2, .int r2), (0, .ref (z + 9)), (1, .int v1)]) hx hb dX2_readOne_4 rfl hl (by decide) rfl (fun ls hl => ?_)
  refine lv_iload_n (pc := 5) hx hb dX2_readOne_5 rfl (lv_at hl 0 rfl) ?_
  refine lv_bipush (pc := 6) (v := -6) hx hb dX2_readOne_6 (by decide) ?_
  refine lv_icmp_lt (pc := 8) (tgt := 28) hx hb dX2_readOne_8 (by decide) (fun hc2 => ?_) (fun hc2 => ?_)
  · replace h := o_pos hc2 h
    refine lv_iload_n (pc := 28) hx hb dX2_readOne_28 rfl (lv_at hl 0 rfl) ?_
    refine lv_bipush (pc := 29) (v := -15) hx hb dX2_readOne_29 (by decide) ?_
    refine lv_icmp_eq (pc := 31) (tgt := 40) hx hb dX2_readOne_31 (by decide) (fun hc3 => ?_) (fun hc3 => ?_)
    · replace h := o_pos hc3 h
      exact w_X2_readOne_b40 C hK rf_readOr hrf_readOr rf_readOne hrf_readOne σ v1 r2 hW hS (lv_sub hl [1, 2, 0] rfl) h
    · replace h := o_neg hc3 h
      refine lv_iload_n (pc := 34) hx hb dX2_readOne_34 rfl (lv_at hl 0 rfl) ?_
      refine lv_bipush (pc := 35) (v := -30) hx hb dX2_readOne_35 (by decide) ?_
      refine lv_icmp_ne (pc := 37) (tgt := 45) hx hb dX2_readOne_37 (by decide) (fun hc4 => ?_) (fun hc4 => ?_)
      · replace h := o_neg hc4 h
        refine lv_iconst (pc := 45) (v := 0) hx hb dX2_readOne_45 (by decide) ?_
        exact g_ret (pc := 46) C hW hS rfl dX2_readOne_46 (congrArg (fun q => some (Value.int q)) (o_r h).1) (o_r h).2
      · replace h := o_pos hc4 h
        exact w_X2_readOne_b40 C hK rf_readOr hrf_readOr rf_readOne hrf_readOne σ v1 r2 hW hS (lv_sub hl [1, 2, 0] rfl) h
  · replace h := o_neg hc2 h
    refine lv_aload_n (pc := 11) hx hb dX2_readOne_11 rfl (lv_at hl 1 rfl) ?_
    refine lv_iload_n (pc := 12) hx hb dX2_readOne_12 rfl (lv_at hl 0 rfl) ?_
    obtain ⟨σ7, hc5, h⟩ := o_b h
    refine g_virt (pc := 13) (st2 := []) (rest := []) C hW hS (c_X2_emit (K := K - 1) (by omega) hc5) mw_X2_137 (kin_5 kdc_9) (Ek_5 kdc_9) rfl (hRoom (by omega) (by decide)) rfl rfl rfl (Nat.le_of_ble_eq_true rfl) hl.1 dX2_readOne_13 (fun H locs hW hS => ?_)
    refine lv_aload_n (pc := 16) hx hb dX2_readOne_16 rfl (lv_at hl 1 rfl) ?_
    refine lv_dup (pc := 17) hx hb dX2_readOne_17 rfl ?_
    refine gf_X2_5 (pc := 18) C hW kdc_9 fl_X2_40 dX2_readOne_18 ?_
    refine lv_iconst (pc := 21) (v := 1) hx hb dX2_readOne_21 (by decide) ?_
    refine lv_iadd (pc := 22) hx hb dX2_readOne_22 ?_
    refine pf_X2_5 (pc := 23) C hW hS kdc_9 fl_X2_40 dX2_readOne_23 (fun H locs hW hS => ?_)
    refine lv_iconst (pc := 26) (v := 1) hx hb dX2_readOne_26 (by decide) ?_
    exact g_ret (pc := 27) C hW hS rfl dX2_readOne_27 (congrArg (fun q => some (Value.int q)) (o_r h).1) (o_r h).2

theorem w_X2_readTerm_b12 (C : CX cX2_readTerm 3 RX2 (some .boolean) D ac p m c s args meth (z, aK, aV) (Ac z)) {B : Nat} (hK : B + 4 ≤ K) {r : Int32} {σf : Mem}  (rf_readOne : Mem → Int32 → Option (Int32 × Mem)) (hrf_readOne : ∀ {K : Nat} (_ : B + 3 ≤ K) {σ : Mem} {σf : Mem} {v1 : Int32} {r : Int32} (_ : rf_readOne σ v1 = some (r, σf)), MC l D (Ec ac z) inC z ac (z, aK, aV) (Ac z) yX2_readOne cX2_readOne 4 (some .boolean) K [.ref (z + 9), .int v1] σ (some (.int r)) σf) (v1 : Int32)  : ∀ (n : Nat) (σ : Mem) (v2 : Int32) {H : Heap} {locs : List Loc} {ls : Array Slot} (hW : WC D ac z σ H) (hS : va_S (Ac z) s.heap H locs) (hl : lv_has ls 3 [(0, .ref (z + 9)), (1, .int v1), (2, .int v2)]) (h : f_X2_readTerm_b12 rf_readOne v1 n σ v2 = some (r, σf)), W p l e (rma K 0 0) s m args below meth c H locs 0 0 (MQ below (QV D (Ec ac z) inC z (some (.int r)) σf (Ac z)) args s 0 0 (Ac z)) (F0 m 12 ls []) := by
  have hx := C.1.1
  have hb := C.1.2.1
  intro n
  induction n with
  | zero =>
    intro σ v2 H locs ls  hW hS hl h
    cases h
  | succ n ih =>
    intro σ v2 H locs ls  hW hS hl h
    rw [f_X2_readTerm_b12.eq_2] at h
    refine lv_iload_n (pc := 12) hx hb dX2_readTerm_12 rfl (lv_at hl 2 rfl) ?_
    refine lv_sipush (pc := 13) (v := 160) hx hb dX2_readTerm_13 (by decide) ?_
    refine lv_icmp_ge (pc := 16) (tgt := 50) hx hb dX2_readTerm_16 (by decide) (fun hc4 => ?_) (fun hc4 => ?_)
    · replace h := o_pos hc4 h
      refine lv_iconst (pc := 50) (v := 1) hx hb dX2_readTerm_50 (by decide) ?_
      exact g_ret (pc := 51) C hW hS rfl dX2_readTerm_51 (congrArg (fun q => some (Value.int q)) (o_r h).1) (o_r h).2
    · replace h := o_neg hc4 h
      refine lv_aload_n (pc := 19) hx hb dX2_readTerm_19 rfl (lv_at hl 0 rfl) ?_
      refine lv_bipush (pc := 20) (v := -16) hx hb dX2_readTerm_20 (by decide) ?_
      obtain ⟨r7, σ8, hc5, h⟩ := o_b2 h
      refine g_virt (pc := 22) (st2 := [.int r7]) (rest := []) C hW hS (c_X2_skip (K := K - 1) (by omega) hc5) mw_X2_128 (kin_5 kdc_9) (Ek_5 kdc_9) rfl (hRoom (by omega) (by decide)) rfl rfl rfl (Nat.le_of_ble_eq_true rfl) hl.1 dX2_readTerm_22 (fun H locs hW hS => ?_)
      refine lv_if_eq (pc := 25) (tgt := 50) hx hb dX2_readTerm_25 (by decide) (fun hc8 => ?_) (fun hc8 => ?_)
      · replace h := o_pos hc8 h
        refine lv_iconst (pc := 50) (v := 1) hx hb dX2_readTerm_50 (by decide) ?_
        exact g_ret (pc := 51) C hW hS rfl dX2_readTerm_51 (congrArg (fun q => some (Value.int q)) (o_r h).1) (o_r h).2
      · replace h := o_neg hc8 h
        refine lv_aload_n (pc := 28) hx hb dX2_readTerm_28 rfl (lv_at hl 0 rfl) ?_
        refine lv_iload_n (pc := 29) hx hb dX2_readTerm_29 rfl (lv_at hl 1 rfl) ?_
        obtain ⟨r11, σ12, hc9, h⟩ := o_b2 h
        refine g_virt (pc := 30) (st2 := [.int r11]) (rest := []) C hW hS (hrf_readOne (K := K - 1) (by omega) hc9) mw_X2_150 (kin_5 kdc_9) (Ek_5 kdc_9) rfl (hRoom (by omega) (by decide)) rfl rfl rfl (Nat.le_of_ble_eq_true rfl) hl.1 dX2_readTerm_30 (fun H locs hW hS => ?_)
        refine lv_if_ne (pc := 33) (tgt := 38) hx hb dX2_readTerm_33 (by decide) (fun hc12 => ?_) (fun hc12 => ?_)
        · replace h := o_neg hc12 h
          refine lv_aload_n (pc := 38) hx hb dX2_readTerm_38 rfl (lv_at hl 0 rfl) ?_
          refine lv_bipush (pc := 39) (v := -16) hx hb dX2_readTerm_39 (by decide) ?_
          obtain ⟨σ15, hc13, h⟩ := o_b h
          refine g_virt (pc := 41) (st2 := []) (rest := []) C hW hS (c_X2_emit (K := K - 1) (by omega) hc13) mw_X2_137 (kin_5 kdc_9) (Ek_5 kdc_9) rfl (hRoom (by omega) (by decide)) rfl rfl rfl (Nat.le_of_ble_eq_true rfl) hl.1 dX2_readTerm_41 (fun H locs hW hS => ?_)
          refine lv_iinc (pc := 44) (v := (v2 + 1)) (lv' := [(2, .int (v2 + 1)), (0, .ref (z + 9)), (1, .int v1)]) hx hb dX2_readTerm_44 hl (k := 2) rfl rfl (by decide) rfl (fun ls hl => ?_)
          refine lv_goto (pc := 47) (tgt := 12) hx hb dX2_readTerm_47 (by decide) ?_
          exact ih σ15 (v2 + 1) hW hS (lv_sub hl [1, 2, 0] rfl) h
        · replace h := o_pos hc12 h
          refine lv_iconst (pc := 36) (v := 0) hx hb dX2_readTerm_36 (by decide) ?_
          exact g_ret (pc := 37) C hW hS rfl dX2_readTerm_37 (congrArg (fun q => some (Value.int q)) (o_r h).1) (o_r h).2

theorem c_X2_readTerm {K : Nat} {B : Nat} (rf_readOne : Mem → Int32 → Option (Int32 × Mem)) (hrf_readOne : ∀ {K : Nat} (_ : B + 3 ≤ K) {σ : Mem} {σf : Mem} {v1 : Int32} {r : Int32} (_ : rf_readOne σ v1 = some (r, σf)), MC l D (Ec ac z) inC z ac (z, aK, aV) (Ac z) yX2_readOne cX2_readOne 4 (some .boolean) K [.ref (z + 9), .int v1] σ (some (.int r)) σf) (hK : B + 4 ≤ K) {σ : Mem} {σf : Mem} {v1 : Int32} {r : Int32} (h : f_X2_readTerm rf_readOne σ v1 = some (r, σf)) : MC l D (Ec ac z) inC z ac (z, aK, aV) (Ac z) yX2_readTerm cX2_readTerm 3 (some .boolean) K [.ref (z + 9), .int v1] σ (some (.int r)) σf := by
  refine MC.of (fun q hq => by have := hq.1; show z ≤ q; omega) (plainFor_of_name (by decide)) (Nat.le_of_ble_eq_true rfl) ?_
  intro p e s m below meth c args C hW ls hl
  replace hl : lv_has ls 3 [(0, .ref (z + 9)), (1, .int v1)] := hl
  have hS : va_S (Ac z) s.heap s.heap [] := va_S.rf
  have hx := C.1.1
  have hb := C.1.2.1
  unfold f_X2_readTerm at h
  refine lv_aload_n (pc := 0) hx hb dX2_readTerm_0 rfl (lv_at hl 0 rfl) ?_
  refine lv_iload_n (pc := 1) hx hb dX2_readTerm_1 rfl (lv_at hl 1 rfl) ?_
  obtain ⟨r2, σ3, hc0, h⟩ := o_b2 h
  refine g_virt (pc := 2) (st2 := [.int r2]) (rest := []) C hW hS (hrf_readOne (K := K - 1) (by omega) hc0) mw_X2_150 (kin_5 kdc_9) (Ek_5 kdc_9) rfl (hRoom (by omega) (by decide)) rfl rfl rfl (Nat.le_of_ble_eq_true rfl) hl.1 dX2_readTerm_2 (fun H locs hW hS => ?_)
  refine lv_if_ne (pc := 5) (tgt := 10) hx hb dX2_readTerm_5 (by decide) (fun hc3 => ?_) (fun hc3 => ?_)
  · replace h := o_neg hc3 h
    refine lv_iconst (pc := 10) (v := 0) hx hb dX2_readTerm_10 (by decide) ?_
    refine lv_istore_n (pc := 11) (lv' := [(2, .int (0 : Int32)), (0, .ref (z + 9)), (1, .int v1)]) hx hb dX2_readTerm_11 rfl hl (by decide) rfl (fun ls hl => ?_)
    exact w_X2_readTerm_b12 C hK rf_readOne hrf_readOne v1 FU σ3 (0 : Int32) hW hS (lv_sub hl [1, 2, 0] rfl) h
  · replace h := o_pos hc3 h
    refine lv_iconst (pc := 8) (v := 0) hx hb dX2_readTerm_8 (by decide) ?_
    exact g_ret (pc := 9) C hW hS rfl dX2_readTerm_9 (congrArg (fun q => some (Value.int q)) (o_r h).1) (o_r h).2

theorem w_X2_readSum_b38 (C : CX cX2_readSum 4 RX2 (some .boolean) D ac p m c s args meth (z, aK, aV) (Ac z)) {B : Nat} (hK : B + 5 ≤ K) {r : Int32} {σf : Mem}  (rf_readTerm : Mem → Int32 → Option (Int32 × Mem)) (hrf_readTerm : ∀ {K : Nat} (_ : B + 4 ≤ K) {σ : Mem} {σf : Mem} {v1 : Int32} {r : Int32} (_ : rf_readTerm σ v1 = some (r, σf)), MC l D (Ec ac z) inC z ac (z, aK, aV) (Ac z) yX2_readTerm cX2_readTerm 3 (some .boolean) K [.ref (z + 9), .int v1] σ (some (.int r)) σf) (σ : Mem) (v1 : Int32) (v2 : Int32) (v3 : Int32) (s12 : Mem → Int32 → Option (Int32 × Mem)) (hs12 : ∀ (σ : Mem) (v2 : Int32) {H : Heap} {locs : List Loc} {ls : Array Slot} (_ : WC D ac z σ H) (_ : va_S (Ac z) s.heap H locs) (_ : lv_has ls 4 [(0, .ref (z + 9)), (1, .int v1), (2, .int v2)]) (_ : s12 σ v2 = some (r, σf)), W p l e (rma K 0 0) s m args below meth c H locs 0 0 (MQ below (QV D (Ec ac z) inC z (some (.int r)) σf (Ac z)) args s 0 0 (Ac z)) (F0 m 12 ls [])) {H : Heap} {locs : List Loc} {ls : Array Slot} (hW : WC D ac z σ H) (hS : va_S (Ac z) s.heap H locs) (hl : lv_has ls 4 [(0, .ref (z + 9)), (1, .int v1), (2, .int v2), (3, .int v3)]) (h : f_X2_readSum_b38 rf_readTerm s12 σ v1 v2 v3 = some (r, σf)) : W p l e (rma K 0 0) s m args below meth c H locs 0 0 (MQ below (QV D (Ec ac z) inC z (some (.int r)) σf (Ac z)) args s 0 0 (Ac z)) (F0 m 38 ls []) := by
  have hx := C.1.1
  have hb := C.1.2.1
  unfold f_X2_readSum_b38 at h
  refine lv_aload_n (pc := 38) hx hb dX2_readSum_38 rfl (lv_at hl 0 rfl) ?_
  refine lv_dup (pc := 39) hx hb dX2_readSum_39 rfl ?_
  refine gf_X2_5 (pc := 40) C hW kdc_9 fl_X2_40 dX2_readSum_40 ?_
  refine lv_iconst (pc := 43) (v := 1) hx hb dX2_readSum_43 (by decide) ?_
  refine lv_iadd (pc := 44) hx hb dX2_readSum_44 ?_
  refine pf_X2_5 (pc := 45) C hW hS kdc_9 fl_X2_40 dX2_readSum_45 (fun H locs hW hS => ?_)
  refine lv_aload_n (pc := 48) hx hb dX2_readSum_48 rfl (lv_at hl 0 rfl) ?_
  refine lv_iload_n (pc := 49) hx hb dX2_readSum_49 rfl (lv_at hl 1 rfl) ?_
  obtain ⟨r11, σ12, hc9, h⟩ := o_b2 h
  refine g_virt (pc := 50) (st2 := [.int r11]) (rest := []) C hW hS (hrf_readTerm (K := K - 1) (by omega) hc9) mw_X2_147 (kin_5 kdc_9) (Ek_5 kdc_9) rfl (hRoom (by omega) (by decide)) rfl rfl rfl (Nat.le_of_ble_eq_true rfl) hl.1 dX2_readSum_50 (fun H locs hW hS => ?_)
  refine lv_if_ne (pc := 53) (tgt := 58) hx hb dX2_readSum_53 (by decide) (fun hc12 => ?_) (fun hc12 => ?_)
  · replace h := o_neg hc12 h
    refine lv_aload_n (pc := 58) hx hb dX2_readSum_58 rfl (lv_at hl 0 rfl) ?_
    refine lv_iload_n (pc := 59) hx hb dX2_readSum_59 rfl (lv_at hl 3 rfl) ?_
    obtain ⟨σ15, hc13, h⟩ := o_b h
    refine g_virt (pc := 60) (st2 := []) (rest := []) C hW hS (c_X2_emit (K := K - 1) (by omega) hc13) mw_X2_137 (kin_5 kdc_9) (Ek_5 kdc_9) rfl (hRoom (by omega) (by decide)) rfl rfl rfl (Nat.le_of_ble_eq_true rfl) hl.1 dX2_readSum_60 (fun H locs hW hS => ?_)
    refine lv_iinc (pc := 63) (v := (v2 + 1)) (lv' := [(2, .int (v2 + 1)), (0, .ref (z + 9)), (1, .int v1), (3, .int v3)]) hx hb dX2_readSum_63 hl (k := 2) rfl rfl (by decide) rfl (fun ls hl => ?_)
    refine lv_goto (pc := 66) (tgt := 12) hx hb dX2_readSum_66 (by decide) ?_
    exact hs12 σ15 (v2 + 1) hW hS (lv_sub hl [1, 2, 0] rfl) h
  · replace h := o_pos hc12 h
    refine lv_iconst (pc := 56) (v := 0) hx hb dX2_readSum_56 (by decide) ?_
    exact g_ret (pc := 57) C hW hS rfl dX2_readSum_57 (congrArg (fun q => some (Value.int q)) (o_r h).1) (o_r h).2

theorem w_X2_readSum_b12 (C : CX cX2_readSum 4 RX2 (some .boolean) D ac p m c s args meth (z, aK, aV) (Ac z)) {B : Nat} (hK : B + 5 ≤ K) {r : Int32} {σf : Mem}  (rf_readTerm : Mem → Int32 → Option (Int32 × Mem)) (hrf_readTerm : ∀ {K : Nat} (_ : B + 4 ≤ K) {σ : Mem} {σf : Mem} {v1 : Int32} {r : Int32} (_ : rf_readTerm σ v1 = some (r, σf)), MC l D (Ec ac z) inC z ac (z, aK, aV) (Ac z) yX2_readTerm cX2_readTerm 3 (some .boolean) K [.ref (z + 9), .int v1] σ (some (.int r)) σf) (v1 : Int32)  : ∀ (n : Nat) (σ : Mem) (v2 : Int32) {H : Heap} {locs : List Loc} {ls : Array Slot} (hW : WC D ac z σ H) (hS : va_S (Ac z) s.heap H locs) (hl : lv_has ls 4 [(0, .ref (z + 9)), (1, .int v1), (2, .int v2)]) (h : f_X2_readSum_b12 rf_readTerm v1 n σ v2 = some (r, σf)), W p l e (rma K 0 0) s m args below meth c H locs 0 0 (MQ below (QV D (Ec ac z) inC z (some (.int r)) σf (Ac z)) args s 0 0 (Ac z)) (F0 m 12 ls []) := by
  have hx := C.1.1
  have hb := C.1.2.1
  intro n
  induction n with
  | zero =>
    intro σ v2 H locs ls  hW hS hl h
    cases h
  | succ n ih =>
    intro σ v2 H locs ls  hW hS hl h
    rw [f_X2_readSum_b12.eq_2] at h
    refine lv_iload_n (pc := 12) hx hb dX2_readSum_12 rfl (lv_at hl 2 rfl) ?_
    refine lv_sipush (pc := 13) (v := 160) hx hb dX2_readSum_13 (by decide) ?_
    refine lv_icmp_ge (pc := 16) (tgt := 69) hx hb dX2_readSum_16 (by decide) (fun hc4 => ?_) (fun hc4 => ?_)
    · replace h := o_pos hc4 h
      refine lv_iconst (pc := 69) (v := 1) hx hb dX2_readSum_69 (by decide) ?_
      exact g_ret (pc := 70) C hW hS rfl dX2_readSum_70 (congrArg (fun q => some (Value.int q)) (o_r h).1) (o_r h).2
    · replace h := o_neg hc4 h
      refine lv_aload_n (pc := 19) hx hb dX2_readSum_19 rfl (lv_at hl 0 rfl) ?_
      obtain ⟨r7, hc5, h⟩ := o_b h
      refine g_virt (pc := 20) (st2 := [.int r7]) (rest := []) C hW hS (c_X2_current (K := K - 1) (by omega) hc5) mw_X2_50 (kin_5 kdc_9) (Ek_5 kdc_9) rfl (hRoom (by omega) (by decide)) rfl rfl rfl (Nat.le_of_ble_eq_true rfl) hl.1 dX2_readSum_20 (fun H locs hW hS => ?_)
      refine lv_istore_n (pc := 23) (lv' := [(3, .int r7), (0, .ref (z + 9)), (1, .int v1), (2, .int v2)]) hx hb dX2_readSum_23 rfl hl (by decide) rfl (fun ls hl => ?_)
      refine lv_iload_n (pc := 24) hx hb dX2_readSum_24 rfl (lv_at hl 0 rfl) ?_
      refine lv_bipush (pc := 25) (v := -14) hx hb dX2_readSum_25 (by decide) ?_
      refine lv_icmp_eq (pc := 27) (tgt := 38) hx hb dX2_readSum_27 (by decide) (fun hc7 => ?_) (fun hc7 => ?_)
      · replace h := o_pos hc7 h
        exact w_X2_readSum_b38 C hK rf_readTerm hrf_readTerm σ v1 v2 r7 (f_X2_readSum_b12 rf_readTerm v1 n) (fun σ v2 {H : Heap} {locs : List Loc} {ls : Array Slot}  hW hS hl h => ih σ v2 hW hS hl h) hW hS (lv_sub hl [1, 2, 3, 0] rfl) h
      · replace h := o_neg hc7 h
        refine lv_iload_n (pc := 30) hx hb dX2_readSum_30 rfl (lv_at hl 0 rfl) ?_
        refine lv_bipush (pc := 31) (v := -15) hx hb dX2_readSum_31 (by decide) ?_
        refine lv_icmp_eq (pc := 33) (tgt := 38) hx hb dX2_readSum_33 (by decide) (fun hc8 => ?_) (fun hc8 => ?_)
        · replace h := o_pos hc8 h
          exact w_X2_readSum_b38 C hK rf_readTerm hrf_readTerm σ v1 v2 r7 (f_X2_readSum_b12 rf_readTerm v1 n) (fun σ v2 {H : Heap} {locs : List Loc} {ls : Array Slot}  hW hS hl h => ih σ v2 hW hS hl h) hW hS (lv_sub hl [1, 2, 3, 0] rfl) h
        · replace h := o_neg hc8 h
          refine lv_iconst (pc := 36) (v := 1) hx hb dX2_readSum_36 (by decide) ?_
          exact g_ret (pc := 37) C hW hS rfl dX2_readSum_37 (congrArg (fun q => some (Value.int q)) (o_r h).1) (o_r h).2

theorem c_X2_readSum {K : Nat} {B : Nat} (rf_readTerm : Mem → Int32 → Option (Int32 × Mem)) (hrf_readTerm : ∀ {K : Nat} (_ : B + 4 ≤ K) {σ : Mem} {σf : Mem} {v1 : Int32} {r : Int32} (_ : rf_readTerm σ v1 = some (r, σf)), MC l D (Ec ac z) inC z ac (z, aK, aV) (Ac z) yX2_readTerm cX2_readTerm 3 (some .boolean) K [.ref (z + 9), .int v1] σ (some (.int r)) σf) (hK : B + 5 ≤ K) {σ : Mem} {σf : Mem} {v1 : Int32} {r : Int32} (h : f_X2_readSum rf_readTerm σ v1 = some (r, σf)) : MC l D (Ec ac z) inC z ac (z, aK, aV) (Ac z) yX2_readSum cX2_readSum 4 (some .boolean) K [.ref (z + 9), .int v1] σ (some (.int r)) σf := by
  refine MC.of (fun q hq => by have := hq.1; show z ≤ q; omega) (plainFor_of_name (by decide)) (Nat.le_of_ble_eq_true rfl) ?_
  intro p e s m below meth c args C hW ls hl
  replace hl : lv_has ls 4 [(0, .ref (z + 9)), (1, .int v1)] := hl
  have hS : va_S (Ac z) s.heap s.heap [] := va_S.rf
  have hx := C.1.1
  have hb := C.1.2.1
  unfold f_X2_readSum at h
  refine lv_aload_n (pc := 0) hx hb dX2_readSum_0 rfl (lv_at hl 0 rfl) ?_
  refine lv_iload_n (pc := 1) hx hb dX2_readSum_1 rfl (lv_at hl 1 rfl) ?_
  obtain ⟨r2, σ3, hc0, h⟩ := o_b2 h
  refine g_virt (pc := 2) (st2 := [.int r2]) (rest := []) C hW hS (hrf_readTerm (K := K - 1) (by omega) hc0) mw_X2_147 (kin_5 kdc_9) (Ek_5 kdc_9) rfl (hRoom (by omega) (by decide)) rfl rfl rfl (Nat.le_of_ble_eq_true rfl) hl.1 dX2_readSum_2 (fun H locs hW hS => ?_)
  refine lv_if_ne (pc := 5) (tgt := 10) hx hb dX2_readSum_5 (by decide) (fun hc3 => ?_) (fun hc3 => ?_)
  · replace h := o_neg hc3 h
    refine lv_iconst (pc := 10) (v := 0) hx hb dX2_readSum_10 (by decide) ?_
    refine lv_istore_n (pc := 11) (lv' := [(2, .int (0 : Int32)), (0, .ref (z + 9)), (1, .int v1)]) hx hb dX2_readSum_11 rfl hl (by decide) rfl (fun ls hl => ?_)
    exact w_X2_readSum_b12 C hK rf_readTerm hrf_readTerm v1 FU σ3 (0 : Int32) hW hS (lv_sub hl [1, 2, 0] rfl) h
  · replace h := o_pos hc3 h
    refine lv_iconst (pc := 8) (v := 0) hx hb dX2_readSum_8 (by decide) ?_
    exact g_ret (pc := 9) C hW hS rfl dX2_readSum_9 (congrArg (fun q => some (Value.int q)) (o_r h).1) (o_r h).2

theorem w_X2_readNot_b71 (C : CX cX2_readNot 4 RX2 (some .boolean) D ac p m c s args meth (z, aK, aV) (Ac z)) {B : Nat} (hK : B + 6 ≤ K) {r : Int32} {σf : Mem}  (rf_readNot : Mem → Int32 → Option (Int32 × Mem)) (hrf_readNot : ∀ {K : Nat} (_ : B ≤ K) {σ : Mem} {σf : Mem} {v1 : Int32} {r : Int32} (_ : rf_readNot σ v1 = some (r, σf)), MC l D (Ec ac z) inC z ac (z, aK, aV) (Ac z) yX2_readNot cX2_readNot 4 (some .boolean) K [.ref (z + 9), .int v1] σ (some (.int r)) σf) (rf_readSum : Mem → Int32 → Option (Int32 × Mem)) (hrf_readSum : ∀ {K : Nat} (_ : B + 5 ≤ K) {σ : Mem} {σf : Mem} {v1 : Int32} {r : Int32} (_ : rf_readSum σ v1 = some (r, σf)), MC l D (Ec ac z) inC z ac (z, aK, aV) (Ac z) yX2_readSum cX2_readSum 4 (some .boolean) K [.ref (z + 9), .int v1] σ (some (.int r)) σf) (σ : Mem) (v1 : Int32) (v2 : Int32)  {H : Heap} {locs : List Loc} {ls : Array Slot} (hW : WC D ac z σ H) (hS : va_S (Ac z) s.heap H locs) (hl : lv_has ls 4 [(0, .ref (z + 9)), (1, .int v1), (2, .int v2)]) (h : f_X2_readNot_b71 rf_readNot rf_readSum σ v1 v2 = some (r, σf)) : W p l e (rma K 0 0) s m args below meth c H locs 0 0 (MQ below (QV D (Ec ac z) inC z (some (.int r)) σf (Ac z)) args s 0 0 (Ac z)) (F0 m 71 ls []) := by
  have hx := C.1.1
  have hb := C.1.2.1
  unfold f_X2_readNot_b71 at h
  refine lv_aload_n (pc := 71) hx hb dX2_readNot_71 rfl (lv_at hl 0 rfl) ?_
  refine lv_dup (pc := 72) hx hb dX2_readNot_72 rfl ?_
  refine gf_X2_5 (pc := 73) C hW kdc_9 fl_X2_40 dX2_readNot_73 ?_
  refine lv_iconst (pc := 76) (v := 1) hx hb dX2_readNot_76 (by decide) ?_
  refine lv_iadd (pc := 77) hx hb dX2_readNot_77 ?_
  refine pf_X2_5 (pc := 78) C hW hS kdc_9 fl_X2_40 dX2_readNot_78 (fun H locs hW hS => ?_)
  refine lv_aload_n (pc := 81) hx hb dX2_readNot_81 rfl (lv_at hl 0 rfl) ?_
  refine lv_iload_n (pc := 82) hx hb dX2_readNot_82 rfl (lv_at hl 1 rfl) ?_
  obtain ⟨r19, σ20, hc17, h⟩ := o_b2 h
  refine g_virt (pc := 83) (st2 := [.int r19]) (rest := []) C hW hS (hrf_readSum (K := K - 1) (by omega) hc17) mw_X2_144 (kin_5 kdc_9) (Ek_5 kdc_9) rfl (hRoom (by omega) (by decide)) rfl rfl rfl (Nat.le_of_ble_eq_true rfl) hl.1 dX2_readNot_83 (fun H locs hW hS => ?_)
  refine lv_istore_n (pc := 86) (lv' := [(3, .int r19), (0, .ref (z + 9)), (1, .int v1), (2, .int v2)]) hx hb dX2_readNot_86 rfl hl (by decide) rfl (fun ls hl => ?_)
  refine lv_aload_n (pc := 87) hx hb dX2_readNot_87 rfl (lv_at hl 1 rfl) ?_
  refine lv_iload_n (pc := 88) hx hb dX2_readNot_88 rfl (lv_at hl 3 rfl) ?_
  obtain ⟨σ22, hc20, h⟩ := o_b h
  refine g_virt (pc := 89) (st2 := []) (rest := []) C hW hS (c_X2_emit (K := K - 1) (by omega) hc20) mw_X2_137 (kin_5 kdc_9) (Ek_5 kdc_9) rfl (hRoom (by omega) (by decide)) rfl rfl rfl (Nat.le_of_ble_eq_true rfl) hl.1 dX2_readNot_89 (fun H locs hW hS => ?_)
  refine lv_iload_n (pc := 92) hx hb dX2_readNot_92 rfl (lv_at hl 0 rfl) ?_
  obtain ⟨hb0, h⟩ := o_chk h
  exact g_ret (pc := 93) C hW hS (nar_b hb0) dX2_readNot_93 (congrArg (fun q => some (Value.int q)) (o_r h).1) (o_r h).2

theorem c_X2_readNot {K : Nat} {B : Nat} (rf_readNot : Mem → Int32 → Option (Int32 × Mem)) (hrf_readNot : ∀ {K : Nat} (_ : B ≤ K) {σ : Mem} {σf : Mem} {v1 : Int32} {r : Int32} (_ : rf_readNot σ v1 = some (r, σf)), MC l D (Ec ac z) inC z ac (z, aK, aV) (Ac z) yX2_readNot cX2_readNot 4 (some .boolean) K [.ref (z + 9), .int v1] σ (some (.int r)) σf) (rf_readSum : Mem → Int32 → Option (Int32 × Mem)) (hrf_readSum : ∀ {K : Nat} (_ : B + 5 ≤ K) {σ : Mem} {σf : Mem} {v1 : Int32} {r : Int32} (_ : rf_readSum σ v1 = some (r, σf)), MC l D (Ec ac z) inC z ac (z, aK, aV) (Ac z) yX2_readSum cX2_readSum 4 (some .boolean) K [.ref (z + 9), .int v1] σ (some (.int r)) σf) (hK : B + 6 ≤ K) {σ : Mem} {σf : Mem} {v1 : Int32} {r : Int32} (h : f_X2_readNot rf_readNot rf_readSum σ v1 = some (r, σf)) : MC l D (Ec ac z) inC z ac (z, aK, aV) (Ac z) yX2_readNot cX2_readNot 4 (some .boolean) K [.ref (z + 9), .int v1] σ (some (.int r)) σf := by
  refine MC.of (fun q hq => by have := hq.1; show z ≤ q; omega) (plainFor_of_name (by decide)) (Nat.le_of_ble_eq_true rfl) ?_
  intro p e s m below meth c args C hW ls hl
  replace hl : lv_has ls 4 [(0, .ref (z + 9)), (1, .int v1)] := hl
  have hS : va_S (Ac z) s.heap s.heap [] := va_S.rf
  have hx := C.1.1
  have hb := C.1.2.1
  unfold f_X2_readNot at h
  refine lv_aload_n (pc := 0) hx hb dX2_readNot_0 rfl (lv_at hl 0 rfl) ?_
  obtain ⟨r2, hc0, h⟩ := o_b h
  refine g_virt (pc := 1) (st2 := [.int r2]) (rest := []) C hW hS (c_X2_current (K := K - 1) (by omega) hc0) mw_X2_50 (kin_5 kdc_9) (Ek_5 kdc_9) rfl (hRoom (by omega) (by decide)) rfl rfl rfl (Nat.le_of_ble_eq_true rfl) hl.1 dX2_readNot_1 (fun H locs hW hS => ?_)
  refine lv_bipush (pc := 4) (v := -17) hx hb dX2_readNot_4 (by decide) ?_
  refine lv_icmp_ne (pc := 6) (tgt := 42) hx hb dX2_readNot_6 (by decide) (fun hc2 => ?_) (fun hc2 => ?_)
  · replace h := o_neg hc2 h
    refine lv_aload_n (pc := 42) hx hb dX2_readNot_42 rfl (lv_at hl 0 rfl) ?_
    refine lv_iload_n (pc := 43) hx hb dX2_readNot_43 rfl (lv_at hl 1 rfl) ?_
    obtain ⟨r5, σ6, hc3, h⟩ := o_b2 h
    refine g_virt (pc := 44) (st2 := [.int r5]) (rest := []) C hW hS (hrf_readSum (K := K - 1) (by omega) hc3) mw_X2_144 (kin_5 kdc_9) (Ek_5 kdc_9) rfl (hRoom (by omega) (by decide)) rfl rfl rfl (Nat.le_of_ble_eq_true rfl) hl.1 dX2_readNot_44 (fun H locs hW hS => ?_)
    refine lv_if_ne (pc := 47) (tgt := 52) hx hb dX2_readNot_47 (by decide) (fun hc6 => ?_) (fun hc6 => ?_)
    · replace h := o_neg hc6 h
      refine lv_aload_n (pc := 52) hx hb dX2_readNot_52 rfl (lv_at hl 0 rfl) ?_
      obtain ⟨r9, hc7, h⟩ := o_b h
      refine g_virt (pc := 53) (st2 := [.int r9]) (rest := []) C hW hS (c_X2_current (K := K - 1) (by omega) hc7) mw_X2_50 (kin_5 kdc_9) (Ek_5 kdc_9) rfl (hRoom (by omega) (by decide)) rfl rfl rfl (Nat.le_of_ble_eq_true rfl) hl.1 dX2_readNot_53 (fun H locs hW hS => ?_)
      refine lv_istore_n (pc := 56) (lv' := [(2, .int r9), (0, .ref (z + 9)), (1, .int v1)]) hx hb dX2_readNot_56 rfl hl (by decide) rfl (fun ls hl => ?_)
      refine lv_iload_n (pc := 57) hx hb dX2_readNot_57 rfl (lv_at hl 0 rfl) ?_
      refine lv_bipush (pc := 58) (v := -12) hx hb dX2_readNot_58 (by decide) ?_
      refine lv_icmp_eq (pc := 60) (tgt := 71) hx hb dX2_readNot_60 (by decide) (fun hc9 => ?_) (fun hc9 => ?_)
      · replace h := o_pos hc9 h
        exact w_X2_readNot_b71 C hK rf_readNot hrf_readNot rf_readSum hrf_readSum σ6 v1 r9 hW hS (lv_sub hl [1, 2, 0] rfl) h
      · replace h := o_neg hc9 h
        refine lv_iload_n (pc := 63) hx hb dX2_readNot_63 rfl (lv_at hl 0 rfl) ?_
        refine lv_bipush (pc := 64) (v := -13) hx hb dX2_readNot_64 (by decide) ?_
        refine lv_icmp_eq (pc := 66) (tgt := 71) hx hb dX2_readNot_66 (by decide) (fun hc10 => ?_) (fun hc10 => ?_)
        · replace h := o_pos hc10 h
          exact w_X2_readNot_b71 C hK rf_readNot hrf_readNot rf_readSum hrf_readSum σ6 v1 r9 hW hS (lv_sub hl [1, 2, 0] rfl) h
        · replace h := o_neg hc10 h
          refine lv_iconst (pc := 69) (v := 1) hx hb dX2_readNot_69 (by decide) ?_
          exact g_ret (pc := 70) C hW hS rfl dX2_readNot_70 (congrArg (fun q => some (Value.int q)) (o_r h).1) (o_r h).2
    · replace h := o_pos hc6 h
      refine lv_iconst (pc := 50) (v := 0) hx hb dX2_readNot_50 (by decide) ?_
      exact g_ret (pc := 51) C hW hS rfl dX2_readNot_51 (congrArg (fun q => some (Value.int q)) (o_r h).1) (o_r h).2
  · replace h := o_pos hc2 h
    refine lv_iload_n (pc := 9) hx hb dX2_readNot_9 rfl (lv_at hl 1 rfl) ?_
    refine lv_iconst (pc := 10) (v := 5) hx hb dX2_readNot_10 (by decide) ?_
    refine lv_icmp_lt (pc := 11) (tgt := 16) hx hb dX2_readNot_11 (by decide) (fun hc11 => ?_) (fun hc11 => ?_)
    · replace h := o_pos hc11 h
      refine lv_aload_n (pc := 16) hx hb dX2_readNot_16 rfl (lv_at hl 0 rfl) ?_
      refine lv_dup (pc := 17) hx hb dX2_readNot_17 rfl ?_
      refine gf_X2_5 (pc := 18) C hW kdc_9 fl_X2_40 dX2_readNot_18 ?_
      refine lv_iconst (pc := 21) (v := 1) hx hb dX2_readNot_21 (by decide) ?_
      refine lv_iadd (pc := 22) hx hb dX2_readNot_22 ?_
      refine pf_X2_5 (pc := 23) C hW hS kdc_9 fl_X2_40 dX2_readNot_23 (fun H locs hW hS => ?_)
      refine lv_aload_n (pc := 26) hx hb dX2_readNot_26 rfl (lv_at hl 0 rfl) ?_
      refine lv_iload_n (pc := 27) hx hb dX2_readNot_27 rfl (lv_at hl 1 rfl) ?_
      refine lv_iconst (pc := 28) (v := 1) hx hb dX2_readNot_28 (by decide) ?_
      refine lv_iadd (pc := 29) hx hb dX2_readNot_29 ?_
      obtain ⟨r14, σ15, hc12, h⟩ := o_b2 h
      refine g_virt (pc := 30) (st2 := [.int r14]) (rest := []) C hW hS (hrf_readNot (K := K - 1) (by omega) hc12) mw_X2_141 (kin_5 kdc_9) (Ek_5 kdc_9) rfl (hRoom (by omega) (by decide)) rfl rfl rfl (Nat.le_of_ble_eq_true rfl) hl.1 dX2_readNot_30 (fun H locs hW hS => ?_)
      refine lv_istore_n (pc := 33) (lv' := [(2, .int r14), (0, .ref (z + 9)), (1, .int v1)]) hx hb dX2_readNot_33 rfl hl (by decide) rfl (fun ls hl => ?_)
      refine lv_aload_n (pc := 34) hx hb dX2_readNot_34 rfl (lv_at hl 1 rfl) ?_
      refine lv_bipush (pc := 35) (v := -17) hx hb dX2_readNot_35 (by decide) ?_
      obtain ⟨σ17, hc15, h⟩ := o_b h
      refine g_virt (pc := 37) (st2 := []) (rest := []) C hW hS (c_X2_emit (K := K - 1) (by omega) hc15) mw_X2_137 (kin_5 kdc_9) (Ek_5 kdc_9) rfl (hRoom (by omega) (by decide)) rfl rfl rfl (Nat.le_of_ble_eq_true rfl) hl.1 dX2_readNot_37 (fun H locs hW hS => ?_)
      refine lv_iload_n (pc := 40) hx hb dX2_readNot_40 rfl (lv_at hl 0 rfl) ?_
      obtain ⟨hb0, h⟩ := o_chk h
      exact g_ret (pc := 41) C hW hS (nar_b hb0) dX2_readNot_41 (congrArg (fun q => some (Value.int q)) (o_r h).1) (o_r h).2
    · replace h := o_neg hc11 h
      refine lv_iconst (pc := 14) (v := 0) hx hb dX2_readNot_14 (by decide) ?_
      exact g_ret (pc := 15) C hW hS rfl dX2_readNot_15 (congrArg (fun q => some (Value.int q)) (o_r h).1) (o_r h).2

theorem w_X2_readAnd_b12 (C : CX cX2_readAnd 3 RX2 (some .boolean) D ac p m c s args meth (z, aK, aV) (Ac z)) {B : Nat} (hK : B + 7 ≤ K) {r : Int32} {σf : Mem}  (rf_readNot : Mem → Int32 → Option (Int32 × Mem)) (hrf_readNot : ∀ {K : Nat} (_ : B + 6 ≤ K) {σ : Mem} {σf : Mem} {v1 : Int32} {r : Int32} (_ : rf_readNot σ v1 = some (r, σf)), MC l D (Ec ac z) inC z ac (z, aK, aV) (Ac z) yX2_readNot cX2_readNot 4 (some .boolean) K [.ref (z + 9), .int v1] σ (some (.int r)) σf) (v1 : Int32)  : ∀ (n : Nat) (σ : Mem) (v2 : Int32) {H : Heap} {locs : List Loc} {ls : Array Slot} (hW : WC D ac z σ H) (hS : va_S (Ac z) s.heap H locs) (hl : lv_has ls 3 [(0, .ref (z + 9)), (1, .int v1), (2, .int v2)]) (h : f_X2_readAnd_b12 rf_readNot v1 n σ v2 = some (r, σf)), W p l e (rma K 0 0) s m args below meth c H locs 0 0 (MQ below (QV D (Ec ac z) inC z (some (.int r)) σf (Ac z)) args s 0 0 (Ac z)) (F0 m 12 ls []) := by
  have hx := C.1.1
  have hb := C.1.2.1
  intro n
  induction n with
  | zero =>
    intro σ v2 H locs ls  hW hS hl h
    cases h
  | succ n ih =>
    intro σ v2 H locs ls  hW hS hl h
    rw [f_X2_readAnd_b12.eq_2] at h
    refine lv_iload_n (pc := 12) hx hb dX2_readAnd_12 rfl (lv_at hl 2 rfl) ?_
    refine lv_sipush (pc := 13) (v := 160) hx hb dX2_readAnd_13 (by decide) ?_
    refine lv_icmp_ge (pc := 16) (tgt := 50) hx hb dX2_readAnd_16 (by decide) (fun hc4 => ?_) (fun hc4 => ?_)
    · replace h := o_pos hc4 h
      refine lv_iconst (pc := 50) (v := 1) hx hb dX2_readAnd_50 (by decide) ?_
      exact g_ret (pc := 51) C hW hS rfl dX2_readAnd_51 (congrArg (fun q => some (Value.int q)) (o_r h).1) (o_r h).2
    · replace h := o_neg hc4 h
      refine lv_aload_n (pc := 19) hx hb dX2_readAnd_19 rfl (lv_at hl 0 rfl) ?_
      refine lv_bipush (pc := 20) (v := -11) hx hb dX2_readAnd_20 (by decide) ?_
      obtain ⟨r7, σ8, hc5, h⟩ := o_b2 h
      refine g_virt (pc := 22) (st2 := [.int r7]) (rest := []) C hW hS (c_X2_skip (K := K - 1) (by omega) hc5) mw_X2_128 (kin_5 kdc_9) (Ek_5 kdc_9) rfl (hRoom (by omega) (by decide)) rfl rfl rfl (Nat.le_of_ble_eq_true rfl) hl.1 dX2_readAnd_22 (fun H locs hW hS => ?_)
      refine lv_if_eq (pc := 25) (tgt := 50) hx hb dX2_readAnd_25 (by decide) (fun hc8 => ?_) (fun hc8 => ?_)
      · replace h := o_pos hc8 h
        refine lv_iconst (pc := 50) (v := 1) hx hb dX2_readAnd_50 (by decide) ?_
        exact g_ret (pc := 51) C hW hS rfl dX2_readAnd_51 (congrArg (fun q => some (Value.int q)) (o_r h).1) (o_r h).2
      · replace h := o_neg hc8 h
        refine lv_aload_n (pc := 28) hx hb dX2_readAnd_28 rfl (lv_at hl 0 rfl) ?_
        refine lv_iload_n (pc := 29) hx hb dX2_readAnd_29 rfl (lv_at hl 1 rfl) ?_
        obtain ⟨r11, σ12, hc9, h⟩ := o_b2 h
        refine g_virt (pc := 30) (st2 := [.int r11]) (rest := []) C hW hS (hrf_readNot (K := K - 1) (by omega) hc9) mw_X2_141 (kin_5 kdc_9) (Ek_5 kdc_9) rfl (hRoom (by omega) (by decide)) rfl rfl rfl (Nat.le_of_ble_eq_true rfl) hl.1 dX2_readAnd_30 (fun H locs hW hS => ?_)
        refine lv_if_ne (pc := 33) (tgt := 38) hx hb dX2_readAnd_33 (by decide) (fun hc12 => ?_) (fun hc12 => ?_)
        · replace h := o_neg hc12 h
          refine lv_aload_n (pc := 38) hx hb dX2_readAnd_38 rfl (lv_at hl 0 rfl) ?_
          refine lv_bipush (pc := 39) (v := -11) hx hb dX2_readAnd_39 (by decide) ?_
          obtain ⟨σ15, hc13, h⟩ := o_b h
          refine g_virt (pc := 41) (st2 := []) (rest := []) C hW hS (c_X2_emit (K := K - 1) (by omega) hc13) mw_X2_137 (kin_5 kdc_9) (Ek_5 kdc_9) rfl (hRoom (by omega) (by decide)) rfl rfl rfl (Nat.le_of_ble_eq_true rfl) hl.1 dX2_readAnd_41 (fun H locs hW hS => ?_)
          refine lv_iinc (pc := 44) (v := (v2 + 1)) (lv' := [(2, .int (v2 + 1)), (0, .ref (z + 9)), (1, .int v1)]) hx hb dX2_readAnd_44 hl (k := 2) rfl rfl (by decide) rfl (fun ls hl => ?_)
          refine lv_goto (pc := 47) (tgt := 12) hx hb dX2_readAnd_47 (by decide) ?_
          exact ih σ15 (v2 + 1) hW hS (lv_sub hl [1, 2, 0] rfl) h
        · replace h := o_pos hc12 h
          refine lv_iconst (pc := 36) (v := 0) hx hb dX2_readAnd_36 (by decide) ?_
          exact g_ret (pc := 37) C hW hS rfl dX2_readAnd_37 (congrArg (fun q => some (Value.int q)) (o_r h).1) (o_r h).2

theorem c_X2_readAnd {K : Nat} {B : Nat} (rf_readNot : Mem → Int32 → Option (Int32 × Mem)) (hrf_readNot : ∀ {K : Nat} (_ : B + 6 ≤ K) {σ : Mem} {σf : Mem} {v1 : Int32} {r : Int32} (_ : rf_readNot σ v1 = some (r, σf)), MC l D (Ec ac z) inC z ac (z, aK, aV) (Ac z) yX2_readNot cX2_readNot 4 (some .boolean) K [.ref (z + 9), .int v1] σ (some (.int r)) σf) (hK : B + 7 ≤ K) {σ : Mem} {σf : Mem} {v1 : Int32} {r : Int32} (h : f_X2_readAnd rf_readNot σ v1 = some (r, σf)) : MC l D (Ec ac z) inC z ac (z, aK, aV) (Ac z) yX2_readAnd cX2_readAnd 3 (some .boolean) K [.ref (z + 9), .int v1] σ (some (.int r)) σf := by
  refine MC.of (fun q hq => by have := hq.1; show z ≤ q; omega) (plainFor_of_name (by decide)) (Nat.le_of_ble_eq_true rfl) ?_
  intro p e s m below meth c args C hW ls hl
  replace hl : lv_has ls 3 [(0, .ref (z + 9)), (1, .int v1)] := hl
  have hS : va_S (Ac z) s.heap s.heap [] := va_S.rf
  have hx := C.1.1
  have hb := C.1.2.1
  unfold f_X2_readAnd at h
  refine lv_aload_n (pc := 0) hx hb dX2_readAnd_0 rfl (lv_at hl 0 rfl) ?_
  refine lv_iload_n (pc := 1) hx hb dX2_readAnd_1 rfl (lv_at hl 1 rfl) ?_
  obtain ⟨r2, σ3, hc0, h⟩ := o_b2 h
  refine g_virt (pc := 2) (st2 := [.int r2]) (rest := []) C hW hS (hrf_readNot (K := K - 1) (by omega) hc0) mw_X2_141 (kin_5 kdc_9) (Ek_5 kdc_9) rfl (hRoom (by omega) (by decide)) rfl rfl rfl (Nat.le_of_ble_eq_true rfl) hl.1 dX2_readAnd_2 (fun H locs hW hS => ?_)
  refine lv_if_ne (pc := 5) (tgt := 10) hx hb dX2_readAnd_5 (by decide) (fun hc3 => ?_) (fun hc3 => ?_)
  · replace h := o_neg hc3 h
    refine lv_iconst (pc := 10) (v := 0) hx hb dX2_readAnd_10 (by decide) ?_
    refine lv_istore_n (pc := 11) (lv' := [(2, .int (0 : Int32)), (0, .ref (z + 9)), (1, .int v1)]) hx hb dX2_readAnd_11 rfl hl (by decide) rfl (fun ls hl => ?_)
    exact w_X2_readAnd_b12 C hK rf_readNot hrf_readNot v1 FU σ3 (0 : Int32) hW hS (lv_sub hl [1, 2, 0] rfl) h
  · replace h := o_pos hc3 h
    refine lv_iconst (pc := 8) (v := 0) hx hb dX2_readAnd_8 (by decide) ?_
    exact g_ret (pc := 9) C hW hS rfl dX2_readAnd_9 (congrArg (fun q => some (Value.int q)) (o_r h).1) (o_r h).2

theorem w_X2_readOr_b12 (C : CX cX2_readOr 3 RX2 (some .boolean) D ac p m c s args meth (z, aK, aV) (Ac z)) {B : Nat} (hK : B + 8 ≤ K) {r : Int32} {σf : Mem}  (rf_readAnd : Mem → Int32 → Option (Int32 × Mem)) (hrf_readAnd : ∀ {K : Nat} (_ : B + 7 ≤ K) {σ : Mem} {σf : Mem} {v1 : Int32} {r : Int32} (_ : rf_readAnd σ v1 = some (r, σf)), MC l D (Ec ac z) inC z ac (z, aK, aV) (Ac z) yX2_readAnd cX2_readAnd 3 (some .boolean) K [.ref (z + 9), .int v1] σ (some (.int r)) σf) (v1 : Int32)  : ∀ (n : Nat) (σ : Mem) (v2 : Int32) {H : Heap} {locs : List Loc} {ls : Array Slot} (hW : WC D ac z σ H) (hS : va_S (Ac z) s.heap H locs) (hl : lv_has ls 3 [(0, .ref (z + 9)), (1, .int v1), (2, .int v2)]) (h : f_X2_readOr_b12 rf_readAnd v1 n σ v2 = some (r, σf)), W p l e (rma K 0 0) s m args below meth c H locs 0 0 (MQ below (QV D (Ec ac z) inC z (some (.int r)) σf (Ac z)) args s 0 0 (Ac z)) (F0 m 12 ls []) := by
  have hx := C.1.1
  have hb := C.1.2.1
  intro n
  induction n with
  | zero =>
    intro σ v2 H locs ls  hW hS hl h
    cases h
  | succ n ih =>
    intro σ v2 H locs ls  hW hS hl h
    rw [f_X2_readOr_b12.eq_2] at h
    refine lv_iload_n (pc := 12) hx hb dX2_readOr_12 rfl (lv_at hl 2 rfl) ?_
    refine lv_sipush (pc := 13) (v := 160) hx hb dX2_readOr_13 (by decide) ?_
    refine lv_icmp_ge (pc := 16) (tgt := 50) hx hb dX2_readOr_16 (by decide) (fun hc4 => ?_) (fun hc4 => ?_)
    · replace h := o_pos hc4 h
      refine lv_iconst (pc := 50) (v := 1) hx hb dX2_readOr_50 (by decide) ?_
      exact g_ret (pc := 51) C hW hS rfl dX2_readOr_51 (congrArg (fun q => some (Value.int q)) (o_r h).1) (o_r h).2
    · replace h := o_neg hc4 h
      refine lv_aload_n (pc := 19) hx hb dX2_readOr_19 rfl (lv_at hl 0 rfl) ?_
      refine lv_bipush (pc := 20) (v := -10) hx hb dX2_readOr_20 (by decide) ?_
      obtain ⟨r7, σ8, hc5, h⟩ := o_b2 h
      refine g_virt (pc := 22) (st2 := [.int r7]) (rest := []) C hW hS (c_X2_skip (K := K - 1) (by omega) hc5) mw_X2_128 (kin_5 kdc_9) (Ek_5 kdc_9) rfl (hRoom (by omega) (by decide)) rfl rfl rfl (Nat.le_of_ble_eq_true rfl) hl.1 dX2_readOr_22 (fun H locs hW hS => ?_)
      refine lv_if_eq (pc := 25) (tgt := 50) hx hb dX2_readOr_25 (by decide) (fun hc8 => ?_) (fun hc8 => ?_)
      · replace h := o_pos hc8 h
        refine lv_iconst (pc := 50) (v := 1) hx hb dX2_readOr_50 (by decide) ?_
        exact g_ret (pc := 51) C hW hS rfl dX2_readOr_51 (congrArg (fun q => some (Value.int q)) (o_r h).1) (o_r h).2
      · replace h := o_neg hc8 h
        refine lv_aload_n (pc := 28) hx hb dX2_readOr_28 rfl (lv_at hl 0 rfl) ?_
        refine lv_iload_n (pc := 29) hx hb dX2_readOr_29 rfl (lv_at hl 1 rfl) ?_
        obtain ⟨r11, σ12, hc9, h⟩ := o_b2 h
        refine g_virt (pc := 30) (st2 := [.int r11]) (rest := []) C hW hS (hrf_readAnd (K := K - 1) (by omega) hc9) mw_X2_134 (kin_5 kdc_9) (Ek_5 kdc_9) rfl (hRoom (by omega) (by decide)) rfl rfl rfl (Nat.le_of_ble_eq_true rfl) hl.1 dX2_readOr_30 (fun H locs hW hS => ?_)
        refine lv_if_ne (pc := 33) (tgt := 38) hx hb dX2_readOr_33 (by decide) (fun hc12 => ?_) (fun hc12 => ?_)
        · replace h := o_neg hc12 h
          refine lv_aload_n (pc := 38) hx hb dX2_readOr_38 rfl (lv_at hl 0 rfl) ?_
          refine lv_bipush (pc := 39) (v := -10) hx hb dX2_readOr_39 (by decide) ?_
          obtain ⟨σ15, hc13, h⟩ := o_b h
          refine g_virt (pc := 41) (st2 := []) (rest := []) C hW hS (c_X2_emit (K := K - 1) (by omega) hc13) mw_X2_137 (kin_5 kdc_9) (Ek_5 kdc_9) rfl (hRoom (by omega) (by decide)) rfl rfl rfl (Nat.le_of_ble_eq_true rfl) hl.1 dX2_readOr_41 (fun H locs hW hS => ?_)
          refine lv_iinc (pc := 44) (v := (v2 + 1)) (lv' := [(2, .int (v2 + 1)), (0, .ref (z + 9)), (1, .int v1)]) hx hb dX2_readOr_44 hl (k := 2) rfl rfl (by decide) rfl (fun ls hl => ?_)
          refine lv_goto (pc := 47) (tgt := 12) hx hb dX2_readOr_47 (by decide) ?_
          exact ih σ15 (v2 + 1) hW hS (lv_sub hl [1, 2, 0] rfl) h
        · replace h := o_pos hc12 h
          refine lv_iconst (pc := 36) (v := 0) hx hb dX2_readOr_36 (by decide) ?_
          exact g_ret (pc := 37) C hW hS rfl dX2_readOr_37 (congrArg (fun q => some (Value.int q)) (o_r h).1) (o_r h).2

theorem c_X2_readOr {K : Nat} {B : Nat} (rf_readAnd : Mem → Int32 → Option (Int32 × Mem)) (hrf_readAnd : ∀ {K : Nat} (_ : B + 7 ≤ K) {σ : Mem} {σf : Mem} {v1 : Int32} {r : Int32} (_ : rf_readAnd σ v1 = some (r, σf)), MC l D (Ec ac z) inC z ac (z, aK, aV) (Ac z) yX2_readAnd cX2_readAnd 3 (some .boolean) K [.ref (z + 9), .int v1] σ (some (.int r)) σf) (hK : B + 8 ≤ K) {σ : Mem} {σf : Mem} {v1 : Int32} {r : Int32} (h : f_X2_readOr rf_readAnd σ v1 = some (r, σf)) : MC l D (Ec ac z) inC z ac (z, aK, aV) (Ac z) yX2_readOr cX2_readOr 3 (some .boolean) K [.ref (z + 9), .int v1] σ (some (.int r)) σf := by
  refine MC.of (fun q hq => by have := hq.1; show z ≤ q; omega) (plainFor_of_name (by decide)) (Nat.le_of_ble_eq_true rfl) ?_
  intro p e s m below meth c args C hW ls hl
  replace hl : lv_has ls 3 [(0, .ref (z + 9)), (1, .int v1)] := hl
  have hS : va_S (Ac z) s.heap s.heap [] := va_S.rf
  have hx := C.1.1
  have hb := C.1.2.1
  unfold f_X2_readOr at h
  refine lv_aload_n (pc := 0) hx hb dX2_readOr_0 rfl (lv_at hl 0 rfl) ?_
  refine lv_iload_n (pc := 1) hx hb dX2_readOr_1 rfl (lv_at hl 1 rfl) ?_
  obtain ⟨r2, σ3, hc0, h⟩ := o_b2 h
  refine g_virt (pc := 2) (st2 := [.int r2]) (rest := []) C hW hS (hrf_readAnd (K := K - 1) (by omega) hc0) mw_X2_134 (kin_5 kdc_9) (Ek_5 kdc_9) rfl (hRoom (by omega) (by decide)) rfl rfl rfl (Nat.le_of_ble_eq_true rfl) hl.1 dX2_readOr_2 (fun H locs hW hS => ?_)
  refine lv_if_ne (pc := 5) (tgt := 10) hx hb dX2_readOr_5 (by decide) (fun hc3 => ?_) (fun hc3 => ?_)
  · replace h := o_neg hc3 h
    refine lv_iconst (pc := 10) (v := 0) hx hb dX2_readOr_10 (by decide) ?_
    refine lv_istore_n (pc := 11) (lv' := [(2, .int (0 : Int32)), (0, .ref (z + 9)), (1, .int v1)]) hx hb dX2_readOr_11 rfl hl (by decide) rfl (fun ls hl => ?_)
    exact w_X2_readOr_b12 C hK rf_readAnd hrf_readAnd v1 FU σ3 (0 : Int32) hW hS (lv_sub hl [1, 2, 0] rfl) h
  · replace h := o_pos hc3 h
    refine lv_iconst (pc := 8) (v := 0) hx hb dX2_readOr_8 (by decide) ?_
    exact g_ret (pc := 9) C hW hS rfl dX2_readOr_9 (congrArg (fun q => some (Value.int q)) (o_r h).1) (o_r h).2

theorem c_X2_rec : ∀ (n : Nat), (∀ {K : Nat} (_ : 8 * n ≤ K) {σ : Mem} {σf : Mem} {v1 : Int32} {r : Int32} (_ : f_X2_rec n 0 σ v1 = some (r, σf)), MC l D (Ec ac z) inC z ac (z, aK, aV) (Ac z) yX2_readOne cX2_readOne 4 (some .boolean) K [.ref (z + 9), .int v1] σ (some (.int r)) σf) ∧ (∀ {K : Nat} (_ : 8 * n ≤ K) {σ : Mem} {σf : Mem} {v1 : Int32} {r : Int32} (_ : f_X2_rec n 1 σ v1 = some (r, σf)), MC l D (Ec ac z) inC z ac (z, aK, aV) (Ac z) yX2_readNot cX2_readNot 4 (some .boolean) K [.ref (z + 9), .int v1] σ (some (.int r)) σf) ∧ (∀ {K : Nat} (_ : 8 * n ≤ K) {σ : Mem} {σf : Mem} {v1 : Int32} {r : Int32} (_ : f_X2_rec n 2 σ v1 = some (r, σf)), MC l D (Ec ac z) inC z ac (z, aK, aV) (Ac z) yX2_readOr cX2_readOr 3 (some .boolean) K [.ref (z + 9), .int v1] σ (some (.int r)) σf) := by
  intro n
  induction n with
  | zero =>
    refine ⟨?_, ?_, ?_⟩ <;> (intros; rename_i h; cases h)
  | succ n ih =>
    obtain ⟨i0, i1, i2⟩ := ih
    have h1 : ∀ {K : Nat} (_ : 8 * n + 3 ≤ K) {σ : Mem} {σf : Mem} {v1 : Int32} {r : Int32} (_ : f_X2_readOne (f_X2_rec n 2) (f_X2_rec n 0) σ v1 = some (r, σf)), MC l D (Ec ac z) inC z ac (z, aK, aV) (Ac z) yX2_readOne cX2_readOne 4 (some .boolean) K [.ref (z + 9), .int v1] σ (some (.int r)) σf := fun {K} hK {σ σf v1 r} h => c_X2_readOne (B := 8 * n) (f_X2_rec n 2) (fun {K} => i2 (K := K)) (f_X2_rec n 0) (fun {K} => i0 (K := K)) hK h
    have h2 : ∀ {K : Nat} (_ : 8 * n + 4 ≤ K) {σ : Mem} {σf : Mem} {v1 : Int32} {r : Int32} (_ : f_X2_readTerm (f_X2_readOne (f_X2_rec n 2) (f_X2_rec n 0)) σ v1 = some (r, σf)), MC l D (Ec ac z) inC z ac (z, aK, aV) (Ac z) yX2_readTerm cX2_readTerm 3 (some .boolean) K [.ref (z + 9), .int v1] σ (some (.int r)) σf := fun {K} hK {σ σf v1 r} h => c_X2_readTerm (B := 8 * n) _ (fun {K} => h1 (K := K)) hK h
    have h3 : ∀ {K : Nat} (_ : 8 * n + 5 ≤ K) {σ : Mem} {σf : Mem} {v1 : Int32} {r : Int32} (_ : f_X2_readSum (f_X2_readTerm (f_X2_readOne (f_X2_rec n 2) (f_X2_rec n 0))) σ v1 = some (r, σf)), MC l D (Ec ac z) inC z ac (z, aK, aV) (Ac z) yX2_readSum cX2_readSum 4 (some .boolean) K [.ref (z + 9), .int v1] σ (some (.int r)) σf := fun {K} hK {σ σf v1 r} h => c_X2_readSum (B := 8 * n) _ (fun {K} => h2 (K := K)) hK h
    have h4 : ∀ {K : Nat} (_ : 8 * n + 6 ≤ K) {σ : Mem} {σf : Mem} {v1 : Int32} {r : Int32} (_ : f_X2_readNot (f_X2_rec n 1) (f_X2_readSum (f_X2_readTerm (f_X2_readOne (f_X2_rec n 2) (f_X2_rec n 0)))) σ v1 = some (r, σf)), MC l D (Ec ac z) inC z ac (z, aK, aV) (Ac z) yX2_readNot cX2_readNot 4 (some .boolean) K [.ref (z + 9), .int v1] σ (some (.int r)) σf := fun {K} hK {σ σf v1 r} h => c_X2_readNot (B := 8 * n) (f_X2_rec n 1) (fun {K} => i1 (K := K)) _ (fun {K} => h3 (K := K)) hK h
    have h5 : ∀ {K : Nat} (_ : 8 * n + 7 ≤ K) {σ : Mem} {σf : Mem} {v1 : Int32} {r : Int32} (_ : f_X2_readAnd (f_X2_readNot (f_X2_rec n 1) (f_X2_readSum (f_X2_readTerm (f_X2_readOne (f_X2_rec n 2) (f_X2_rec n 0))))) σ v1 = some (r, σf)), MC l D (Ec ac z) inC z ac (z, aK, aV) (Ac z) yX2_readAnd cX2_readAnd 3 (some .boolean) K [.ref (z + 9), .int v1] σ (some (.int r)) σf := fun {K} hK {σ σf v1 r} h => c_X2_readAnd (B := 8 * n) _ (fun {K} => h4 (K := K)) hK h
    exact ⟨fun {K} hK {σ σf v1 r} h => h1 (by omega) h, fun {K} hK {σ σf v1 r} h => h4 (by omega) h, fun {K} hK {σ σf v1 r} h => c_X2_readOr (B := 8 * n) _ (fun {K} => h5 (K := K)) (by omega) h⟩

theorem c_X2_readOr_R {K : Nat} (hK : 110 ≤ K) {σ : Mem} {σf : Mem} {v1 : Int32} {r : Int32} (h : f_X2_readOr_R σ v1 = some (r, σf)) : MC l D (Ec ac z) inC z ac (z, aK, aV) (Ac z) yX2_readOr cX2_readOr 3 (some .boolean) K [.ref (z + 9), .int v1] σ (some (.int r)) σf := (c_X2_rec 12).2.2 (by omega) h

theorem c_X2_readPart {K : Nat}  (hK : 111 ≤ K) {σ : Mem} {σf : Mem} {v1 : Int32} {v2 : Int32} {r : Int32} (h : f_X2_readPart σ v1 v2 = some (r, σf)) : MC l D (Ec ac z) inC z ac (z, aK, aV) (Ac z) yX2_readPart cX2_readPart 3 (some .boolean) K [.ref (z + 9), .int v1, .int v2] σ (some (.int r)) σf := by
  refine MC.of (fun q hq => by have := hq.1; show z ≤ q; omega) (plainFor_of_name (by decide)) (Nat.le_of_ble_eq_true rfl) ?_
  intro p e s m below meth c args C hW ls hl
  replace hl : lv_has ls 3 [(0, .ref (z + 9)), (1, .int v1), (2, .int v2)] := hl
  have hS : va_S (Ac z) s.heap s.heap [] := va_S.rf
  have hx := C.1.1
  have hb := C.1.2.1
  unfold f_X2_readPart at h
  refine lv_aload_n (pc := 0) hx hb dX2_readPart_0 rfl (lv_at hl 0 rfl) ?_
  refine lv_iload_n (pc := 1) hx hb dX2_readPart_1 rfl (lv_at hl 2 rfl) ?_
  obtain ⟨r2, σ3, hc0, h⟩ := o_b2 h
  refine g_virt (pc := 2) (st2 := [.int r2]) (rest := []) C hW hS (c_X2_skip (K := K - 1) (by omega) hc0) mw_X2_128 (kin_5 kdc_9) (Ek_5 kdc_9) rfl (hRoom (by omega) (by decide)) rfl rfl rfl (Nat.le_of_ble_eq_true rfl) hl.1 dX2_readPart_2 (fun H locs hW hS => ?_)
  refine lv_if_eq (pc := 5) (tgt := 25) hx hb dX2_readPart_5 (by decide) (fun hc3 => ?_) (fun hc3 => ?_)
  · replace h := o_pos hc3 h
    refine lv_iconst (pc := 25) (v := 0) hx hb dX2_readPart_25 (by decide) ?_
    exact g_ret (pc := 26) C hW hS rfl dX2_readPart_26 (congrArg (fun q => some (Value.int q)) (o_r h).1) (o_r h).2
  · replace h := o_neg hc3 h
    refine lv_aload_n (pc := 8) hx hb dX2_readPart_8 rfl (lv_at hl 0 rfl) ?_
    refine lv_iconst (pc := 9) (v := 0) hx hb dX2_readPart_9 (by decide) ?_
    obtain ⟨r6, σ7, hc4, h⟩ := o_b2 h
    refine g_virt (pc := 10) (st2 := [.int r6]) (rest := []) C hW hS (c_X2_readOr_R (K := K - 1) (by omega) hc4) mw_X2_131 (kin_5 kdc_9) (Ek_5 kdc_9) rfl (hRoom (by omega) (by decide)) rfl rfl rfl (Nat.le_of_ble_eq_true rfl) hl.1 dX2_readPart_10 (fun H locs hW hS => ?_)
    refine lv_if_eq (pc := 13) (tgt := 25) hx hb dX2_readPart_13 (by decide) (fun hc7 => ?_) (fun hc7 => ?_)
    · replace h := o_pos hc7 h
      refine lv_iconst (pc := 25) (v := 0) hx hb dX2_readPart_25 (by decide) ?_
      exact g_ret (pc := 26) C hW hS rfl dX2_readPart_26 (congrArg (fun q => some (Value.int q)) (o_r h).1) (o_r h).2
    · replace h := o_neg hc7 h
      refine lv_aload_n (pc := 16) hx hb dX2_readPart_16 rfl (lv_at hl 0 rfl) ?_
      refine lv_bipush (pc := 17) (v := -32) hx hb dX2_readPart_17 (by decide) ?_
      obtain ⟨r10, σ11, hc8, h⟩ := o_b2 h
      refine g_virt (pc := 19) (st2 := [.int r10]) (rest := []) C hW hS (c_X2_skip (K := K - 1) (by omega) hc8) mw_X2_128 (kin_5 kdc_9) (Ek_5 kdc_9) rfl (hRoom (by omega) (by decide)) rfl rfl rfl (Nat.le_of_ble_eq_true rfl) hl.1 dX2_readPart_19 (fun H locs hW hS => ?_)
      refine lv_if_ne (pc := 22) (tgt := 27) hx hb dX2_readPart_22 (by decide) (fun hc11 => ?_) (fun hc11 => ?_)
      · replace h := o_neg hc11 h
        refine lv_iload_n (pc := 27) hx hb dX2_readPart_27 rfl (lv_at hl 1 rfl) ?_
        refine lv_if_lt (pc := 28) (tgt := 40) hx hb dX2_readPart_28 (by decide) (fun hc12 => ?_) (fun hc12 => ?_)
        · replace h := o_pos hc12 h
          refine lv_iconst (pc := 40) (v := 0) hx hb dX2_readPart_40 (by decide) ?_
          exact g_ret (pc := 41) C hW hS rfl dX2_readPart_41 (congrArg (fun q => some (Value.int q)) (o_r h).1) (o_r h).2
        · replace h := o_neg hc12 h
          refine lv_iload_n (pc := 31) hx hb dX2_readPart_31 rfl (lv_at hl 1 rfl) ?_
          refine lv_aload_n (pc := 32) hx hb dX2_readPart_32 rfl (lv_at hl 0 rfl) ?_
          refine gf_X2_8 (pc := 33) C hW kdc_9 fl_X2_24 dX2_readPart_33 ?_
          refine ia_len (pc := 36) (v := 3) C hW kdc_14 (by rw [alc_14]; decide) dX2_readPart_36 ?_
          refine lv_icmp_lt (pc := 37) (tgt := 42) hx hb dX2_readPart_37 (by decide) (fun hc13 => ?_) (fun hc13 => ?_)
          · replace h := o_pos hc13 h
            refine lv_aload_n (pc := 42) hx hb dX2_readPart_42 rfl (lv_at hl 0 rfl) ?_
            refine gf_X2_8 (pc := 43) C hW kdc_9 fl_X2_24 dX2_readPart_43 ?_
            refine lv_iload_n (pc := 46) hx hb dX2_readPart_46 rfl (lv_at hl 1 rfl) ?_
            refine lv_aload_n (pc := 47) hx hb dX2_readPart_47 rfl (lv_at hl 0 rfl) ?_
            refine gf_X2_7 (pc := 48) C hW kdc_9 fl_X2_43 dX2_readPart_48 ?_
            obtain ⟨hc14, h⟩ := o_chk h
            refine ia_st (pc := 51) C hW hS kdc_14 alc_14 rfl (inb_in hc14) dX2_readPart_51 (fun H locs hW hS => ?_)
            refine lv_iconst (pc := 52) (v := 1) hx hb dX2_readPart_52 (by decide) ?_
            exact g_ret (pc := 53) C hW hS rfl dX2_readPart_53 (congrArg (fun q => some (Value.int q)) (o_r h).1) (o_r h).2
          · replace h := o_neg hc13 h
            refine lv_iconst (pc := 40) (v := 0) hx hb dX2_readPart_40 (by decide) ?_
            exact g_ret (pc := 41) C hW hS rfl dX2_readPart_41 (congrArg (fun q => some (Value.int q)) (o_r h).1) (o_r h).2
      · replace h := o_pos hc11 h
        refine lv_iconst (pc := 25) (v := 0) hx hb dX2_readPart_25 (by decide) ?_
        exact g_ret (pc := 26) C hW hS rfl dX2_readPart_26 (congrArg (fun q => some (Value.int q)) (o_r h).1) (o_r h).2

theorem w_X2_read_b58 (C : CX cX2_read 2 RX2 (some .int) D ac p m c s args meth (z, aK, aV) (Ac z)) (hK : 112 ≤ K) {r : Int32} {σf : Mem}   (σ : Mem) (k0 : Int32)  {H : Heap} {locs : List Loc} {ls : Array Slot} (hW : WC D ac z σ H) (hS : va_S (Ac z) s.heap H locs) (hl : lv_has ls 2 [(0, .ref (z + 9))]) (h : f_X2_read_b58 σ k0 = some (r, σf)) : W p l e (rma K 0 0) s m args below meth c H locs 0 0 (MQ below (QV D (Ec ac z) inC z (some (.int r)) σf (Ac z)) args s 0 0 (Ac z)) (F0 m 58 ls [.int k0]) := by
  have hx := C.1.1
  have hb := C.1.2.1
  unfold f_X2_read_b58 at h
  refine lv_istore_n (pc := 58) (lv' := [(1, .int k0), (0, .ref (z + 9))]) hx hb dX2_read_58 rfl hl (by decide) rfl (fun ls hl => ?_)
  refine lv_iload_n (pc := 59) hx hb dX2_read_59 rfl (lv_at hl 0 rfl) ?_
  refine lv_if_eq (pc := 60) (tgt := 65) hx hb dX2_read_60 (by decide) (fun hc17 => ?_) (fun hc17 => ?_)
  · replace h := o_pos hc17 h
    refine lv_aload_n (pc := 65) hx hb dX2_read_65 rfl (lv_at hl 1 rfl) ?_
    refine gf_X2_5 (pc := 66) C hW kdc_9 fl_X2_40 dX2_read_66 ?_
    refine lv_if_lt (pc := 69) (tgt := 96) hx hb dX2_read_69 (by decide) (fun hc18 => ?_) (fun hc18 => ?_)
    · replace h := o_pos hc18 h
      refine lv_aload_n (pc := 96) hx hb dX2_read_96 rfl (lv_at hl 1 rfl) ?_
      refine gf_X2_1 (pc := 97) C hW kdc_9 fl_X2_27 dX2_read_97 ?_
      exact g_ret (pc := 100) C hW hS rfl dX2_read_100 (congrArg (fun q => some (Value.int q)) (o_r h).1) (o_r h).2
    · replace h := o_neg hc18 h
      refine lv_aload_n (pc := 72) hx hb dX2_read_72 rfl (lv_at hl 1 rfl) ?_
      refine gf_X2_5 (pc := 73) C hW kdc_9 fl_X2_40 dX2_read_73 ?_
      refine lv_aload_n (pc := 76) hx hb dX2_read_76 rfl (lv_at hl 1 rfl) ?_
      refine gf_X2_3 (pc := 77) C hW kdc_9 fl_X2_18 dX2_read_77 ?_
      refine ia_len (pc := 80) (v := 161) C hW kdc_12 (by rw [alc_12]; decide) dX2_read_80 ?_
      refine lv_icmp_ge (pc := 81) (tgt := 96) hx hb dX2_read_81 (by decide) (fun hc19 => ?_) (fun hc19 => ?_)
      · replace h := o_pos hc19 h
        refine lv_aload_n (pc := 96) hx hb dX2_read_96 rfl (lv_at hl 1 rfl) ?_
        refine gf_X2_1 (pc := 97) C hW kdc_9 fl_X2_27 dX2_read_97 ?_
        exact g_ret (pc := 100) C hW hS rfl dX2_read_100 (congrArg (fun q => some (Value.int q)) (o_r h).1) (o_r h).2
      · replace h := o_neg hc19 h
        refine lv_aload_n (pc := 84) hx hb dX2_read_84 rfl (lv_at hl 1 rfl) ?_
        refine gf_X2_3 (pc := 85) C hW kdc_9 fl_X2_18 dX2_read_85 ?_
        refine lv_aload_n (pc := 88) hx hb dX2_read_88 rfl (lv_at hl 1 rfl) ?_
        refine gf_X2_5 (pc := 89) C hW kdc_9 fl_X2_40 dX2_read_89 ?_
        obtain ⟨hc20, h⟩ := o_chk h
        refine ia_ld (pc := 92) C hW kdc_12 alc_12 rfl (inb_in hc20) dX2_read_92 ?_
        refine lv_goto (pc := 93) (tgt := 100) hx hb dX2_read_93 (by decide) ?_
        exact g_ret (pc := 100) C hW hS rfl dX2_read_100 (congrArg (fun q => some (Value.int q)) (o_r h).1) (o_r h).2
  · replace h := o_neg hc17 h
    refine lv_iconst (pc := 63) (v := -1) hx hb dX2_read_63 (by decide) ?_
    exact g_ret (pc := 64) C hW hS rfl dX2_read_64 (congrArg (fun q => some (Value.int q)) (o_r h).1) (o_r h).2

theorem w_X2_read_b57 (C : CX cX2_read 2 RX2 (some .int) D ac p m c s args meth (z, aK, aV) (Ac z)) (hK : 112 ≤ K) {r : Int32} {σf : Mem}   (σ : Mem)  {H : Heap} {locs : List Loc} {ls : Array Slot} (hW : WC D ac z σ H) (hS : va_S (Ac z) s.heap H locs) (hl : lv_has ls 2 [(0, .ref (z + 9))]) (h : f_X2_read_b57 σ = some (r, σf)) : W p l e (rma K 0 0) s m args below meth c H locs 0 0 (MQ below (QV D (Ec ac z) inC z (some (.int r)) σf (Ac z)) args s 0 0 (Ac z)) (F0 m 57 ls []) := by
  have hx := C.1.1
  have hb := C.1.2.1
  unfold f_X2_read_b57 at h
  refine lv_iconst (pc := 57) (v := 0) hx hb dX2_read_57 (by decide) ?_
  exact w_X2_read_b58 C hK σ (0 : Int32) hW hS (lv_sub hl [0] rfl) h

theorem c_X2_read {K : Nat}  (hK : 112 ≤ K) {σ : Mem} {σf : Mem} {r : Int32} (h : f_X2_read σ = some (r, σf)) : MC l D (Ec ac z) inC z ac (z, aK, aV) (Ac z) yX2_read cX2_read 2 (some .int) K [.ref (z + 9)] σ (some (.int r)) σf := by
  refine MC.of (fun q hq => by have := hq.1; show z ≤ q; omega) (plainFor_of_name (by decide)) (Nat.le_of_ble_eq_true rfl) ?_
  intro p e s m below meth c args C hW ls hl
  replace hl : lv_has ls 2 [(0, .ref (z + 9))] := hl
  have hS : va_S (Ac z) s.heap s.heap [] := va_S.rf
  have hx := C.1.1
  have hb := C.1.2.1
  unfold f_X2_read at h
  refine lv_aload_n (pc := 0) hx hb dX2_read_0 rfl (lv_at hl 0 rfl) ?_
  obtain ⟨σ2, hc0, h⟩ := o_b h
  refine g_virt (pc := 1) (st2 := []) (rest := []) C hW hS (c_X2_splitTape (K := K - 1) (by omega) hc0) mw_X2_37 (kin_5 kdc_9) (Ek_5 kdc_9) rfl (hRoom (by omega) (by decide)) rfl rfl rfl (Nat.le_of_ble_eq_true rfl) hl.1 dX2_read_1 (fun H locs hW hS => ?_)
  refine lv_aload_n (pc := 4) hx hb dX2_read_4 rfl (lv_at hl 0 rfl) ?_
  refine lv_iconst (pc := 5) (v := 0) hx hb dX2_read_5 (by decide) ?_
  refine pf_X2_5 (pc := 6) C hW hS kdc_9 fl_X2_40 dX2_read_6 (fun H locs hW hS => ?_)
  refine lv_aload_n (pc := 9) hx hb dX2_read_9 rfl (lv_at hl 0 rfl) ?_
  refine lv_iconst (pc := 10) (v := 0) hx hb dX2_read_10 (by decide) ?_
  refine pf_X2_7 (pc := 11) C hW hS kdc_9 fl_X2_43 dX2_read_11 (fun H locs hW hS => ?_)
  refine lv_aload_n (pc := 14) hx hb dX2_read_14 rfl (lv_at hl 0 rfl) ?_
  refine lv_iconst (pc := 15) (v := 0) hx hb dX2_read_15 (by decide) ?_
  refine lv_bipush (pc := 16) (v := -20) hx hb dX2_read_16 (by decide) ?_
  obtain ⟨r4, σ5, hc2, h⟩ := o_b2 h
  refine g_virt (pc := 18) (st2 := [.int r4]) (rest := []) C hW hS (c_X2_readPart (K := K - 1) (by omega) hc2) mw_X2_46 (kin_5 kdc_9) (Ek_5 kdc_9) rfl (hRoom (by omega) (by decide)) rfl rfl rfl (Nat.le_of_ble_eq_true rfl) hl.1 dX2_read_18 (fun H locs hW hS => ?_)
  refine lv_if_eq (pc := 21) (tgt := 57) hx hb dX2_read_21 (by decide) (fun hc5 => ?_) (fun hc5 => ?_)
  · replace h := o_pos hc5 h
    exact w_X2_read_b57 C hK σ5 hW hS (lv_sub hl [0] rfl) h
  · replace h := o_neg hc5 h
    refine lv_aload_n (pc := 24) hx hb dX2_read_24 rfl (lv_at hl 0 rfl) ?_
    refine lv_iconst (pc := 25) (v := 1) hx hb dX2_read_25 (by decide) ?_
    refine lv_bipush (pc := 26) (v := -21) hx hb dX2_read_26 (by decide) ?_
    obtain ⟨r8, σ9, hc6, h⟩ := o_b2 h
    refine g_virt (pc := 28) (st2 := [.int r8]) (rest := []) C hW hS (c_X2_readPart (K := K - 1) (by omega) hc6) mw_X2_46 (kin_5 kdc_9) (Ek_5 kdc_9) rfl (hRoom (by omega) (by decide)) rfl rfl rfl (Nat.le_of_ble_eq_true rfl) hl.1 dX2_read_28 (fun H locs hW hS => ?_)
    refine lv_if_eq (pc := 31) (tgt := 57) hx hb dX2_read_31 (by decide) (fun hc9 => ?_) (fun hc9 => ?_)
    · replace h := o_pos hc9 h
      exact w_X2_read_b57 C hK σ9 hW hS (lv_sub hl [0] rfl) h
    · replace h := o_neg hc9 h
      refine lv_aload_n (pc := 34) hx hb dX2_read_34 rfl (lv_at hl 0 rfl) ?_
      refine lv_iconst (pc := 35) (v := 2) hx hb dX2_read_35 (by decide) ?_
      refine lv_bipush (pc := 36) (v := -22) hx hb dX2_read_36 (by decide) ?_
      obtain ⟨r12, σ13, hc10, h⟩ := o_b2 h
      refine g_virt (pc := 38) (st2 := [.int r12]) (rest := []) C hW hS (c_X2_readPart (K := K - 1) (by omega) hc10) mw_X2_46 (kin_5 kdc_9) (Ek_5 kdc_9) rfl (hRoom (by omega) (by decide)) rfl rfl rfl (Nat.le_of_ble_eq_true rfl) hl.1 dX2_read_38 (fun H locs hW hS => ?_)
      refine lv_if_eq (pc := 41) (tgt := 57) hx hb dX2_read_41 (by decide) (fun hc13 => ?_) (fun hc13 => ?_)
      · replace h := o_pos hc13 h
        exact w_X2_read_b57 C hK σ13 hW hS (lv_sub hl [0] rfl) h
      · replace h := o_neg hc13 h
        refine lv_aload_n (pc := 44) hx hb dX2_read_44 rfl (lv_at hl 0 rfl) ?_
        obtain ⟨r16, hc14, h⟩ := o_b h
        refine g_virt (pc := 45) (st2 := [.int r16]) (rest := []) C hW hS (c_X2_current (K := K - 1) (by omega) hc14) mw_X2_50 (kin_5 kdc_9) (Ek_5 kdc_9) rfl (hRoom (by omega) (by decide)) rfl rfl rfl (Nat.le_of_ble_eq_true rfl) hl.1 dX2_read_45 (fun H locs hW hS => ?_)
        refine lv_bipush (pc := 48) (v := -41) hx hb dX2_read_48 (by decide) ?_
        refine lv_icmp_ne (pc := 50) (tgt := 57) hx hb dX2_read_50 (by decide) (fun hc16 => ?_) (fun hc16 => ?_)
        · replace h := o_neg hc16 h
          exact w_X2_read_b57 C hK σ13 hW hS (lv_sub hl [0] rfl) h
        · replace h := o_pos hc16 h
          refine lv_iconst (pc := 53) (v := 1) hx hb dX2_read_53 (by decide) ?_
          refine lv_goto (pc := 54) (tgt := 58) hx hb dX2_read_54 (by decide) ?_
          exact w_X2_read_b58 C hK σ13 (1 : Int32) hW hS (lv_sub hl [0] rfl) h

end
