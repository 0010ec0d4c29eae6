section
variable {p : Program} {l : Launch} {e : Env} {s : State} {m : MethodId} {args : Array Value} {below : List Frame} {meth : Method} {c : Code} {D : va_G} {ac : Nat → ClassId} {z : Nat} {aK aV : Nat → Nat} {K : Nat}

theorem c_X9_in {K : Nat}  (hK : 0 ≤ K) {σ : Mem} {v0 : Int32} {v1 : Int32} {v2 : Int32} {r : Int32} (h : f_X9_in v0 v1 v2 = r) : MC l D (Er ac (z + 80)) inR (z + 80) ac (z, aK, aV) (Ar (z + 80)) yX9_in cX9_in 3 (some .boolean) K [.int v0, .int v1, .int v2] σ (some (.int r)) σ := by
  refine MC.of (fun q hq => by have := hq.1; show z ≤ q; omega) (plainFor_of_name (by decide)) (Nat.le_of_ble_eq_true rfl) ?_
  intro p e s m below meth c args C hW ls hl
  replace hl : lv_has ls 3 [(0, .int v0), (1, .int v1), (2, .int v2)] := hl
  have hS : va_S (Ar (z + 80)) s.heap s.heap [] := va_S.rf
  have hx := C.1.1
  have hb := C.1.2.1
  unfold f_X9_in at h
  refine lv_iload_n (pc := 0) hx hb dX9_in_0 rfl (lv_at hl 0 rfl) ?_
  refine lv_iload_n (pc := 1) hx hb dX9_in_1 rfl (lv_at hl 1 rfl) ?_
  refine lv_icmp_lt (pc := 2) (tgt := 14) hx hb dX9_in_2 (by decide) (fun hc0 => ?_) (fun hc0 => ?_)
  · replace h := o_pos hc0 h
    refine lv_iconst (pc := 14) (v := 0) hx hb dX9_in_14 (by decide) ?_
    exact g_ret (pc := 15) C hW hS rfl dX9_in_15 (congrArg (fun q => some (Value.int q)) h.symm) rfl
  · replace h := o_neg hc0 h
    refine lv_iload_n (pc := 5) hx hb dX9_in_5 rfl (lv_at hl 0 rfl) ?_
    refine lv_iload_n (pc := 6) hx hb dX9_in_6 rfl (lv_at hl 2 rfl) ?_
    refine lv_icmp_gt (pc := 7) (tgt := 14) hx hb dX9_in_7 (by decide) (fun hc1 => ?_) (fun hc1 => ?_)
    · replace h := o_pos hc1 h
      refine lv_iconst (pc := 14) (v := 0) hx hb dX9_in_14 (by decide) ?_
      exact g_ret (pc := 15) C hW hS rfl dX9_in_15 (congrArg (fun q => some (Value.int q)) h.symm) rfl
    · replace h := o_neg hc1 h
      refine lv_iconst (pc := 10) (v := 1) hx hb dX9_in_10 (by decide) ?_
      refine lv_goto (pc := 11) (tgt := 15) hx hb dX9_in_11 (by decide) ?_
      exact g_ret (pc := 15) C hW hS rfl dX9_in_15 (congrArg (fun q => some (Value.int q)) h.symm) rfl

theorem c_X9_within {K : Nat}  (hK : 0 ≤ K) {σ : Mem} {v0 : Int32} {v1 : Int32} {v2 : Int32} {r : Int32} (h : f_X9_within v0 v1 v2 = r) : MC l D (Er ac (z + 80)) inR (z + 80) ac (z, aK, aV) (Ar (z + 80)) yX9_within cX9_within 3 (some .int) K [.int v0, .int v1, .int v2] σ (some (.int r)) σ := by
  refine MC.of (fun q hq => by have := hq.1; show z ≤ q; omega) (plainFor_of_name (by decide)) (Nat.le_of_ble_eq_true rfl) ?_
  intro p e s m below meth c args C hW ls hl
  replace hl : lv_has ls 3 [(0, .int v0), (1, .int v1), (2, .int v2)] := hl
  have hS : va_S (Ar (z + 80)) s.heap s.heap [] := va_S.rf
  have hx := C.1.1
  have hb := C.1.2.1
  unfold f_X9_within at h
  refine lv_iload_n (pc := 0) hx hb dX9_within_0 rfl (lv_at hl 0 rfl) ?_
  refine lv_iload_n (pc := 1) hx hb dX9_within_1 rfl (lv_at hl 1 rfl) ?_
  refine lv_icmp_ge (pc := 2) (tgt := 9) hx hb dX9_within_2 (by decide) (fun hc0 => ?_) (fun hc0 => ?_)
  · replace h := o_pos hc0 h
    refine lv_iload_n (pc := 9) hx hb dX9_within_9 rfl (lv_at hl 0 rfl) ?_
    refine lv_iload_n (pc := 10) hx hb dX9_within_10 rfl (lv_at hl 2 rfl) ?_
    refine lv_icmp_le (pc := 11) (tgt := 18) hx hb dX9_within_11 (by decide) (fun hc1 => ?_) (fun hc1 => ?_)
    · replace h := o_pos hc1 h
      refine lv_iload_n (pc := 18) hx hb dX9_within_18 rfl (lv_at hl 0 rfl) ?_
      exact g_ret (pc := 19) C hW hS rfl dX9_within_19 (congrArg (fun q => some (Value.int q)) h.symm) rfl
    · replace h := o_neg hc1 h
      refine lv_iload_n (pc := 14) hx hb dX9_within_14 rfl (lv_at hl 2 rfl) ?_
      refine lv_goto (pc := 15) (tgt := 19) hx hb dX9_within_15 (by decide) ?_
      exact g_ret (pc := 19) C hW hS rfl dX9_within_19 (congrArg (fun q => some (Value.int q)) h.symm) rfl
  · replace h := o_neg hc0 h
    refine lv_iload_n (pc := 5) hx hb dX9_within_5 rfl (lv_at hl 1 rfl) ?_
    refine lv_goto (pc := 6) (tgt := 19) hx hb dX9_within_6 (by decide) ?_
    exact g_ret (pc := 19) C hW hS rfl dX9_within_19 (congrArg (fun q => some (Value.int q)) h.symm) rfl

theorem w_X9_ones_b4 (C : CX cX9_ones 3 RX9 (some .int) D ac p m c s args meth (z, aK, aV) (Ar (z + 80))) (hK : 0 ≤ K) {r : Int32}   {σ : Mem} (v0 : Int32)  : ∀ (n : Nat) (v1 : Int32) (v2 : Int32) {H : Heap} {locs : List Loc} {ls : Array Slot} (hW : WR D ac (z + 80) σ H) (hS : va_S (Ar (z + 80)) s.heap H locs) (hl : lv_has ls 3 [(0, .int v0), (1, .int v1), (2, .int v2)]) (h : f_X9_ones_b4 v0 n v1 v2 = some r), W p l e (rma K 0 0) s m args below meth c H locs 0 0 (MQ below (QV D (Er ac (z + 80)) inR (z + 80) (some (.int r)) σ (Ar (z + 80))) args s 0 0 (Ar (z + 80))) (F0 m 4 ls []) := by
  have hx := C.1.1
  have hb := C.1.2.1
  intro n
  induction n with
  | zero =>
    intro v1 v2 H locs ls  hW hS hl h
    cases h
  | succ n ih =>
    intro v1 v2 H locs ls  hW hS hl h
    rw [f_X9_ones_b4.eq_2] at h
    refine lv_iload_n (pc := 4) hx hb dX9_ones_4 rfl (lv_at hl 2 rfl) ?_
    refine lv_bipush (pc := 5) (v := 8) hx hb dX9_ones_5 (by decide) ?_
    refine lv_icmp_ge (pc := 7) (tgt := 24) hx hb dX9_ones_7 (by decide) (fun hc0 => ?_) (fun hc0 => ?_)
    · replace h := o_pos hc0 h
      refine lv_iload_n (pc := 24) hx hb dX9_ones_24 rfl (lv_at hl 1 rfl) ?_
      exact g_ret (pc := 25) C hW hS rfl dX9_ones_25 (congrArg (fun q => some (Value.int q)) (Option.some.inj h).symm) rfl
    · replace h := o_neg hc0 h
      refine lv_iload_n (pc := 10) hx hb dX9_ones_10 rfl (lv_at hl 1 rfl) ?_
      refine lv_iload_n (pc := 11) hx hb dX9_ones_11 rfl (lv_at hl 0 rfl) ?_
      refine lv_iload_n (pc := 12) hx hb dX9_ones_12 rfl (lv_at hl 2 rfl) ?_
      refine lv_ishr (pc := 13) hx hb dX9_ones_13 ?_
      refine lv_iconst (pc := 14) (v := 1) hx hb dX9_ones_14 (by decide) ?_
      refine lv_iand (pc := 15) hx hb dX9_ones_15 ?_
      refine lv_iadd (pc := 16) hx hb dX9_ones_16 ?_
      obtain ⟨x2, hxx2, h⟩ := o_d h
      refine g_top hxx2 ?_
      refine lv_istore_n (pc := 17) (lv' := [(1, .int x2), (0, .int v0), (2, .int v2)]) hx hb dX9_ones_17 rfl hl (by decide) rfl (fun ls hl => ?_)
      refine lv_iinc (pc := 18) (v := (v2 + 1)) (lv' := [(2, .int (v2 + 1)), (1, .int x2), (0, .int v0)]) hx hb dX9_ones_18 hl (k := 2) rfl rfl (by decide) rfl (fun ls hl => ?_)
      refine lv_goto (pc := 21) (tgt := 4) hx hb dX9_ones_21 (by decide) ?_
      exact ih x2 (v2 + 1) hW hS (lv_sub hl [2, 1, 0] rfl) h

theorem c_X9_ones {K : Nat}  (hK : 0 ≤ K) {σ : Mem} {v0 : Int32} {r : Int32} (h : f_X9_ones v0 = some r) : MC l D (Er ac (z + 80)) inR (z + 80) ac (z, aK, aV) (Ar (z + 80)) yX9_ones cX9_ones 3 (some .int) K [.int v0] σ (some (.int r)) σ := by
  refine MC.of (fun q hq => by have := hq.1; show z ≤ q; omega) (plainFor_of_name (by decide)) (Nat.le_of_ble_eq_true rfl) ?_
  intro p e s m below meth c args C hW ls hl
  replace hl : lv_has ls 3 [(0, .int v0)] := hl
  have hS : va_S (Ar (z + 80)) s.heap s.heap [] := va_S.rf
  have hx := C.1.1
  have hb := C.1.2.1
  unfold f_X9_ones at h
  refine lv_iconst (pc := 0) (v := 0) hx hb dX9_ones_0 (by decide) ?_
  refine lv_istore_n (pc := 1) (lv' := [(1, .int (0 : Int32)), (0, .int v0)]) hx hb dX9_ones_1 rfl hl (by decide) rfl (fun ls hl => ?_)
  refine lv_iconst (pc := 2) (v := 0) hx hb dX9_ones_2 (by decide) ?_
  refine lv_istore_n (pc := 3) (lv' := [(2, .int (0 : Int32)), (1, .int (0 : Int32)), (0, .int v0)]) hx hb dX9_ones_3 rfl hl (by decide) rfl (fun ls hl => ?_)
  exact w_X9_ones_b4 C hK v0 FU (0 : Int32) (0 : Int32) hW hS (lv_sub hl [2, 1, 0] rfl) h

theorem c_X9_isMan {K : Nat}  (hK : 1 ≤ K) {σ : Mem} {v1 : Int32} {r : Int32} (h : f_X9_isMan σ v1 = r) : MC l D (Er ac (z + 80)) inR (z + 80) ac (z, aK, aV) (Ar (z + 80)) yX9_isMan cX9_isMan 2 (some .boolean) K [.ref (z + 80 + 0), .int v1] σ (some (.int r)) σ := by
  refine MC.of (fun q hq => by have := hq.1; show z ≤ q; omega) (plainFor_of_name (by decide)) (Nat.le_of_ble_eq_true rfl) ?_
  intro p e s m below meth c args C hW ls hl
  replace hl : lv_has ls 2 [(0, .ref (z + 80 + 0)), (1, .int v1)] := hl
  have hS : va_S (Ar (z + 80)) s.heap s.heap [] := va_S.rf
  have hx := C.1.1
  have hb := C.1.2.1
  unfold f_X9_isMan at h
  refine lv_iload_n (pc := 0) hx hb dX9_isMan_0 rfl (lv_at hl 1 rfl) ?_
  refine lv_iconst (pc := 1) (v := 0) hx hb dX9_isMan_1 (by decide) ?_
  refine lv_aload_n (pc := 2) hx hb dX9_isMan_2 rfl (lv_at hl 0 rfl) ?_
  refine gf_X9_0 (pc := 3) C hW fl_X9_81 dX9_isMan_3 ?_
  refine lv_iconst (pc := 6) (v := 1) hx hb dX9_isMan_6 (by decide) ?_
  refine lv_isub (pc := 7) hx hb dX9_isMan_7 ?_
  refine g_stat (pc := 8) (st2 := [.int (f_X9_in v1 (0 : Int32) ((σ 0 0) - (1 : Int32)))]) (rest := []) C hW hS (c_X9_in (K := K - 1) (by omega) rfl) mw_X9_84 (hRoom (by omega) (by decide)) rfl rfl rfl (Nat.le_of_ble_eq_true rfl) hl.1 dX9_isMan_8 (fun H locs hW hS => ?_)
  exact g_ret (pc := 11) C hW hS (nar_b (bz_X9_in ..)) dX9_isMan_11 (congrArg (fun q => some (Value.int q)) h.symm) rfl

theorem c_X9_isVow {K : Nat}  (hK : 1 ≤ K) {σ : Mem} {v1 : Int32} {r : Int32} (h : f_X9_isVow σ v1 = r) : MC l D (Er ac (z + 80)) inR (z + 80) ac (z, aK, aV) (Ar (z + 80)) yX9_isVow cX9_isVow 2 (some .boolean) K [.ref (z + 80 + 0), .int v1] σ (some (.int r)) σ := by
  refine MC.of (fun q hq => by have := hq.1; show z ≤ q; omega) (plainFor_of_name (by decide)) (Nat.le_of_ble_eq_true rfl) ?_
  intro p e s m below meth c args C hW ls hl
  replace hl : lv_has ls 2 [(0, .ref (z + 80 + 0)), (1, .int v1)] := hl
  have hS : va_S (Ar (z + 80)) s.heap s.heap [] := va_S.rf
  have hx := C.1.1
  have hb := C.1.2.1
  unfold f_X9_isVow at h
  refine lv_iload_n (pc := 0) hx hb dX9_isVow_0 rfl (lv_at hl 1 rfl) ?_
  refine lv_iconst (pc := 1) (v := 0) hx hb dX9_isVow_1 (by decide) ?_
  refine lv_aload_n (pc := 2) hx hb dX9_isVow_2 rfl (lv_at hl 0 rfl) ?_
  refine gf_X9_4 (pc := 3) C hW fl_X9_88 dX9_isVow_3 ?_
  refine lv_iconst (pc := 6) (v := 1) hx hb dX9_isVow_6 (by decide) ?_
  refine lv_isub (pc := 7) hx hb dX9_isVow_7 ?_
  refine g_stat (pc := 8) (st2 := [.int (f_X9_in v1 (0 : Int32) ((σ 0 4) - (1 : Int32)))]) (rest := []) C hW hS (c_X9_in (K := K - 1) (by omega) rfl) mw_X9_84 (hRoom (by omega) (by decide)) rfl rfl rfl (Nat.le_of_ble_eq_true rfl) hl.1 dX9_isVow_8 (fun H locs hW hS => ?_)
  exact g_ret (pc := 11) C hW hS (nar_b (bz_X9_in ..)) dX9_isVow_11 (congrArg (fun q => some (Value.int q)) h.symm) rfl

theorem c_X9_stands {K : Nat}  (hK : 0 ≤ K) {σ : Mem} {v1 : Int32} {r : Int32} (h : f_X9_stands σ v1 = some r) : MC l D (Er ac (z + 80)) inR (z + 80) ac (z, aK, aV) (Ar (z + 80)) yX9_stands cX9_stands 2 (some .boolean) K [.ref (z + 80 + 0), .int v1] σ (some (.int r)) σ := by
  refine MC.of (fun q hq => by have := hq.1; show z ≤ q; omega) (plainFor_of_name (by decide)) (Nat.le_of_ble_eq_true rfl) ?_
  intro p e s m below meth c args C hW ls hl
  replace hl : lv_has ls 2 [(0, .ref (z + 80 + 0)), (1, .int v1)] := hl
  have hS : va_S (Ar (z + 80)) s.heap s.heap [] := va_S.rf
  have hx := C.1.1
  have hb := C.1.2.1
  unfold f_X9_stands at h
  refine lv_aload_n (pc := 0) hx hb dX9_stands_0 rfl (lv_at hl 0 rfl) ?_
  refine gf_X9_5 (pc := 1) C hW fl_X9_19 dX9_stands_1 ?_
  refine lv_bipush (pc := 4) (v := 6) hx hb dX9_stands_4 (by decide) ?_
  refine lv_iload_n (pc := 6) hx hb dX9_stands_6 rfl (lv_at hl 1 rfl) ?_
  refine lv_imul (pc := 7) hx hb dX9_stands_7 ?_
  refine lv_iconst (pc := 8) (v := 5) hx hb dX9_stands_8 (by decide) ?_
  refine lv_iadd (pc := 9) hx hb dX9_stands_9 ?_
  obtain ⟨hc0, h⟩ := o_chk h
  refine ir_ld (pc := 10) (k := 4) C hW (by decide) (by decide) rfl rfl (inb_in hc0) dX9_stands_10 ?_
  refine lv_if_ne (pc := 11) (tgt := 18) hx hb dX9_stands_11 (by decide) (fun hc1 => ?_) (fun hc1 => ?_)
  · replace h := o_neg hc1 h
    refine lv_iconst (pc := 18) (v := 0) hx hb dX9_stands_18 (by decide) ?_
    exact g_ret (pc := 19) C hW hS rfl dX9_stands_19 (congrArg (fun q => some (Value.int q)) (Option.some.inj h).symm) rfl
  · replace h := o_pos hc1 h
    refine lv_iconst (pc := 14) (v := 1) hx hb dX9_stands_14 (by decide) ?_
    refine lv_goto (pc := 15) (tgt := 19) hx hb dX9_stands_15 (by decide) ?_
    exact g_ret (pc := 19) C hW hS rfl dX9_stands_19 (congrArg (fun q => some (Value.int q)) (Option.some.inj h).symm) rfl

theorem c_X9_count {K : Nat}  (hK : 0 ≤ K) {σ : Mem} {v1 : Int32} {r : Int32} (h : f_X9_count σ v1 = r) : MC l D (Er ac (z + 80)) inR (z + 80) ac (z, aK, aV) (Ar (z + 80)) yX9_count cX9_count 2 (some .int) K [.ref (z + 80 + 0), .int v1] σ (some (.int r)) σ := by
  refine MC.of (fun q hq => by have := hq.1; show z ≤ q; omega) (plainFor_of_name (by decide)) (Nat.le_of_ble_eq_true rfl) ?_
  intro p e s m below meth c args C hW ls hl
  replace hl : lv_has ls 2 [(0, .ref (z + 80 + 0)), (1, .int v1)] := hl
  have hS : va_S (Ar (z + 80)) s.heap s.heap [] := va_S.rf
  have hx := C.1.1
  have hb := C.1.2.1
  unfold f_X9_count at h
  refine lv_iload_n (pc := 0) hx hb dX9_count_0 rfl (lv_at hl 1 rfl) ?_
  by_cases hc0 : v1 = 0
  · replace h := o_pos hc0 h
    refine lv_tableIn (pc := 1) (off := 39) (tgt := 40) hx hb dX9_count_1 (by rw [hc0]; decide) (by rw [hc0]; decide) (by rw [hc0]; rfl) (by decide) ?_
    refine lv_aload_n (pc := 40) hx hb dX9_count_40 rfl (lv_at hl 0 rfl) ?_
    refine gf_X9_0 (pc := 41) C hW fl_X9_81 dX9_count_41 ?_
    exact g_ret (pc := 44) C hW hS rfl dX9_count_44 (congrArg (fun q => some (Value.int q)) h.symm) rfl
  replace h := o_neg hc0 h
  by_cases hc1 : v1 = 1
  · replace h := o_pos hc1 h
    refine lv_tableIn (pc := 1) (off := 44) (tgt := 45) hx hb dX9_count_1 (by rw [hc1]; decide) (by rw [hc1]; decide) (by rw [hc1]; rfl) (by decide) ?_
    refine lv_aload_n (pc := 45) hx hb dX9_count_45 rfl (lv_at hl 0 rfl) ?_
    refine gf_X9_4 (pc := 46) C hW fl_X9_88 dX9_count_46 ?_
    exact g_ret (pc := 49) C hW hS rfl dX9_count_49 (congrArg (fun q => some (Value.int q)) h.symm) rfl
  replace h := o_neg hc1 h
  by_cases hc2 : v1 = 2
  · replace h := o_pos hc2 h
    refine lv_tableIn (pc := 1) (off := 49) (tgt := 50) hx hb dX9_count_1 (by rw [hc2]; decide) (by rw [hc2]; decide) (by rw [hc2]; rfl) (by decide) ?_
    refine lv_aload_n (pc := 50) hx hb dX9_count_50 rfl (lv_at hl 0 rfl) ?_
    refine gf_X9_6 (pc := 51) C hW fl_X9_91 dX9_count_51 ?_
    exact g_ret (pc := 54) C hW hS rfl dX9_count_54 (congrArg (fun q => some (Value.int q)) h.symm) rfl
  replace h := o_neg hc2 h
  by_cases hc3 : v1 = 3
  · replace h := o_pos hc3 h
    refine lv_tableIn (pc := 1) (off := 54) (tgt := 55) hx hb dX9_count_1 (by rw [hc3]; decide) (by rw [hc3]; decide) (by rw [hc3]; rfl) (by decide) ?_
    refine lv_aload_n (pc := 55) hx hb dX9_count_55 rfl (lv_at hl 0 rfl) ?_
    refine gf_X9_11 (pc := 56) C hW fl_X9_94 dX9_count_56 ?_
    exact g_ret (pc := 59) C hW hS rfl dX9_count_59 (congrArg (fun q => some (Value.int q)) h.symm) rfl
  replace h := o_neg hc3 h
  by_cases hc4 : v1 = 4
  · replace h := o_pos hc4 h
    refine lv_tableIn (pc := 1) (off := 59) (tgt := 60) hx hb dX9_count_1 (by rw [hc4]; decide) (by rw [hc4]; decide) (by rw [hc4]; rfl) (by decide) ?_
    refine lv_aload_n (pc := 60) hx hb dX9_count_60 rfl (lv_at hl 0 rfl) ?_
    refine gf_X9_12 (pc := 61) C hW fl_X9_97 dX9_count_61 ?_
    exact g_ret (pc := 64) C hW hS rfl dX9_count_64 (congrArg (fun q => some (Value.int q)) h.symm) rfl
  replace h := o_neg hc4 h
  by_cases hc5 : v1 = 5
  · replace h := o_pos hc5 h
    refine lv_tableIn (pc := 1) (off := 64) (tgt := 65) hx hb dX9_count_1 (by rw [hc5]; decide) (by rw [hc5]; decide) (by rw [hc5]; rfl) (by decide) ?_
    refine lv_aload_n (pc := 65) hx hb dX9_count_65 rfl (lv_at hl 0 rfl) ?_
    refine gf_X9_8 (pc := 66) C hW fl_X9_73 dX9_count_66 ?_
    exact g_ret (pc := 69) C hW hS rfl dX9_count_69 (congrArg (fun q => some (Value.int q)) h.symm) rfl
  replace h := o_neg hc5 h
  have hzhc0 := lv_neT (k := 0) (a := 0) hc0 (by decide)
  have hzhc1 := lv_neT (k := 1) (a := 1) hc1 (by decide)
  have hzhc2 := lv_neT (k := 2) (a := 2) hc2 (by decide)
  have hzhc3 := lv_neT (k := 3) (a := 3) hc3 (by decide)
  have hzhc4 := lv_neT (k := 4) (a := 4) hc4 (by decide)
  have hzhc5 := lv_neT (k := 5) (a := 5) hc5 (by decide)
  refine lv_tableOut (pc := 1) (tgt := 70) hx hb dX9_count_1 (by omega) (by decide) ?_
  refine lv_bipush (pc := 70) (v := -2) hx hb dX9_count_70 (by decide) ?_
  exact g_ret (pc := 72) C hW hS rfl dX9_count_72 (congrArg (fun q => some (Value.int q)) h.symm) rfl

theorem c_X9_isByte {K : Nat}  (hK : 1 ≤ K) {σ : Mem} {v0 : Int32} {r : Int32} (h : f_X9_isByte v0 = r) : MC l D (Er ac (z + 80)) inR (z + 80) ac (z, aK, aV) (Ar (z + 80)) yX9_isByte cX9_isByte 1 (some .boolean) K [.int v0] σ (some (.int r)) σ := by
  refine MC.of (fun q hq => by have := hq.1; show z ≤ q; omega) (plainFor_of_name (by decide)) (Nat.le_of_ble_eq_true rfl) ?_
  intro p e s m below meth c args C hW ls hl
  replace hl : lv_has ls 1 [(0, .int v0)] := hl
  have hS : va_S (Ar (z + 80)) s.heap s.heap [] := va_S.rf
  have hx := C.1.1
  have hb := C.1.2.1
  unfold f_X9_isByte at h
  refine lv_iload_n (pc := 0) hx hb dX9_isByte_0 rfl (lv_at hl 0 rfl) ?_
  refine lv_iconst (pc := 1) (v := 0) hx hb dX9_isByte_1 (by decide) ?_
  refine lv_sipush (pc := 2) (v := 255) hx hb dX9_isByte_2 (by decide) ?_
  refine g_stat (pc := 5) (st2 := [.int (f_X9_in v0 (0 : Int32) (255 : Int32))]) (rest := []) C hW hS (c_X9_in (K := K - 1) (by omega) rfl) mw_X9_84 (hRoom (by omega) (by decide)) rfl rfl rfl (Nat.le_of_ble_eq_true rfl) hl.1 dX9_isByte_5 (fun H locs hW hS => ?_)
  exact g_ret (pc := 8) C hW hS (nar_b (bz_X9_in ..)) dX9_isByte_8 (congrArg (fun q => some (Value.int q)) h.symm) rfl

theorem w_X9_feed_b125 (C : CX cX9_feed 8 RX9 (some .int) D ac p m c s args meth (z, aK, aV) (Ar (z + 80))) (hK : 2 ≤ K) {r : Int32} {σf : Mem}   (σ : Mem) (v1 : Int32) (v2 : Int32) (v3 : Int32) (v4 : Int32) (v5 : Int32) (v6 : Int32) (v7 : Int32) (k1 : Int32) (k2 : Int32) (s68 : Mem → Int32 → Option (Int32 × Mem)) (hs68 : ∀ (σ : Mem) (v7 : Int32) {H : Heap} {locs : List Loc} {ls : Array Slot} (_ : WR D ac (z + 80) σ H) (_ : va_S (Ar (z + 80)) s.heap H locs) (_ : lv_has ls 8 [(0, .ref (z + 80 + 0)), (1, .int v1), (2, .int v2), (3, .int v3), (4, .int v4), (5, .int v5), (6, .int v6), (7, .int v7)]) (_ : s68 σ v7 = some (r, σf)), W p l e (rma K 0 0) s m args below meth c H locs 0 0 (MQ below (QV D (Er ac (z + 80)) inR (z + 80) (some (.int r)) σf (Ar (z + 80))) args s 0 0 (Ar (z + 80))) (F0 m 68 ls [])) {H : Heap} {locs : List Loc} {ls : Array Slot} (hW : WR D ac (z + 80) σ H) (hS : va_S (Ar (z + 80)) s.heap H locs) (hl : lv_has ls 8 [(0, .ref (z + 80 + 0)), (1, .int v1), (2, .int v2), (3, .int v3), (4, .int v4), (5, .int v5), (6, .int v6), (7, .int v7)]) (h : f_X9_feed_b125 s68 σ v1 v2 v3 v4 v5 v6 v7 k1 k2 = some (r, σf)) : W p l e (rma K 0 0) s m args below meth c H locs 0 0 (MQ below (QV D (Er ac (z + 80)) inR (z + 80) (some (.int r)) σf (Ar (z + 80))) args s 0 0 (Ar (z + 80))) (F0 m 125 ls [.int k2, .int k1, .ref (z + 80 + 5)]) := by
  have hx := C.1.1
  have hb := C.1.2.1
  unfold f_X9_feed_b125 at h
  obtain ⟨hc12, h⟩ := o_chk h
  refine ir_st (pc := 125) (k := 5) C hW hS (by decide) (by decide) rfl rfl (inb_in hc12) dX9_feed_125 (fun H locs hW hS => ?_)
  refine lv_aload_n (pc := 126) hx hb dX9_feed_126 rfl (lv_at hl 0 rfl) ?_
  refine lv_dup (pc := 127) hx hb dX9_feed_127 rfl ?_
  refine gf_X9_8 (pc := 128) C hW fl_X9_73 dX9_feed_128 ?_
  refine lv_iconst (pc := 131) (v := 1) hx hb dX9_feed_131 (by decide) ?_
  refine lv_iadd (pc := 132) hx hb dX9_feed_132 ?_
  refine pf_X9_8 (pc := 133) C hW hS fl_X9_73 dX9_feed_133 (fun H locs hW hS => ?_)
  obtain ⟨σ14, hσ14, h⟩ := o_d h
  replace hW : WR D ac (z + 80) σ14 H := by rw [← hσ14]; exact hW
  refine lv_iinc (pc := 136) (v := (v7 + 1)) (lv' := [(7, .int (v7 + 1)), (0, .ref (z + 80 + 0)), (1, .int v1), (2, .int v2), (3, .int v3), (4, .int v4), (5, .int v5), (6, .int v6)]) hx hb dX9_feed_136 hl (k := 7) rfl rfl (by decide) rfl (fun ls hl => ?_)
  refine lv_goto (pc := 139) (tgt := 68) hx hb dX9_feed_139 (by decide) ?_
  exact hs68 σ14 (v7 + 1) hW hS (lv_sub hl [1, 2, 3, 4, 5, 6, 7, 0] rfl) h

theorem w_X9_feed_b68 (C : CX cX9_feed 8 RX9 (some .int) D ac p m c s args meth (z, aK, aV) (Ar (z + 80))) (hK : 2 ≤ K) {r : Int32} {σf : Mem}   (v1 : Int32) (v2 : Int32) (v3 : Int32) (v4 : Int32) (v5 : Int32) (v6 : Int32)  : ∀ (n : Nat) (σ : Mem) (v7 : Int32) {H : Heap} {locs : List Loc} {ls : Array Slot} (hW : WR D ac (z + 80) σ H) (hS : va_S (Ar (z + 80)) s.heap H locs) (hl : lv_has ls 8 [(0, .ref (z + 80 + 0)), (1, .int v1), (2, .int v2), (3, .int v3), (4, .int v4), (5, .int v5), (6, .int v6), (7, .int v7)]) (h : f_X9_feed_b68 v1 v2 v3 v4 v5 v6 n σ v7 = some (r, σf)), W p l e (rma K 0 0) s m args below meth c H locs 0 0 (MQ below (QV D (Er ac (z + 80)) inR (z + 80) (some (.int r)) σf (Ar (z + 80))) args s 0 0 (Ar (z + 80))) (F0 m 68 ls []) := by
  have hx := C.1.1
  have hb := C.1.2.1
  intro n
  induction n with
  | zero =>
    intro σ v7 H locs ls  hW hS hl h
    cases h
  | succ n ih =>
    intro σ v7 H locs ls  hW hS hl h
    rw [f_X9_feed_b68.eq_2] at h
    refine lv_iload (pc := 68) hx hb dX9_feed_68 (lv_at hl 7 rfl) ?_
    refine lv_iload_n (pc := 70) hx hb dX9_feed_70 rfl (lv_at hl 1 rfl) ?_
    refine lv_icmp_ge (pc := 71) (tgt := 142) hx hb dX9_feed_71 (by decide) (fun hc7 => ?_) (fun hc7 => ?_)
    · replace h := o_pos hc7 h
      refine lv_aload_n (pc := 142) hx hb dX9_feed_142 rfl (lv_at hl 0 rfl) ?_
      refine gf_X9_8 (pc := 143) C hW fl_X9_73 dX9_feed_143 ?_
      exact g_ret (pc := 146) C hW hS rfl dX9_feed_146 (congrArg (fun q => some (Value.int q)) (o_r h).1) (o_r h).2
    · replace h := o_neg hc7 h
      refine lv_aload_n (pc := 74) hx hb dX9_feed_74 rfl (lv_at hl 0 rfl) ?_
      refine gf_X9_7 (pc := 75) C hW fl_X9_22 dX9_feed_75 ?_
      refine lv_aload_n (pc := 78) hx hb dX9_feed_78 rfl (lv_at hl 0 rfl) ?_
      refine gf_X9_8 (pc := 79) C hW fl_X9_73 dX9_feed_79 ?_
      refine lv_iload (pc := 82) hx hb dX9_feed_82 (lv_at hl 7 rfl) ?_
      refine lv_if_ne (pc := 84) (tgt := 91) hx hb dX9_feed_84 (by decide) (fun hc8 => ?_) (fun hc8 => ?_)
      · replace h := o_neg hc8 h
        refine lv_iload (pc := 91) hx hb dX9_feed_91 (lv_at hl 7 rfl) ?_
        refine lv_iconst (pc := 93) (v := 1) hx hb dX9_feed_93 (by decide) ?_
        refine lv_icmp_ne (pc := 94) (tgt := 101) hx hb dX9_feed_94 (by decide) (fun hc9 => ?_) (fun hc9 => ?_)
        · replace h := o_neg hc9 h
          refine lv_iload (pc := 101) hx hb dX9_feed_101 (lv_at hl 7 rfl) ?_
          refine lv_iconst (pc := 103) (v := 2) hx hb dX9_feed_103 (by decide) ?_
          refine lv_icmp_ne (pc := 104) (tgt := 112) hx hb dX9_feed_104 (by decide) (fun hc10 => ?_) (fun hc10 => ?_)
          · replace h := o_neg hc10 h
            refine lv_iload (pc := 112) hx hb dX9_feed_112 (lv_at hl 7 rfl) ?_
            refine lv_iconst (pc := 114) (v := 3) hx hb dX9_feed_114 (by decide) ?_
            refine lv_icmp_ne (pc := 115) (tgt := 123) hx hb dX9_feed_115 (by decide) (fun hc11 => ?_) (fun hc11 => ?_)
            · replace h := o_neg hc11 h
              refine lv_iload (pc := 123) hx hb dX9_feed_123 (lv_at hl 6 rfl) ?_
              exact w_X9_feed_b125 C hK σ v1 v2 v3 v4 v5 v6 v7 (σ 0 8) v6 (f_X9_feed_b68 v1 v2 v3 v4 v5 v6 n) (fun σ v7 {H : Heap} {locs : List Loc} {ls : Array Slot}  hW hS hl h => ih σ v7 hW hS hl h) hW hS (lv_sub hl [0, 1, 2, 3, 4, 5, 6, 7] rfl) h
            · replace h := o_pos hc11 h
              refine lv_iload (pc := 118) hx hb dX9_feed_118 (lv_at hl 5 rfl) ?_
              refine lv_goto (pc := 120) (tgt := 125) hx hb dX9_feed_120 (by decide) ?_
              exact w_X9_feed_b125 C hK σ v1 v2 v3 v4 v5 v6 v7 (σ 0 8) v5 (f_X9_feed_b68 v1 v2 v3 v4 v5 v6 n) (fun σ v7 {H : Heap} {locs : List Loc} {ls : Array Slot}  hW hS hl h => ih σ v7 hW hS hl h) hW hS (lv_sub hl [0, 1, 2, 3, 4, 5, 6, 7] rfl) h
          · replace h := o_pos hc10 h
            refine lv_iload (pc := 107) hx hb dX9_feed_107 (lv_at hl 4 rfl) ?_
            refine lv_goto (pc := 109) (tgt := 125) hx hb dX9_feed_109 (by decide) ?_
            exact w_X9_feed_b125 C hK σ v1 v2 v3 v4 v5 v6 v7 (σ 0 8) v4 (f_X9_feed_b68 v1 v2 v3 v4 v5 v6 n) (fun σ v7 {H : Heap} {locs : List Loc} {ls : Array Slot}  hW hS hl h => ih σ v7 hW hS hl h) hW hS (lv_sub hl [0, 1, 2, 3, 4, 5, 6, 7] rfl) h
        · replace h := o_pos hc9 h
          refine lv_iload_n (pc := 97) hx hb dX9_feed_97 rfl (lv_at hl 3 rfl) ?_
          refine lv_goto (pc := 98) (tgt := 125) hx hb dX9_feed_98 (by decide) ?_
          exact w_X9_feed_b125 C hK σ v1 v2 v3 v4 v5 v6 v7 (σ 0 8) v3 (f_X9_feed_b68 v1 v2 v3 v4 v5 v6 n) (fun σ v7 {H : Heap} {locs : List Loc} {ls : Array Slot}  hW hS hl h => ih σ v7 hW hS hl h) hW hS (lv_sub hl [0, 1, 2, 3, 4, 5, 6, 7] rfl) h
      · replace h := o_pos hc8 h
        refine lv_iload_n (pc := 87) hx hb dX9_feed_87 rfl (lv_at hl 2 rfl) ?_
        refine lv_goto (pc := 88) (tgt := 125) hx hb dX9_feed_88 (by decide) ?_
        exact w_X9_feed_b125 C hK σ v1 v2 v3 v4 v5 v6 v7 (σ 0 8) v2 (f_X9_feed_b68 v1 v2 v3 v4 v5 v6 n) (fun σ v7 {H : Heap} {locs : List Loc} {ls : Array Slot}  hW hS hl h => ih σ v7 hW hS hl h) hW hS (lv_sub hl [0, 1, 2, 3, 4, 5, 6, 7] rfl) h

theorem c_X9_feed {K : Nat}  (hK : 2 ≤ K) {σ : Mem} {σf : Mem} {v1 : Int32} {v2 : Int32} {v3 : Int32} {v4 : Int32} {v5 : Int32} {v6 : Int32} {r : Int32} (h : f_X9_feed σ v1 v2 v3 v4 v5 v6 = some (r, σf)) : MC l D (Er ac (z + 80)) inR (z + 80) ac (z, aK, aV) (Ar (z + 80)) yX9_feed cX9_feed 8 (some .int) K [.ref (z + 80 + 0), .int v1, .int v2, .int v3, .int v4, .int v5, .int v6] σ (some (.int r)) σf := by
  refine MC.of (fun q hq => by have := hq.1; show z ≤ q; omega) (plainFor_of_name (by decide)) (Nat.le_of_ble_eq_true rfl) ?_
  intro p e s m below meth c args C hW ls hl
  replace hl : lv_has ls 8 [(0, .ref (z + 80 + 0)), (1, .int v1), (2, .int v2), (3, .int v3), (4, .int v4), (5, .int v5), (6, .int v6)] := hl
  have hS : va_S (Ar (z + 80)) s.heap s.heap [] := va_S.rf
  have hx := C.1.1
  have hb := C.1.2.1
  unfold f_X9_feed at h
  refine lv_iload_n (pc := 0) hx hb dX9_feed_0 rfl (lv_at hl 1 rfl) ?_
  refine lv_iconst (pc := 1) (v := 1) hx hb dX9_feed_1 (by decide) ?_
  refine lv_iconst (pc := 2) (v := 5) hx hb dX9_feed_2 (by decide) ?_
  refine g_stat (pc := 3) (st2 := [.int (f_X9_in v1 (1 : Int32) (5 : Int32))]) (rest := []) C hW hS (c_X9_in (K := K - 1) (by omega) rfl) mw_X9_84 (hRoom (by omega) (by decide)) rfl rfl rfl (Nat.le_of_ble_eq_true rfl) hl.1 dX9_feed_3 (fun H locs hW hS => ?_)
  refine lv_if_eq (pc := 6) (tgt := 47) hx hb dX9_feed_6 (by decide) (fun hc0 => ?_) (fun hc0 => ?_)
  · replace h := o_pos hc0 h
    refine lv_bipush (pc := 47) (v := -2) hx hb dX9_feed_47 (by decide) ?_
    exact g_ret (pc := 49) C hW hS rfl dX9_feed_49 (congrArg (fun q => some (Value.int q)) (o_r h).1) (o_r h).2
  · replace h := o_neg hc0 h
    refine lv_iload_n (pc := 9) hx hb dX9_feed_9 rfl (lv_at hl 2 rfl) ?_
    refine g_stat (pc := 10) (st2 := [.int (f_X9_isByte v2)]) (rest := []) C hW hS (c_X9_isByte (K := K - 1) (by omega) rfl) mw_X9_100 (hRoom (by omega) (by decide)) rfl rfl rfl (Nat.le_of_ble_eq_true rfl) hl.1 dX9_feed_10 (fun H locs hW hS => ?_)
    refine lv_if_eq (pc := 13) (tgt := 47) hx hb dX9_feed_13 (by decide) (fun hc1 => ?_) (fun hc1 => ?_)
    · replace h := o_pos hc1 h
      refine lv_bipush (pc := 47) (v := -2) hx hb dX9_feed_47 (by decide) ?_
      exact g_ret (pc := 49) C hW hS rfl dX9_feed_49 (congrArg (fun q => some (Value.int q)) (o_r h).1) (o_r h).2
    · replace h := o_neg hc1 h
      refine lv_iload_n (pc := 16) hx hb dX9_feed_16 rfl (lv_at hl 3 rfl) ?_
      refine g_stat (pc := 17) (st2 := [.int (f_X9_isByte v3)]) (rest := []) C hW hS (c_X9_isByte (K := K - 1) (by omega) rfl) mw_X9_100 (hRoom (by omega) (by decide)) rfl rfl rfl (Nat.le_of_ble_eq_true rfl) hl.1 dX9_feed_17 (fun H locs hW hS => ?_)
      refine lv_if_eq (pc := 20) (tgt := 47) hx hb dX9_feed_20 (by decide) (fun hc2 => ?_) (fun hc2 => ?_)
      · replace h := o_pos hc2 h
        refine lv_bipush (pc := 47) (v := -2) hx hb dX9_feed_47 (by decide) ?_
        exact g_ret (pc := 49) C hW hS rfl dX9_feed_49 (congrArg (fun q => some (Value.int q)) (o_r h).1) (o_r h).2
      · replace h := o_neg hc2 h
        refine lv_iload (pc := 23) hx hb dX9_feed_23 (lv_at hl 4 rfl) ?_
        refine g_stat (pc := 25) (st2 := [.int (f_X9_isByte v4)]) (rest := []) C hW hS (c_X9_isByte (K := K - 1) (by omega) rfl) mw_X9_100 (hRoom (by omega) (by decide)) rfl rfl rfl (Nat.le_of_ble_eq_true rfl) hl.1 dX9_feed_25 (fun H locs hW hS => ?_)
        refine lv_if_eq (pc := 28) (tgt := 47) hx hb dX9_feed_28 (by decide) (fun hc3 => ?_) (fun hc3 => ?_)
        · replace h := o_pos hc3 h
          refine lv_bipush (pc := 47) (v := -2) hx hb dX9_feed_47 (by decide) ?_
          exact g_ret (pc := 49) C hW hS rfl dX9_feed_49 (congrArg (fun q => some (Value.int q)) (o_r h).1) (o_r h).2
        · replace h := o_neg hc3 h
          refine lv_iload (pc := 31) hx hb dX9_feed_31 (lv_at hl 5 rfl) ?_
          refine g_stat (pc := 33) (st2 := [.int (f_X9_isByte v5)]) (rest := []) C hW hS (c_X9_isByte (K := K - 1) (by omega) rfl) mw_X9_100 (hRoom (by omega) (by decide)) rfl rfl rfl (Nat.le_of_ble_eq_true rfl) hl.1 dX9_feed_33 (fun H locs hW hS => ?_)
          refine lv_if_eq (pc := 36) (tgt := 47) hx hb dX9_feed_36 (by decide) (fun hc4 => ?_) (fun hc4 => ?_)
          · replace h := o_pos hc4 h
            refine lv_bipush (pc := 47) (v := -2) hx hb dX9_feed_47 (by decide) ?_
            exact g_ret (pc := 49) C hW hS rfl dX9_feed_49 (congrArg (fun q => some (Value.int q)) (o_r h).1) (o_r h).2
          · replace h := o_neg hc4 h
            refine lv_iload (pc := 39) hx hb dX9_feed_39 (lv_at hl 6 rfl) ?_
            refine g_stat (pc := 41) (st2 := [.int (f_X9_isByte v6)]) (rest := []) C hW hS (c_X9_isByte (K := K - 1) (by omega) rfl) mw_X9_100 (hRoom (by omega) (by decide)) rfl rfl rfl (Nat.le_of_ble_eq_true rfl) hl.1 dX9_feed_41 (fun H locs hW hS => ?_)
            refine lv_if_ne (pc := 44) (tgt := 50) hx hb dX9_feed_44 (by decide) (fun hc5 => ?_) (fun hc5 => ?_)
            · replace h := o_neg hc5 h
              refine lv_aload_n (pc := 50) hx hb dX9_feed_50 rfl (lv_at hl 0 rfl) ?_
              refine gf_X9_8 (pc := 51) C hW fl_X9_73 dX9_feed_51 ?_
              refine lv_iload_n (pc := 54) hx hb dX9_feed_54 rfl (lv_at hl 1 rfl) ?_
              refine lv_iadd (pc := 55) hx hb dX9_feed_55 ?_
              refine lv_sipush (pc := 56) (v := 160) hx hb dX9_feed_56 (by decide) ?_
              refine lv_icmp_le (pc := 59) (tgt := 65) hx hb dX9_feed_59 (by decide) (fun hc6 => ?_) (fun hc6 => ?_)
              · replace h := o_pos hc6 h
                refine lv_iconst (pc := 65) (v := 0) hx hb dX9_feed_65 (by decide) ?_
                refine lv_istore (pc := 66) (lv' := [(7, .int (0 : Int32)), (0, .ref (z + 80 + 0)), (1, .int v1), (2, .int v2), (3, .int v3), (4, .int v4), (5, .int v5), (6, .int v6)]) hx hb dX9_feed_66 hl (by decide) rfl (fun ls hl => ?_)
                exact w_X9_feed_b68 C hK v1 v2 v3 v4 v5 v6 FU σ (0 : Int32) hW hS (lv_sub hl [1, 2, 3, 4, 5, 6, 7, 0] rfl) h
              · replace h := o_neg hc6 h
                refine lv_bipush (pc := 62) (v := -4) hx hb dX9_feed_62 (by decide) ?_
                exact g_ret (pc := 64) C hW hS rfl dX9_feed_64 (congrArg (fun q => some (Value.int q)) (o_r h).1) (o_r h).2
            · replace h := o_pos hc5 h
              refine lv_bipush (pc := 47) (v := -2) hx hb dX9_feed_47 (by decide) ?_
              exact g_ret (pc := 49) C hW hS rfl dX9_feed_49 (congrArg (fun q => some (Value.int q)) (o_r h).1) (o_r h).2

theorem w_X9_wordFrom_b88 (C : CX cX9_wordFrom 6 RX9 (some .int) D ac p m c s args meth (z, aK, aV) (Ar (z + 80))) (hK : 0 ≤ K) {r : Int32}   (σ : Mem) (v1 : Int32) (v2 : Int32) (v3 : Int32) (v4 : Int32) (s2 : Int32 → Option Int32) (hs2 : ∀ (v3 : Int32) {H : Heap} {locs : List Loc} {ls : Array Slot} (_ : WR D ac (z + 80) σ H) (_ : va_S (Ar (z + 80)) s.heap H locs) (_ : lv_has ls 6 [(0, .ref (z + 80 + 0)), (1, .int v1), (2, .int v2), (3, .int v3)]) (_ : s2 v3 = some r), W p l e (rma K 0 0) s m args below meth c H locs 0 0 (MQ below (QV D (Er ac (z + 80)) inR (z + 80) (some (.int r)) σ (Ar (z + 80))) args s 0 0 (Ar (z + 80))) (F0 m 2 ls [])) {H : Heap} {locs : List Loc} {ls : Array Slot} (hW : WR D ac (z + 80) σ H) (hS : va_S (Ar (z + 80)) s.heap H locs) (hl : lv_has ls 6 [(0, .ref (z + 80 + 0)), (1, .int v1), (2, .int v2), (3, .int v3), (4, .int v4)]) (h : f_X9_wordFrom_b88 s2 σ v1 v2 v3 v4 = some r) : W p l e (rma K 0 0) s m args below meth c H locs 0 0 (MQ below (QV D (Er ac (z + 80)) inR (z + 80) (some (.int r)) σ (Ar (z + 80))) args s 0 0 (Ar (z + 80))) (F0 m 88 ls []) := by
  have hx := C.1.1
  have hb := C.1.2.1
  unfold f_X9_wordFrom_b88 at h
  refine lv_iload (pc := 88) hx hb dX9_wordFrom_88 (lv_at hl 4 rfl) ?_
  refine lv_if_eq (pc := 90) (tgt := 95) hx hb dX9_wordFrom_90 (by decide) (fun hc7 => ?_) (fun hc7 => ?_)
  · replace h := o_pos hc7 h
    refine lv_iinc (pc := 95) (v := (v3 + 1)) (lv' := [(3, .int (v3 + 1)), (0, .ref (z + 80 + 0)), (1, .int v1), (2, .int v2), (4, .int v4)]) hx hb dX9_wordFrom_95 hl (k := 3) rfl rfl (by decide) rfl (fun ls hl => ?_)
    refine lv_goto (pc := 98) (tgt := 2) hx hb dX9_wordFrom_98 (by decide) ?_
    exact hs2 (v3 + 1) hW hS (lv_sub hl [1, 2, 3, 0] rfl) h
  · replace h := o_neg hc7 h
    refine lv_iload_n (pc := 93) hx hb dX9_wordFrom_93 rfl (lv_at hl 3 rfl) ?_
    exact g_ret (pc := 94) C hW hS rfl dX9_wordFrom_94 (congrArg (fun q => some (Value.int q)) (Option.some.inj h).symm) rfl

theorem w_X9_wordFrom_b80 (C : CX cX9_wordFrom 6 RX9 (some .int) D ac p m c s args meth (z, aK, aV) (Ar (z + 80))) (hK : 0 ≤ K) {r : Int32}   (σ : Mem) (v1 : Int32) (v2 : Int32) (v3 : Int32) (v5 : Int32) (k0 : Int32) (s2 : Int32 → Option Int32) (hs2 : ∀ (v3 : Int32) {H : Heap} {locs : List Loc} {ls : Array Slot} (_ : WR D ac (z + 80) σ H) (_ : va_S (Ar (z + 80)) s.heap H locs) (_ : lv_has ls 6 [(0, .ref (z + 80 + 0)), (1, .int v1), (2, .int v2), (3, .int v3)]) (_ : s2 v3 = some r), W p l e (rma K 0 0) s m args below meth c H locs 0 0 (MQ below (QV D (Er ac (z + 80)) inR (z + 80) (some (.int r)) σ (Ar (z + 80))) args s 0 0 (Ar (z + 80))) (F0 m 2 ls [])) (s26 : Int32 → Int32 → Option Int32) (hs26 : ∀ (v4 : Int32) (v5 : Int32) {H : Heap} {locs : List Loc} {ls : Array Slot} (_ : WR D ac (z + 80) σ H) (_ : va_S (Ar (z + 80)) s.heap H locs) (_ : lv_has ls 6 [(0, .ref (z + 80 + 0)), (1, .int v1), (2, .int v2), (3, .int v3), (4, .int v4), (5, .int v5)]) (_ : s26 v4 v5 = some r), W p l e (rma K 0 0) s m args below meth c H locs 0 0 (MQ below (QV D (Er ac (z + 80)) inR (z + 80) (some (.int r)) σ (Ar (z + 80))) args s 0 0 (Ar (z + 80))) (F0 m 26 ls [])) {H : Heap} {locs : List Loc} {ls : Array Slot} (hW : WR D ac (z + 80) σ H) (hS : va_S (Ar (z + 80)) s.heap H locs) (hl : lv_has ls 6 [(0, .ref (z + 80 + 0)), (1, .int v1), (2, .int v2), (3, .int v3), (5, .int v5)]) (h : f_X9_wordFrom_b80 s2 s26 σ v1 v2 v3 v5 k0 = some r) : W p l e (rma K 0 0) s m args below meth c H locs 0 0 (MQ below (QV D (Er ac (z + 80)) inR (z + 80) (some (.int r)) σ (Ar (z + 80))) args s 0 0 (Ar (z + 80))) (F0 m 80 ls [.int k0]) := by
  have hx := C.1.1
  have hb := C.1.2.1
  unfold f_X9_wordFrom_b80 at h
  refine lv_istore (pc := 80) (lv' := [(4, .int k0), (0, .ref (z + 80 + 0)), (1, .int v1), (2, .int v2), (3, .int v3), (5, .int v5)]) hx hb dX9_wordFrom_80 hl (by decide) rfl (fun ls hl => ?_)
  refine lv_iinc (pc := 82) (v := (v5 + 1)) (lv' := [(5, .int (v5 + 1)), (4, .int k0), (0, .ref (z + 80 + 0)), (1, .int v1), (2, .int v2), (3, .int v3)]) hx hb dX9_wordFrom_82 hl (k := 5) rfl rfl (by decide) rfl (fun ls hl => ?_)
  refine lv_goto (pc := 85) (tgt := 26) hx hb dX9_wordFrom_85 (by decide) ?_
  exact hs26 k0 (v5 + 1) hW hS (lv_sub hl [2, 3, 4, 5, 1, 0] rfl) h

theorem w_X9_wordFrom_b72 (C : CX cX9_wordFrom 6 RX9 (some .int) D ac p m c s args meth (z, aK, aV) (Ar (z + 80))) (hK : 0 ≤ K) {r : Int32}   (σ : Mem) (v1 : Int32) (v2 : Int32) (v3 : Int32) (v5 : Int32) (k0 : Int32) (k1 : Int32) (s2 : Int32 → Option Int32) (hs2 : ∀ (v3 : Int32) {H : Heap} {locs : List Loc} {ls : Array Slot} (_ : WR D ac (z + 80) σ H) (_ : va_S (Ar (z + 80)) s.heap H locs) (_ : lv_has ls 6 [(0, .ref (z + 80 + 0)), (1, .int v1), (2, .int v2), (3, .int v3)]) (_ : s2 v3 = some r), W p l e (rma K 0 0) s m args below meth c H locs 0 0 (MQ below (QV D (Er ac (z + 80)) inR (z + 80) (some (.int r)) σ (Ar (z + 80))) args s 0 0 (Ar (z + 80))) (F0 m 2 ls [])) (s26 : Int32 → Int32 → Option Int32) (hs26 : ∀ (v4 : Int32) (v5 : Int32) {H : Heap} {locs : List Loc} {ls : Array Slot} (_ : WR D ac (z + 80) σ H) (_ : va_S (Ar (z + 80)) s.heap H locs) (_ : lv_has ls 6 [(0, .ref (z + 80 + 0)), (1, .int v1), (2, .int v2), (3, .int v3), (4, .int v4), (5, .int v5)]) (_ : s26 v4 v5 = some r), W p l e (rma K 0 0) s m args below meth c H locs 0 0 (MQ below (QV D (Er ac (z + 80)) inR (z + 80) (some (.int r)) σ (Ar (z + 80))) args s 0 0 (Ar (z + 80))) (F0 m 26 ls [])) {H : Heap} {locs : List Loc} {ls : Array Slot} (hW : WR D ac (z + 80) σ H) (hS : va_S (Ar (z + 80)) s.heap H locs) (hl : lv_has ls 6 [(0, .ref (z + 80 + 0)), (1, .int v1), (2, .int v2), (3, .int v3), (5, .int v5)]) (h : f_X9_wordFrom_b72 s2 s26 σ v1 v2 v3 v5 k0 k1 = some r) : W p l e (rma K 0 0) s m args below meth c H locs 0 0 (MQ below (QV D (Er ac (z + 80)) inR (z + 80) (some (.int r)) σ (Ar (z + 80))) args s 0 0 (Ar (z + 80))) (F0 m 72 ls [.int k1, .int k0]) := by
  have hx := C.1.1
  have hb := C.1.2.1
  unfold f_X9_wordFrom_b72 at h
  refine lv_icmp_ne (pc := 72) (tgt := 79) hx hb dX9_wordFrom_72 (by decide) (fun hc8 => ?_) (fun hc8 => ?_)
  · replace h := o_neg hc8 h
    refine lv_iconst (pc := 79) (v := 0) hx hb dX9_wordFrom_79 (by decide) ?_
    exact w_X9_wordFrom_b80 C hK σ v1 v2 v3 v5 (0 : Int32) s2 hs2 s26 hs26 hW hS (lv_sub hl [0, 1, 2, 3, 4] rfl) h
  · replace h := o_pos hc8 h
    refine lv_iconst (pc := 75) (v := 1) hx hb dX9_wordFrom_75 (by decide) ?_
    refine lv_goto (pc := 76) (tgt := 80) hx hb dX9_wordFrom_76 (by decide) ?_
    exact w_X9_wordFrom_b80 C hK σ v1 v2 v3 v5 (1 : Int32) s2 hs2 s26 hs26 hW hS (lv_sub hl [0, 1, 2, 3, 4] rfl) h

theorem w_X9_wordFrom_b26 (C : CX cX9_wordFrom 6 RX9 (some .int) D ac p m c s args meth (z, aK, aV) (Ar (z + 80))) (hK : 0 ≤ K) {r : Int32}   (σ : Mem) (v1 : Int32) (v2 : Int32) (v3 : Int32) (s2 : Int32 → Option Int32) (hs2 : ∀ (v3 : Int32) {H : Heap} {locs : List Loc} {ls : Array Slot} (_ : WR D ac (z + 80) σ H) (_ : va_S (Ar (z + 80)) s.heap H locs) (_ : lv_has ls 6 [(0, .ref (z + 80 + 0)), (1, .int v1), (2, .int v2), (3, .int v3)]) (_ : s2 v3 = some r), W p l e (rma K 0 0) s m args below meth c H locs 0 0 (MQ below (QV D (Er ac (z + 80)) inR (z + 80) (some (.int r)) σ (Ar (z + 80))) args s 0 0 (Ar (z + 80))) (F0 m 2 ls [])) : ∀ (n : Nat) (v4 : Int32) (v5 : Int32) {H : Heap} {locs : List Loc} {ls : Array Slot} (hW : WR D ac (z + 80) σ H) (hS : va_S (Ar (z + 80)) s.heap H locs) (hl : lv_has ls 6 [(0, .ref (z + 80 + 0)), (1, .int v1), (2, .int v2), (3, .int v3), (4, .int v4), (5, .int v5)]) (h : f_X9_wordFrom_b26 s2 σ v1 v2 v3 n v4 v5 = some r), W p l e (rma K 0 0) s m args below meth c H locs 0 0 (MQ below (QV D (Er ac (z + 80)) inR (z + 80) (some (.int r)) σ (Ar (z + 80))) args s 0 0 (Ar (z + 80))) (F0 m 26 ls []) := by
  have hx := C.1.1
  have hb := C.1.2.1
  intro n
  induction n with
  | zero =>
    intro v4 v5 H locs ls  hW hS hl h
    cases h
  | succ n ih =>
    intro v4 v5 H locs ls  hW hS hl h
    rw [f_X9_wordFrom_b26.eq_2] at h
    refine lv_iload (pc := 26) hx hb dX9_wordFrom_26 (lv_at hl 5 rfl) ?_
    refine lv_bipush (pc := 28) (v := 8) hx hb dX9_wordFrom_28 (by decide) ?_
    refine lv_icmp_ge (pc := 30) (tgt := 88) hx hb dX9_wordFrom_30 (by decide) (fun hc2 => ?_) (fun hc2 => ?_)
    · replace h := o_pos hc2 h
      exact w_X9_wordFrom_b88 C hK σ v1 v2 v3 v4 s2 hs2 hW hS (lv_sub hl [0, 1, 2, 3, 4] rfl) h
    · replace h := o_neg hc2 h
      refine lv_iload (pc := 33) hx hb dX9_wordFrom_33 (lv_at hl 4 rfl) ?_
      refine lv_if_eq (pc := 35) (tgt := 88) hx hb dX9_wordFrom_35 (by decide) (fun hc3 => ?_) (fun hc3 => ?_)
      · replace h := o_pos hc3 h
        exact w_X9_wordFrom_b88 C hK σ v1 v2 v3 v4 s2 hs2 hW hS (lv_sub hl [0, 1, 2, 3, 4] rfl) h
      · replace h := o_neg hc3 h
        refine lv_aload_n (pc := 38) hx hb dX9_wordFrom_38 rfl (lv_at hl 0 rfl) ?_
        refine gf_X9_27 (pc := 39) C hW fl_X9_46 dX9_wordFrom_39 ?_
        refine lv_bipush (pc := 42) (v := 8) hx hb dX9_wordFrom_42 (by decide) ?_
        refine lv_iload_n (pc := 44) hx hb dX9_wordFrom_44 rfl (lv_at hl 3 rfl) ?_
        refine lv_imul (pc := 45) hx hb dX9_wordFrom_45 ?_
        refine lv_iload (pc := 46) hx hb dX9_wordFrom_46 (lv_at hl 5 rfl) ?_
        refine lv_iadd (pc := 48) hx hb dX9_wordFrom_48 ?_
        obtain ⟨hc4, h⟩ := o_chk h
        refine ir_ld (pc := 49) (k := 13) C hW (by decide) (by decide) rfl rfl (inb_in hc4) dX9_wordFrom_49 ?_
        refine lv_iload_n (pc := 50) hx hb dX9_wordFrom_50 rfl (lv_at hl 1 rfl) ?_
        refine lv_iload (pc := 51) hx hb dX9_wordFrom_51 (lv_at hl 5 rfl) ?_
        refine lv_iadd (pc := 53) hx hb dX9_wordFrom_53 ?_
        refine lv_iload_n (pc := 54) hx hb dX9_wordFrom_54 rfl (lv_at hl 2 rfl) ?_
        refine lv_icmp_ge (pc := 55) (tgt := 70) hx hb dX9_wordFrom_55 (by decide) (fun hc5 => ?_) (fun hc5 => ?_)
        · replace h := o_pos hc5 h
          refine lv_bipush (pc := 70) (v := 32) hx hb dX9_wordFrom_70 (by decide) ?_
          exact w_X9_wordFrom_b72 C hK σ v1 v2 v3 v5 (σ 13 ((((8 : Int32) * v3) + v5).toNatClampNeg)) (32 : Int32) s2 hs2 (f_X9_wordFrom_b26 s2 σ v1 v2 v3 n) (fun v4 v5 {H : Heap} {locs : List Loc} {ls : Array Slot}  hW hS hl h => ih v4 v5 hW hS hl h) hW hS (lv_sub hl [0, 1, 2, 3, 5] rfl) h
        · replace h := o_neg hc5 h
          refine lv_aload_n (pc := 58) hx hb dX9_wordFrom_58 rfl (lv_at hl 0 rfl) ?_
          refine gf_X9_7 (pc := 59) C hW fl_X9_22 dX9_wordFrom_59 ?_
          refine lv_iload_n (pc := 62) hx hb dX9_wordFrom_62 rfl (lv_at hl 1 rfl) ?_
          refine lv_iload (pc := 63) hx hb dX9_wordFrom_63 (lv_at hl 5 rfl) ?_
          refine lv_iadd (pc := 65) hx hb dX9_wordFrom_65 ?_
          obtain ⟨hc6, h⟩ := o_chk h
          refine ir_ld (pc := 66) (k := 5) C hW (by decide) (by decide) rfl rfl (inb_in hc6) dX9_wordFrom_66 ?_
          refine lv_goto (pc := 67) (tgt := 72) hx hb dX9_wordFrom_67 (by decide) ?_
          exact w_X9_wordFrom_b72 C hK σ v1 v2 v3 v5 (σ 13 ((((8 : Int32) * v3) + v5).toNatClampNeg)) (σ 5 ((v1 + v5).toNatClampNeg)) s2 hs2 (f_X9_wordFrom_b26 s2 σ v1 v2 v3 n) (fun v4 v5 {H : Heap} {locs : List Loc} {ls : Array Slot}  hW hS hl h => ih v4 v5 hW hS hl h) hW hS (lv_sub hl [0, 1, 2, 3, 5] rfl) h

theorem w_X9_wordFrom_b21 (C : CX cX9_wordFrom 6 RX9 (some .int) D ac p m c s args meth (z, aK, aV) (Ar (z + 80))) (hK : 0 ≤ K) {r : Int32}   (σ : Mem) (v1 : Int32) (v2 : Int32) (v3 : Int32) (k0 : Int32) (s2 : Int32 → Option Int32) (hs2 : ∀ (v3 : Int32) {H : Heap} {locs : List Loc} {ls : Array Slot} (_ : WR D ac (z + 80) σ H) (_ : va_S (Ar (z + 80)) s.heap H locs) (_ : lv_has ls 6 [(0, .ref (z + 80 + 0)), (1, .int v1), (2, .int v2), (3, .int v3)]) (_ : s2 v3 = some r), W p l e (rma K 0 0) s m args below meth c H locs 0 0 (MQ below (QV D (Er ac (z + 80)) inR (z + 80) (some (.int r)) σ (Ar (z + 80))) args s 0 0 (Ar (z + 80))) (F0 m 2 ls [])) {H : Heap} {locs : List Loc} {ls : Array Slot} (hW : WR D ac (z + 80) σ H) (hS : va_S (Ar (z + 80)) s.heap H locs) (hl : lv_has ls 6 [(0, .ref (z + 80 + 0)), (1, .int v1), (2, .int v2), (3, .int v3)]) (h : f_X9_wordFrom_b21 s2 σ v1 v2 v3 k0 = some r) : W p l e (rma K 0 0) s m args below meth c H locs 0 0 (MQ below (QV D (Er ac (z + 80)) inR (z + 80) (some (.int r)) σ (Ar (z + 80))) args s 0 0 (Ar (z + 80))) (F0 m 21 ls [.int k0]) := by
  have hx := C.1.1
  have hb := C.1.2.1
  unfold f_X9_wordFrom_b21 at h
  refine lv_istore (pc := 21) (lv' := [(4, .int k0), (0, .ref (z + 80 + 0)), (1, .int v1), (2, .int v2), (3, .int v3)]) hx hb dX9_wordFrom_21 hl (by decide) rfl (fun ls hl => ?_)
  refine lv_iconst (pc := 23) (v := 0) hx hb dX9_wordFrom_23 (by decide) ?_
  refine lv_istore (pc := 24) (lv' := [(5, .int (0 : Int32)), (4, .int k0), (0, .ref (z + 80 + 0)), (1, .int v1), (2, .int v2), (3, .int v3)]) hx hb dX9_wordFrom_24 hl (by decide) rfl (fun ls hl => ?_)
  exact w_X9_wordFrom_b26 C hK σ v1 v2 v3 s2 hs2 FU k0 (0 : Int32) hW hS (lv_sub hl [2, 3, 4, 5, 1, 0] rfl) h

theorem w_X9_wordFrom_b2 (C : CX cX9_wordFrom 6 RX9 (some .int) D ac p m c s args meth (z, aK, aV) (Ar (z + 80))) (hK : 0 ≤ K) {r : Int32}   (σ : Mem) (v1 : Int32) (v2 : Int32)  : ∀ (n : Nat) (v3 : Int32) {H : Heap} {locs : List Loc} {ls : Array Slot} (hW : WR D ac (z + 80) σ H) (hS : va_S (Ar (z + 80)) s.heap H locs) (hl : lv_has ls 6 [(0, .ref (z + 80 + 0)), (1, .int v1), (2, .int v2), (3, .int v3)]) (h : f_X9_wordFrom_b2 σ v1 v2 n v3 = some r), W p l e (rma K 0 0) s m args below meth c H locs 0 0 (MQ below (QV D (Er ac (z + 80)) inR (z + 80) (some (.int r)) σ (Ar (z + 80))) args s 0 0 (Ar (z + 80))) (F0 m 2 ls []) := by
  have hx := C.1.1
  have hb := C.1.2.1
  intro n
  induction n with
  | zero =>
    intro v3 H locs ls  hW hS hl h
    cases h
  | succ n ih =>
    intro v3 H locs ls  hW hS hl h
    rw [f_X9_wordFrom_b2.eq_2] at h
    refine lv_iload_n (pc := 2) hx hb dX9_wordFrom_2 rfl (lv_at hl 3 rfl) ?_
    refine lv_bipush (pc := 3) (v := 12) hx hb dX9_wordFrom_3 (by decide) ?_
    refine lv_icmp_ge (pc := 5) (tgt := 101) hx hb dX9_wordFrom_5 (by decide) (fun hc0 => ?_) (fun hc0 => ?_)
    · replace h := o_pos hc0 h
      refine lv_bipush (pc := 101) (v := 12) hx hb dX9_wordFrom_101 (by decide) ?_
      exact g_ret (pc := 103) C hW hS rfl dX9_wordFrom_103 (congrArg (fun q => some (Value.int q)) (Option.some.inj h).symm) rfl
    · replace h := o_neg hc0 h
      refine lv_iload_n (pc := 8) hx hb dX9_wordFrom_8 rfl (lv_at hl 2 rfl) ?_
      refine lv_iload_n (pc := 9) hx hb dX9_wordFrom_9 rfl (lv_at hl 1 rfl) ?_
      refine lv_isub (pc := 10) hx hb dX9_wordFrom_10 ?_
      refine lv_bipush (pc := 11) (v := 8) hx hb dX9_wordFrom_11 (by decide) ?_
      refine lv_icmp_gt (pc := 13) (tgt := 20) hx hb dX9_wordFrom_13 (by decide) (fun hc1 => ?_) (fun hc1 => ?_)
      · replace h := o_pos hc1 h
        refine lv_iconst (pc := 20) (v := 0) hx hb dX9_wordFrom_20 (by decide) ?_
        exact w_X9_wordFrom_b21 C hK σ v1 v2 v3 (0 : Int32) (f_X9_wordFrom_b2 σ v1 v2 n) (fun v3 {H : Heap} {locs : List Loc} {ls : Array Slot}  hW hS hl h => ih v3 hW hS hl h) hW hS (lv_sub hl [0, 1, 2, 3] rfl) h
      · replace h := o_neg hc1 h
        refine lv_iconst (pc := 16) (v := 1) hx hb dX9_wordFrom_16 (by decide) ?_
        refine lv_goto (pc := 17) (tgt := 21) hx hb dX9_wordFrom_17 (by decide) ?_
        exact w_X9_wordFrom_b21 C hK σ v1 v2 v3 (1 : Int32) (f_X9_wordFrom_b2 σ v1 v2 n) (fun v3 {H : Heap} {locs : List Loc} {ls : Array Slot}  hW hS hl h => ih v3 hW hS hl h) hW hS (lv_sub hl [0, 1, 2, 3] rfl) h

theorem c_X9_wordFrom {K : Nat}  (hK : 0 ≤ K) {σ : Mem} {v1 : Int32} {v2 : Int32} {r : Int32} (h : f_X9_wordFrom σ v1 v2 = some r) : MC l D (Er ac (z + 80)) inR (z + 80) ac (z, aK, aV) (Ar (z + 80)) yX9_wordFrom cX9_wordFrom 6 (some .int) K [.ref (z + 80 + 0), .int v1, .int v2] σ (some (.int r)) σ := by
  refine MC.of (fun q hq => by have := hq.1; show z ≤ q; omega) (plainFor_of_name (by decide)) (Nat.le_of_ble_eq_true rfl) ?_
  intro p e s m below meth c args C hW ls hl
  replace hl : lv_has ls 6 [(0, .ref (z + 80 + 0)), (1, .int v1), (2, .int v2)] := hl
  have hS : va_S (Ar (z + 80)) s.heap s.heap [] := va_S.rf
  have hx := C.1.1
  have hb := C.1.2.1
  unfold f_X9_wordFrom at h
  refine lv_iconst (pc := 0) (v := 0) hx hb dX9_wordFrom_0 (by decide) ?_
  refine lv_istore_n (pc := 1) (lv' := [(3, .int (0 : Int32)), (0, .ref (z + 80 + 0)), (1, .int v1), (2, .int v2)]) hx hb dX9_wordFrom_1 rfl hl (by decide) rfl (fun ls hl => ?_)
  exact w_X9_wordFrom_b2 C hK σ v1 v2 FU (0 : Int32) hW hS (lv_sub hl [1, 2, 3, 0] rfl) h

theorem w_X9_next_b379 (C : CX cX9_next 3 RX9 none D ac p m c s args meth (z, aK, aV) (Ar (z + 80))) (hK : 1 ≤ K) {σf : Mem}   (σ : Mem) (v1 : Int32) (k0 : Int32)  {H : Heap} {locs : List Loc} {ls : Array Slot} (hW : WR D ac (z + 80) σ H) (hS : va_S (Ar (z + 80)) s.heap H locs) (hl : lv_has ls 3 [(0, .ref (z + 80 + 0)), (1, .int v1)]) (h : f_X9_next_b379 σ v1 k0 = some σf) : W p l e (rma K 0 0) s m args below meth c H locs 0 0 (MQ below (QV D (Er ac (z + 80)) inR (z + 80) none σf (Ar (z + 80))) args s 0 0 (Ar (z + 80))) (F0 m 379 ls [.int k0]) := by
  have hx := C.1.1
  have hb := C.1.2.1
  unfold f_X9_next_b379 at h
  refine lv_istore_n (pc := 379) (lv' := [(2, .int k0), (0, .ref (z + 80 + 0)), (1, .int v1)]) hx hb dX9_next_379 rfl hl (by decide) rfl (fun ls hl => ?_)
  refine lv_aload_n (pc := 380) hx hb dX9_next_380 rfl (lv_at hl 1 rfl) ?_
  refine lv_iload_n (pc := 381) hx hb dX9_next_381 rfl (lv_at hl 0 rfl) ?_
  refine lv_if_eq (pc := 382) (tgt := 389) hx hb dX9_next_382 (by decide) (fun hc18 => ?_) (fun hc18 => ?_)
  · replace h := o_pos hc18 h
    refine lv_iconst (pc := 389) (v := -1) hx hb dX9_next_389 (by decide) ?_
    refine pf_X9_25 (pc := 390) C hW hS fl_X9_110 dX9_next_390 (fun H locs hW hS => ?_)
    refine lv_aload_n (pc := 393) hx hb dX9_next_393 rfl (lv_at hl 1 rfl) ?_
    refine lv_dup (pc := 394) hx hb dX9_next_394 rfl ?_
    refine gf_X9_23 (pc := 395) C hW fl_X9_104 dX9_next_395 ?_
    refine lv_iconst (pc := 398) (v := 1) hx hb dX9_next_398 (by decide) ?_
    refine lv_iadd (pc := 399) hx hb dX9_next_399 ?_
    refine pf_X9_23 (pc := 400) C hW hS fl_X9_104 dX9_next_400 (fun H locs hW hS => ?_)
    obtain ⟨σ20, hσ20, h⟩ := o_d h
    replace hW : WR D ac (z + 80) σ20 H := by rw [← hσ20]; exact hW
    exact g_vret (pc := 403) C hW hS dX9_next_403 rfl (Option.some.inj h).symm
  · replace h := o_neg hc18 h
    refine lv_iload_n (pc := 385) hx hb dX9_next_385 rfl (lv_at hl 2 rfl) ?_
    refine lv_goto (pc := 386) (tgt := 390) hx hb dX9_next_386 (by decide) ?_
    refine pf_X9_25 (pc := 390) C hW hS fl_X9_110 dX9_next_390 (fun H locs hW hS => ?_)
    refine lv_aload_n (pc := 393) hx hb dX9_next_393 rfl (lv_at hl 1 rfl) ?_
    refine lv_dup (pc := 394) hx hb dX9_next_394 rfl ?_
    refine gf_X9_23 (pc := 395) C hW fl_X9_104 dX9_next_395 ?_
    refine lv_iconst (pc := 398) (v := 1) hx hb dX9_next_398 (by decide) ?_
    refine lv_iadd (pc := 399) hx hb dX9_next_399 ?_
    refine pf_X9_23 (pc := 400) C hW hS fl_X9_104 dX9_next_400 (fun H locs hW hS => ?_)
    obtain ⟨σ21, hσ21, h⟩ := o_d h
    replace hW : WR D ac (z + 80) σ21 H := by rw [← hσ21]; exact hW
    exact g_vret (pc := 403) C hW hS dX9_next_403 rfl (Option.some.inj h).symm

theorem w_X9_next_b374 (C : CX cX9_next 3 RX9 none D ac p m c s args meth (z, aK, aV) (Ar (z + 80))) (hK : 1 ≤ K) {σf : Mem}   (σ : Mem) (v1 : Int32)  {H : Heap} {locs : List Loc} {ls : Array Slot} (hW : WR D ac (z + 80) σ H) (hS : va_S (Ar (z + 80)) s.heap H locs) (hl : lv_has ls 3 [(0, .ref (z + 80 + 0)), (1, .int v1)]) (h : f_X9_next_b374 σ v1 = some σf) : W p l e (rma K 0 0) s m args below meth c H locs 0 0 (MQ below (QV D (Er ac (z + 80)) inR (z + 80) none σf (Ar (z + 80))) args s 0 0 (Ar (z + 80))) (F0 m 374 ls []) := by
  have hx := C.1.1
  have hb := C.1.2.1
  unfold f_X9_next_b374 at h
  refine lv_iconst (pc := 374) (v := 1) hx hb dX9_next_374 (by decide) ?_
  refine lv_goto (pc := 375) (tgt := 379) hx hb dX9_next_375 (by decide) ?_
  exact w_X9_next_b379 C hK σ v1 (1 : Int32) hW hS (lv_sub hl [0, 1] rfl) h

theorem w_X9_next_b309 (C : CX cX9_next 3 RX9 none D ac p m c s args meth (z, aK, aV) (Ar (z + 80))) (hK : 1 ≤ K) {σf : Mem}   (σ : Mem) (v2 : Int32)  {H : Heap} {locs : List Loc} {ls : Array Slot} (hW : WR D ac (z + 80) σ H) (hS : va_S (Ar (z + 80)) s.heap H locs) (hl : lv_has ls 3 [(0, .ref (z + 80 + 0)), (2, .int v2)]) (h : f_X9_next_b309 σ v2 = some σf) : W p l e (rma K 0 0) s m args below meth c H locs 0 0 (MQ below (QV D (Er ac (z + 80)) inR (z + 80) none σf (Ar (z + 80))) args s 0 0 (Ar (z + 80))) (F0 m 309 ls []) := by
  have hx := C.1.1
  have hb := C.1.2.1
  unfold f_X9_next_b309 at h
  refine lv_aload_n (pc := 309) hx hb dX9_next_309 rfl (lv_at hl 0 rfl) ?_
  refine lv_iload_n (pc := 310) hx hb dX9_next_310 rfl (lv_at hl 1 rfl) ?_
  refine lv_iconst (pc := 311) (v := 4) hx hb dX9_next_311 (by decide) ?_
  refine lv_icmp_le (pc := 312) (tgt := 319) hx hb dX9_next_312 (by decide) (fun hc26 => ?_) (fun hc26 => ?_)
  · replace h := o_pos hc26 h
    refine lv_iconst (pc := 319) (v := 1) hx hb dX9_next_319 (by decide) ?_
    refine pf_X9_25 (pc := 320) C hW hS fl_X9_110 dX9_next_320 (fun H locs hW hS => ?_)
    refine lv_goto (pc := 323) (tgt := 403) hx hb dX9_next_323 (by decide) ?_
    exact g_vret (pc := 403) C hW hS dX9_next_403 rfl (Option.some.inj h).symm
  · replace h := o_neg hc26 h
    refine lv_iconst (pc := 315) (v := -1) hx hb dX9_next_315 (by decide) ?_
    refine lv_goto (pc := 316) (tgt := 320) hx hb dX9_next_316 (by decide) ?_
    refine pf_X9_25 (pc := 320) C hW hS fl_X9_110 dX9_next_320 (fun H locs hW hS => ?_)
    refine lv_goto (pc := 323) (tgt := 403) hx hb dX9_next_323 (by decide) ?_
    exact g_vret (pc := 403) C hW hS dX9_next_403 rfl (Option.some.inj h).symm

theorem w_X9_next_b290 (C : CX cX9_next 3 RX9 none D ac p m c s args meth (z, aK, aV) (Ar (z + 80))) (hK : 1 ≤ K) {σf : Mem}   (σ : Mem) (v2 : Int32) (k1 : Int32) (s230 : Mem → Int32 → Option Mem) (hs230 : ∀ (σ : Mem) (v2 : Int32) {H : Heap} {locs : List Loc} {ls : Array Slot} (_ : WR D ac (z + 80) σ H) (_ : va_S (Ar (z + 80)) s.heap H locs) (_ : lv_has ls 3 [(0, .ref (z + 80 + 0)), (2, .int v2)]) (_ : s230 σ v2 = some σf), W p l e (rma K 0 0) s m args below meth c H locs 0 0 (MQ below (QV D (Er ac (z + 80)) inR (z + 80) none σf (Ar (z + 80))) args s 0 0 (Ar (z + 80))) (F0 m 230 ls [])) {H : Heap} {locs : List Loc} {ls : Array Slot} (hW : WR D ac (z + 80) σ H) (hS : va_S (Ar (z + 80)) s.heap H locs) (hl : lv_has ls 3 [(0, .ref (z + 80 + 0)), (2, .int v2)]) (h : f_X9_next_b290 s230 σ v2 k1 = some σf) : W p l e (rma K 0 0) s m args below meth c H locs 0 0 (MQ below (QV D (Er ac (z + 80)) inR (z + 80) none σf (Ar (z + 80))) args s 0 0 (Ar (z + 80))) (F0 m 290 ls [.int k1, .ref (z + 80 + 0)]) := by
  have hx := C.1.1
  have hb := C.1.2.1
  unfold f_X9_next_b290 at h
  refine pf_X9_26 (pc := 290) C hW hS fl_X9_113 dX9_next_290 (fun H locs hW hS => ?_)
  refine lv_iinc (pc := 293) (v := (v2 + 1)) (lv' := [(2, .int (v2 + 1)), (0, .ref (z + 80 + 0))]) hx hb dX9_next_293 hl (k := 1) rfl rfl (by decide) rfl (fun ls hl => ?_)
  refine lv_aload_n (pc := 296) hx hb dX9_next_296 rfl (lv_at hl 1 rfl) ?_
  refine lv_dup (pc := 297) hx hb dX9_next_297 rfl ?_
  refine gf_X9_23 (pc := 298) C hW fl_X9_104 dX9_next_298 ?_
  refine lv_iconst (pc := 301) (v := 1) hx hb dX9_next_301 (by decide) ?_
  refine lv_iadd (pc := 302) hx hb dX9_next_302 ?_
  refine pf_X9_23 (pc := 303) C hW hS fl_X9_104 dX9_next_303 (fun H locs hW hS => ?_)
  obtain ⟨σ28, hσ28, h⟩ := o_d h
  replace hW : WR D ac (z + 80) σ28 H := by rw [← hσ28]; exact hW
  refine lv_goto (pc := 306) (tgt := 230) hx hb dX9_next_306 (by decide) ?_
  exact hs230 σ28 (v2 + 1) hW hS (lv_sub hl [1, 0] rfl) h

theorem w_X9_next_b230 (C : CX cX9_next 3 RX9 none D ac p m c s args meth (z, aK, aV) (Ar (z + 80))) (hK : 1 ≤ K) {σf : Mem}    : ∀ (n : Nat) (σ : Mem) (v2 : Int32) {H : Heap} {locs : List Loc} {ls : Array Slot} (hW : WR D ac (z + 80) σ H) (hS : va_S (Ar (z + 80)) s.heap H locs) (hl : lv_has ls 3 [(0, .ref (z + 80 + 0)), (2, .int v2)]) (h : f_X9_next_b230 n σ v2 = some σf), W p l e (rma K 0 0) s m args below meth c H locs 0 0 (MQ below (QV D (Er ac (z + 80)) inR (z + 80) none σf (Ar (z + 80))) args s 0 0 (Ar (z + 80))) (F0 m 230 ls []) := by
  have hx := C.1.1
  have hb := C.1.2.1
  intro n
  induction n with
  | zero =>
    intro σ v2 H locs ls  hW hS hl h
    cases h
  | succ n ih =>
    intro σ v2 H locs ls  hW hS hl h
    rw [f_X9_next_b230.eq_2] at h
    refine lv_aload_n (pc := 230) hx hb dX9_next_230 rfl (lv_at hl 0 rfl) ?_
    refine gf_X9_23 (pc := 231) C hW fl_X9_104 dX9_next_231 ?_
    refine lv_aload_n (pc := 234) hx hb dX9_next_234 rfl (lv_at hl 0 rfl) ?_
    refine gf_X9_8 (pc := 235) C hW fl_X9_73 dX9_next_235 ?_
    refine lv_icmp_ge (pc := 238) (tgt := 309) hx hb dX9_next_238 (by decide) (fun hc21 => ?_) (fun hc21 => ?_)
    · replace h := o_pos hc21 h
      exact w_X9_next_b309 C hK σ v2 hW hS (lv_sub hl [0, 1] rfl) h
    · replace h := o_neg hc21 h
      refine lv_aload_n (pc := 241) hx hb dX9_next_241 rfl (lv_at hl 0 rfl) ?_
      refine gf_X9_7 (pc := 242) C hW fl_X9_22 dX9_next_242 ?_
      refine lv_aload_n (pc := 245) hx hb dX9_next_245 rfl (lv_at hl 0 rfl) ?_
      refine gf_X9_23 (pc := 246) C hW fl_X9_104 dX9_next_246 ?_
      obtain ⟨hc22, h⟩ := o_chk h
      refine ir_ld (pc := 249) (k := 5) C hW (by decide) (by decide) rfl rfl (inb_in hc22) dX9_next_249 ?_
      refine lv_bipush (pc := 250) (v := 48) hx hb dX9_next_250 (by decide) ?_
      refine lv_bipush (pc := 252) (v := 57) hx hb dX9_next_252 (by decide) ?_
      refine g_stat (pc := 254) (st2 := [.int (f_X9_in (σ 5 ((σ 0 23).toNatClampNeg)) (48 : Int32) (57 : Int32))]) (rest := []) C hW hS (c_X9_in (K := K - 1) (by omega) rfl) mw_X9_84 (hRoom (by omega) (by decide)) rfl rfl rfl (Nat.le_of_ble_eq_true rfl) hl.1 dX9_next_254 (fun H locs hW hS => ?_)
      refine lv_if_eq (pc := 257) (tgt := 309) hx hb dX9_next_257 (by decide) (fun hc23 => ?_) (fun hc23 => ?_)
      · replace h := o_pos hc23 h
        exact w_X9_next_b309 C hK σ v2 hW hS (lv_sub hl [0, 1] rfl) h
      · replace h := o_neg hc23 h
        refine lv_aload_n (pc := 260) hx hb dX9_next_260 rfl (lv_at hl 0 rfl) ?_
        refine lv_iload_n (pc := 261) hx hb dX9_next_261 rfl (lv_at hl 1 rfl) ?_
        refine lv_iconst (pc := 262) (v := 4) hx hb dX9_next_262 (by decide) ?_
        refine lv_icmp_ge (pc := 263) (tgt := 289) hx hb dX9_next_263 (by decide) (fun hc24 => ?_) (fun hc24 => ?_)
        · replace h := o_pos hc24 h
          refine lv_iconst (pc := 289) (v := 0) hx hb dX9_next_289 (by decide) ?_
          exact w_X9_next_b290 C hK σ v2 (0 : Int32) (f_X9_next_b230  n) (fun σ v2 {H : Heap} {locs : List Loc} {ls : Array Slot}  hW hS hl h => ih σ v2 hW hS hl h) hW hS (lv_sub hl [0, 1] rfl) h
        · replace h := o_neg hc24 h
          refine lv_bipush (pc := 266) (v := 10) hx hb dX9_next_266 (by decide) ?_
          refine lv_aload_n (pc := 268) hx hb dX9_next_268 rfl (lv_at hl 0 rfl) ?_
          refine gf_X9_26 (pc := 269) C hW fl_X9_113 dX9_next_269 ?_
          refine lv_imul (pc := 272) hx hb dX9_next_272 ?_
          refine lv_aload_n (pc := 273) hx hb dX9_next_273 rfl (lv_at hl 0 rfl) ?_
          refine gf_X9_7 (pc := 274) C hW fl_X9_22 dX9_next_274 ?_
          refine lv_aload_n (pc := 277) hx hb dX9_next_277 rfl (lv_at hl 0 rfl) ?_
          refine gf_X9_23 (pc := 278) C hW fl_X9_104 dX9_next_278 ?_
          obtain ⟨hc25, h⟩ := o_chk h
          refine ir_ld (pc := 281) (k := 5) C hW (by decide) (by decide) rfl rfl (inb_in hc25) dX9_next_281 ?_
          refine lv_iadd (pc := 282) hx hb dX9_next_282 ?_
          refine lv_bipush (pc := 283) (v := 48) hx hb dX9_next_283 (by decide) ?_
          refine lv_isub (pc := 285) hx hb dX9_next_285 ?_
          refine lv_goto (pc := 286) (tgt := 290) hx hb dX9_next_286 (by decide) ?_
          exact w_X9_next_b290 C hK σ v2 ((((10 : Int32) * (σ 0 26)) + (σ 5 ((σ 0 23).toNatClampNeg))) - (48 : Int32)) (f_X9_next_b230  n) (fun σ v2 {H : Heap} {locs : List Loc} {ls : Array Slot}  hW hS hl h => ih σ v2 hW hS hl h) hW hS (lv_sub hl [0, 1] rfl) h

theorem w_X9_next_b195 (C : CX cX9_next 3 RX9 none D ac p m c s args meth (z, aK, aV) (Ar (z + 80))) (hK : 1 ≤ K) {σf : Mem}   (σ : Mem) (v2 : Int32) (k1 : Int32)  {H : Heap} {locs : List Loc} {ls : Array Slot} (hW : WR D ac (z + 80) σ H) (hS : va_S (Ar (z + 80)) s.heap H locs) (hl : lv_has ls 3 [(0, .ref (z + 80 + 0)), (2, .int v2)]) (h : f_X9_next_b195 σ v2 k1 = some σf) : W p l e (rma K 0 0) s m args below meth c H locs 0 0 (MQ below (QV D (Er ac (z + 80)) inR (z + 80) none σf (Ar (z + 80))) args s 0 0 (Ar (z + 80))) (F0 m 195 ls [.int k1, .ref (z + 80 + 0)]) := by
  have hx := C.1.1
  have hb := C.1.2.1
  unfold f_X9_next_b195 at h
  refine pf_X9_25 (pc := 195) C hW hS fl_X9_110 dX9_next_195 (fun H locs hW hS => ?_)
  refine lv_aload_n (pc := 198) hx hb dX9_next_198 rfl (lv_at hl 0 rfl) ?_
  refine lv_iload_n (pc := 199) hx hb dX9_next_199 rfl (lv_at hl 1 rfl) ?_
  refine lv_iconst (pc := 200) (v := 3) hx hb dX9_next_200 (by decide) ?_
  refine lv_icmp_ge (pc := 201) (tgt := 208) hx hb dX9_next_201 (by decide) (fun hc36 => ?_) (fun hc36 => ?_)
  · replace h := o_pos hc36 h
    refine lv_iload_n (pc := 208) hx hb dX9_next_208 rfl (lv_at hl 1 rfl) ?_
    refine lv_iconst (pc := 209) (v := 3) hx hb dX9_next_209 (by decide) ?_
    refine lv_isub (pc := 210) hx hb dX9_next_210 ?_
    refine pf_X9_26 (pc := 211) C hW hS fl_X9_113 dX9_next_211 (fun H locs hW hS => ?_)
    refine lv_goto (pc := 214) (tgt := 403) hx hb dX9_next_214 (by decide) ?_
    exact g_vret (pc := 403) C hW hS dX9_next_403 rfl (Option.some.inj h).symm
  · replace h := o_neg hc36 h
    refine lv_iload_n (pc := 204) hx hb dX9_next_204 rfl (lv_at hl 1 rfl) ?_
    refine lv_goto (pc := 205) (tgt := 211) hx hb dX9_next_205 (by decide) ?_
    refine pf_X9_26 (pc := 211) C hW hS fl_X9_113 dX9_next_211 (fun H locs hW hS => ?_)
    refine lv_goto (pc := 214) (tgt := 403) hx hb dX9_next_214 (by decide) ?_
    exact g_vret (pc := 403) C hW hS dX9_next_403 rfl (Option.some.inj h).symm

theorem w_X9_next_b146 (C : CX cX9_next 3 RX9 none D ac p m c s args meth (z, aK, aV) (Ar (z + 80))) (hK : 1 ≤ K) {σf : Mem}   (σ : Mem)  {H : Heap} {locs : List Loc} {ls : Array Slot} (hW : WR D ac (z + 80) σ H) (hS : va_S (Ar (z + 80)) s.heap H locs) (hl : lv_has ls 3 [(0, .ref (z + 80 + 0))]) (h : f_X9_next_b146 σ = some σf) : W p l e (rma K 0 0) s m args below meth c H locs 0 0 (MQ below (QV D (Er ac (z + 80)) inR (z + 80) none σf (Ar (z + 80))) args s 0 0 (Ar (z + 80))) (F0 m 146 ls []) := by
  have hx := C.1.1
  have hb := C.1.2.1
  unfold f_X9_next_b146 at h
  refine lv_aload_n (pc := 146) hx hb dX9_next_146 rfl (lv_at hl 0 rfl) ?_
  refine lv_aload_n (pc := 147) hx hb dX9_next_147 rfl (lv_at hl 0 rfl) ?_
  refine gf_X9_24 (pc := 148) C hW fl_X9_107 dX9_next_148 ?_
  refine lv_aload_n (pc := 151) hx hb dX9_next_151 rfl (lv_at hl 0 rfl) ?_
  refine gf_X9_23 (pc := 152) C hW fl_X9_104 dX9_next_152 ?_
  obtain ⟨r33, hc31, h⟩ := o_b h
  refine g_virt (pc := 155) (st2 := [.int r33]) (rest := []) C hW hS (c_X9_wordFrom (K := K - 1) (by omega) hc31) mw_X9_116 inR0 Er_0 rfl (hRoom (by omega) (by decide)) rfl rfl rfl (Nat.le_of_ble_eq_true rfl) hl.1 dX9_next_155 (fun H locs hW hS => ?_)
  refine lv_istore_n (pc := 158) (lv' := [(2, .int r33), (0, .ref (z + 80 + 0))]) hx hb dX9_next_158 rfl hl (by decide) rfl (fun ls hl => ?_)
  refine lv_aload_n (pc := 159) hx hb dX9_next_159 rfl (lv_at hl 1 rfl) ?_
  refine lv_iload_n (pc := 160) hx hb dX9_next_160 rfl (lv_at hl 0 rfl) ?_
  refine lv_iconst (pc := 161) (v := 3) hx hb dX9_next_161 (by decide) ?_
  refine lv_icmp_ge (pc := 162) (tgt := 169) hx hb dX9_next_162 (by decide) (fun hc33 => ?_) (fun hc33 => ?_)
  · replace h := o_pos hc33 h
    refine lv_iload_n (pc := 169) hx hb dX9_next_169 rfl (lv_at hl 0 rfl) ?_
    refine lv_bipush (pc := 170) (v := 9) hx hb dX9_next_170 (by decide) ?_
    refine lv_icmp_ge (pc := 172) (tgt := 179) hx hb dX9_next_172 (by decide) (fun hc34 => ?_) (fun hc34 => ?_)
    · replace h := o_pos hc34 h
      refine lv_iload_n (pc := 179) hx hb dX9_next_179 rfl (lv_at hl 0 rfl) ?_
      refine lv_bipush (pc := 180) (v := 12) hx hb dX9_next_180 (by decide) ?_
      refine lv_icmp_ne (pc := 182) (tgt := 189) hx hb dX9_next_182 (by decide) (fun hc35 => ?_) (fun hc35 => ?_)
      · replace h := o_neg hc35 h
        refine lv_iconst (pc := 189) (v := 4) hx hb dX9_next_189 (by decide) ?_
        refine lv_iload_n (pc := 190) hx hb dX9_next_190 rfl (lv_at hl 0 rfl) ?_
        refine lv_iadd (pc := 191) hx hb dX9_next_191 ?_
        refine lv_bipush (pc := 192) (v := 9) hx hb dX9_next_192 (by decide) ?_
        refine lv_isub (pc := 194) hx hb dX9_next_194 ?_
        exact w_X9_next_b195 C hK σ r33 (((4 : Int32) + r33) - (9 : Int32)) hW hS (lv_sub hl [1, 0] rfl) h
      · replace h := o_pos hc35 h
        refine lv_iconst (pc := 185) (v := -1) hx hb dX9_next_185 (by decide) ?_
        refine lv_goto (pc := 186) (tgt := 195) hx hb dX9_next_186 (by decide) ?_
        exact w_X9_next_b195 C hK σ r33 (-1 : Int32) hW hS (lv_sub hl [1, 0] rfl) h
    · replace h := o_neg hc34 h
      refine lv_iconst (pc := 175) (v := 2) hx hb dX9_next_175 (by decide) ?_
      refine lv_goto (pc := 176) (tgt := 195) hx hb dX9_next_176 (by decide) ?_
      exact w_X9_next_b195 C hK σ r33 (2 : Int32) hW hS (lv_sub hl [1, 0] rfl) h
  · replace h := o_neg hc33 h
    refine lv_iconst (pc := 165) (v := 3) hx hb dX9_next_165 (by decide) ?_
    refine lv_goto (pc := 166) (tgt := 195) hx hb dX9_next_166 (by decide) ?_
    exact w_X9_next_b195 C hK σ r33 (3 : Int32) hW hS (lv_sub hl [1, 0] rfl) h

theorem w_X9_next_b103 (C : CX cX9_next 3 RX9 none D ac p m c s args meth (z, aK, aV) (Ar (z + 80))) (hK : 1 ≤ K) {σf : Mem}    : ∀ (n : Nat) (σ : Mem) {H : Heap} {locs : List Loc} {ls : Array Slot} (hW : WR D ac (z + 80) σ H) (hS : va_S (Ar (z + 80)) s.heap H locs) (hl : lv_has ls 3 [(0, .ref (z + 80 + 0))]) (h : f_X9_next_b103 n σ = some σf), W p l e (rma K 0 0) s m args below meth c H locs 0 0 (MQ below (QV D (Er ac (z + 80)) inR (z + 80) none σf (Ar (z + 80))) args s 0 0 (Ar (z + 80))) (F0 m 103 ls []) := by
  have hx := C.1.1
  have hb := C.1.2.1
  intro n
  induction n with
  | zero =>
    intro σ H locs ls  hW hS hl h
    cases h
  | succ n ih =>
    intro σ H locs ls  hW hS hl h
    rw [f_X9_next_b103.eq_2] at h
    refine lv_aload_n (pc := 103) hx hb dX9_next_103 rfl (lv_at hl 0 rfl) ?_
    refine gf_X9_23 (pc := 104) C hW fl_X9_104 dX9_next_104 ?_
    refine lv_aload_n (pc := 107) hx hb dX9_next_107 rfl (lv_at hl 0 rfl) ?_
    refine gf_X9_8 (pc := 108) C hW fl_X9_73 dX9_next_108 ?_
    refine lv_icmp_ge (pc := 111) (tgt := 146) hx hb dX9_next_111 (by decide) (fun hc28 => ?_) (fun hc28 => ?_)
    · replace h := o_pos hc28 h
      exact w_X9_next_b146 C hK σ hW hS (lv_sub hl [0] rfl) h
    · replace h := o_neg hc28 h
      refine lv_aload_n (pc := 114) hx hb dX9_next_114 rfl (lv_at hl 0 rfl) ?_
      refine gf_X9_7 (pc := 115) C hW fl_X9_22 dX9_next_115 ?_
      refine lv_aload_n (pc := 118) hx hb dX9_next_118 rfl (lv_at hl 0 rfl) ?_
      refine gf_X9_23 (pc := 119) C hW fl_X9_104 dX9_next_119 ?_
      obtain ⟨hc29, h⟩ := o_chk h
      refine ir_ld (pc := 122) (k := 5) C hW (by decide) (by decide) rfl rfl (inb_in hc29) dX9_next_122 ?_
      refine lv_bipush (pc := 123) (v := 97) hx hb dX9_next_123 (by decide) ?_
      refine lv_bipush (pc := 125) (v := 122) hx hb dX9_next_125 (by decide) ?_
      refine g_stat (pc := 127) (st2 := [.int (f_X9_in (σ 5 ((σ 0 23).toNatClampNeg)) (97 : Int32) (122 : Int32))]) (rest := []) C hW hS (c_X9_in (K := K - 1) (by omega) rfl) mw_X9_84 (hRoom (by omega) (by decide)) rfl rfl rfl (Nat.le_of_ble_eq_true rfl) hl.1 dX9_next_127 (fun H locs hW hS => ?_)
      refine lv_if_eq (pc := 130) (tgt := 146) hx hb dX9_next_130 (by decide) (fun hc30 => ?_) (fun hc30 => ?_)
      · replace h := o_pos hc30 h
        exact w_X9_next_b146 C hK σ hW hS (lv_sub hl [0] rfl) h
      · replace h := o_neg hc30 h
        refine lv_aload_n (pc := 133) hx hb dX9_next_133 rfl (lv_at hl 0 rfl) ?_
        refine lv_dup (pc := 134) hx hb dX9_next_134 rfl ?_
        refine gf_X9_23 (pc := 135) C hW fl_X9_104 dX9_next_135 ?_
        refine lv_iconst (pc := 138) (v := 1) hx hb dX9_next_138 (by decide) ?_
        refine lv_iadd (pc := 139) hx hb dX9_next_139 ?_
        refine pf_X9_23 (pc := 140) C hW hS fl_X9_104 dX9_next_140 (fun H locs hW hS => ?_)
        refine lv_goto (pc := 143) (tgt := 103) hx hb dX9_next_143 (by decide) ?_
        exact ih (ms σ 0 23 ((σ 0 23) + (1 : Int32))) hW hS (lv_sub hl [0] rfl) h

theorem w_X9_next_b52 (C : CX cX9_next 3 RX9 none D ac p m c s args meth (z, aK, aV) (Ar (z + 80))) (hK : 1 ≤ K) {σf : Mem}   (σ : Mem)  {H : Heap} {locs : List Loc} {ls : Array Slot} (hW : WR D ac (z + 80) σ H) (hS : va_S (Ar (z + 80)) s.heap H locs) (hl : lv_has ls 3 [(0, .ref (z + 80 + 0))]) (h : f_X9_next_b52 σ = some σf) : W p l e (rma K 0 0) s m args below meth c H locs 0 0 (MQ below (QV D (Er ac (z + 80)) inR (z + 80) none σf (Ar (z + 80))) args s 0 0 (Ar (z + 80))) (F0 m 52 ls []) := by
  have hx := C.1.1
  have hb := C.1.2.1
  unfold f_X9_next_b52 at h
  refine lv_aload_n (pc := 52) hx hb dX9_next_52 rfl (lv_at hl 0 rfl) ?_
  refine lv_aload_n (pc := 53) hx hb dX9_next_53 rfl (lv_at hl 0 rfl) ?_
  refine gf_X9_23 (pc := 54) C hW fl_X9_104 dX9_next_54 ?_
  refine pf_X9_24 (pc := 57) C hW hS fl_X9_107 dX9_next_57 (fun H locs hW hS => ?_)
  refine lv_aload_n (pc := 60) hx hb dX9_next_60 rfl (lv_at hl 0 rfl) ?_
  refine lv_iconst (pc := 61) (v := 0) hx hb dX9_next_61 (by decide) ?_
  refine pf_X9_25 (pc := 62) C hW hS fl_X9_110 dX9_next_62 (fun H locs hW hS => ?_)
  refine lv_aload_n (pc := 65) hx hb dX9_next_65 rfl (lv_at hl 0 rfl) ?_
  refine lv_iconst (pc := 66) (v := 0) hx hb dX9_next_66 (by decide) ?_
  refine pf_X9_26 (pc := 67) C hW hS fl_X9_113 dX9_next_67 (fun H locs hW hS => ?_)
  obtain ⟨σ6, hσ6, h⟩ := o_d h
  replace hW : WR D ac (z + 80) σ6 H := by rw [← hσ6]; exact hW
  refine lv_aload_n (pc := 70) hx hb dX9_next_70 rfl (lv_at hl 0 rfl) ?_
  refine gf_X9_23 (pc := 71) C hW fl_X9_104 dX9_next_71 ?_
  refine lv_aload_n (pc := 74) hx hb dX9_next_74 rfl (lv_at hl 0 rfl) ?_
  refine gf_X9_8 (pc := 75) C hW fl_X9_73 dX9_next_75 ?_
  refine lv_icmp_ne (pc := 78) (tgt := 82) hx hb dX9_next_78 (by decide) (fun hc6 => ?_) (fun hc6 => ?_)
  · replace h := o_neg hc6 h
    refine lv_aload_n (pc := 82) hx hb dX9_next_82 rfl (lv_at hl 0 rfl) ?_
    refine gf_X9_7 (pc := 83) C hW fl_X9_22 dX9_next_83 ?_
    refine lv_aload_n (pc := 86) hx hb dX9_next_86 rfl (lv_at hl 0 rfl) ?_
    refine gf_X9_23 (pc := 87) C hW fl_X9_104 dX9_next_87 ?_
    obtain ⟨hc7, h⟩ := o_chk h
    refine ir_ld (pc := 90) (k := 5) C hW (by decide) (by decide) rfl rfl (inb_in hc7) dX9_next_90 ?_
    refine lv_istore_n (pc := 91) (lv' := [(1, .int (σ6 5 ((σ6 0 23).toNatClampNeg))), (0, .ref (z + 80 + 0))]) hx hb dX9_next_91 rfl hl (by decide) rfl (fun ls hl => ?_)
    refine lv_iload_n (pc := 92) hx hb dX9_next_92 rfl (lv_at hl 0 rfl) ?_
    refine lv_bipush (pc := 93) (v := 97) hx hb dX9_next_93 (by decide) ?_
    refine lv_bipush (pc := 95) (v := 122) hx hb dX9_next_95 (by decide) ?_
    refine g_stat (pc := 97) (st2 := [.int (f_X9_in (σ6 5 ((σ6 0 23).toNatClampNeg)) (97 : Int32) (122 : Int32))]) (rest := []) C hW hS (c_X9_in (K := K - 1) (by omega) rfl) mw_X9_84 (hRoom (by omega) (by decide)) rfl rfl rfl (Nat.le_of_ble_eq_true rfl) hl.1 dX9_next_97 (fun H locs hW hS => ?_)
    refine lv_if_eq (pc := 100) (tgt := 217) hx hb dX9_next_100 (by decide) (fun hc8 => ?_) (fun hc8 => ?_)
    · replace h := o_pos hc8 h
      refine lv_iload_n (pc := 217) hx hb dX9_next_217 rfl (lv_at hl 0 rfl) ?_
      refine lv_bipush (pc := 218) (v := 48) hx hb dX9_next_218 (by decide) ?_
      refine lv_bipush (pc := 220) (v := 57) hx hb dX9_next_220 (by decide) ?_
      refine g_stat (pc := 222) (st2 := [.int (f_X9_in (σ6 5 ((σ6 0 23).toNatClampNeg)) (48 : Int32) (57 : Int32))]) (rest := []) C hW hS (c_X9_in (K := K - 1) (by omega) rfl) mw_X9_84 (hRoom (by omega) (by decide)) rfl rfl rfl (Nat.le_of_ble_eq_true rfl) hl.1 dX9_next_222 (fun H locs hW hS => ?_)
      refine lv_if_eq (pc := 225) (tgt := 326) hx hb dX9_next_225 (by decide) (fun hc9 => ?_) (fun hc9 => ?_)
      · replace h := o_pos hc9 h
        refine lv_iload_n (pc := 326) hx hb dX9_next_326 rfl (lv_at hl 0 rfl) ?_
        refine lv_bipush (pc := 327) (v := 40) hx hb dX9_next_327 (by decide) ?_
        refine lv_icmp_eq (pc := 329) (tgt := 374) hx hb dX9_next_329 (by decide) (fun hc10 => ?_) (fun hc10 => ?_)
        · replace h := o_pos hc10 h
          exact w_X9_next_b374 C hK σ6 (σ6 5 ((σ6 0 23).toNatClampNeg)) hW hS (lv_sub hl [1, 0] rfl) h
        · replace h := o_neg hc10 h
          refine lv_iload_n (pc := 332) hx hb dX9_next_332 rfl (lv_at hl 0 rfl) ?_
          refine lv_bipush (pc := 333) (v := 41) hx hb dX9_next_333 (by decide) ?_
          refine lv_icmp_eq (pc := 335) (tgt := 374) hx hb dX9_next_335 (by decide) (fun hc11 => ?_) (fun hc11 => ?_)
          · replace h := o_pos hc11 h
            exact w_X9_next_b374 C hK σ6 (σ6 5 ((σ6 0 23).toNatClampNeg)) hW hS (lv_sub hl [1, 0] rfl) h
          · replace h := o_neg hc11 h
            refine lv_iload_n (pc := 338) hx hb dX9_next_338 rfl (lv_at hl 0 rfl) ?_
            refine lv_bipush (pc := 339) (v := 59) hx hb dX9_next_339 (by decide) ?_
            refine lv_icmp_eq (pc := 341) (tgt := 374) hx hb dX9_next_341 (by decide) (fun hc12 => ?_) (fun hc12 => ?_)
            · replace h := o_pos hc12 h
              exact w_X9_next_b374 C hK σ6 (σ6 5 ((σ6 0 23).toNatClampNeg)) hW hS (lv_sub hl [1, 0] rfl) h
            · replace h := o_neg hc12 h
              refine lv_iload_n (pc := 344) hx hb dX9_next_344 rfl (lv_at hl 0 rfl) ?_
              refine lv_bipush (pc := 345) (v := 43) hx hb dX9_next_345 (by decide) ?_
              refine lv_icmp_eq (pc := 347) (tgt := 374) hx hb dX9_next_347 (by decide) (fun hc13 => ?_) (fun hc13 => ?_)
              · replace h := o_pos hc13 h
                exact w_X9_next_b374 C hK σ6 (σ6 5 ((σ6 0 23).toNatClampNeg)) hW hS (lv_sub hl [1, 0] rfl) h
              · replace h := o_neg hc13 h
                refine lv_iload_n (pc := 350) hx hb dX9_next_350 rfl (lv_at hl 0 rfl) ?_
                refine lv_bipush (pc := 351) (v := 45) hx hb dX9_next_351 (by decide) ?_
                refine lv_icmp_eq (pc := 353) (tgt := 374) hx hb dX9_next_353 (by decide) (fun hc14 => ?_) (fun hc14 => ?_)
                · replace h := o_pos hc14 h
                  exact w_X9_next_b374 C hK σ6 (σ6 5 ((σ6 0 23).toNatClampNeg)) hW hS (lv_sub hl [1, 0] rfl) h
                · replace h := o_neg hc14 h
                  refine lv_iload_n (pc := 356) hx hb dX9_next_356 rfl (lv_at hl 0 rfl) ?_
                  refine lv_bipush (pc := 357) (v := 42) hx hb dX9_next_357 (by decide) ?_
                  refine lv_icmp_eq (pc := 359) (tgt := 374) hx hb dX9_next_359 (by decide) (fun hc15 => ?_) (fun hc15 => ?_)
                  · replace h := o_pos hc15 h
                    exact w_X9_next_b374 C hK σ6 (σ6 5 ((σ6 0 23).toNatClampNeg)) hW hS (lv_sub hl [1, 0] rfl) h
                  · replace h := o_neg hc15 h
                    refine lv_iload_n (pc := 362) hx hb dX9_next_362 rfl (lv_at hl 0 rfl) ?_
                    refine lv_bipush (pc := 363) (v := 60) hx hb dX9_next_363 (by decide) ?_
                    refine lv_icmp_eq (pc := 365) (tgt := 374) hx hb dX9_next_365 (by decide) (fun hc16 => ?_) (fun hc16 => ?_)
                    · replace h := o_pos hc16 h
                      exact w_X9_next_b374 C hK σ6 (σ6 5 ((σ6 0 23).toNatClampNeg)) hW hS (lv_sub hl [1, 0] rfl) h
                    · replace h := o_neg hc16 h
                      refine lv_iload_n (pc := 368) hx hb dX9_next_368 rfl (lv_at hl 0 rfl) ?_
                      refine lv_bipush (pc := 369) (v := 61) hx hb dX9_next_369 (by decide) ?_
                      refine lv_icmp_ne (pc := 371) (tgt := 378) hx hb dX9_next_371 (by decide) (fun hc17 => ?_) (fun hc17 => ?_)
                      · replace h := o_neg hc17 h
                        refine lv_iconst (pc := 378) (v := 0) hx hb dX9_next_378 (by decide) ?_
                        exact w_X9_next_b379 C hK σ6 (σ6 5 ((σ6 0 23).toNatClampNeg)) (0 : Int32) hW hS (lv_sub hl [1, 0] rfl) h
                      · replace h := o_pos hc17 h
                        exact w_X9_next_b374 C hK σ6 (σ6 5 ((σ6 0 23).toNatClampNeg)) hW hS (lv_sub hl [1, 0] rfl) h
      · replace h := o_neg hc9 h
        refine lv_iconst (pc := 228) (v := 0) hx hb dX9_next_228 (by decide) ?_
        refine lv_istore_n (pc := 229) (lv' := [(2, .int (0 : Int32)), (1, .int (σ6 5 ((σ6 0 23).toNatClampNeg))), (0, .ref (z + 80 + 0))]) hx hb dX9_next_229 rfl hl (by decide) rfl (fun ls hl => ?_)
        exact w_X9_next_b230 C hK FU σ6 (0 : Int32) hW hS (lv_sub hl [2, 0] rfl) h
    · replace h := o_neg hc8 h
      exact w_X9_next_b103 C hK FU σ6 hW hS (lv_sub hl [1] rfl) h
  · replace h := o_pos hc6 h
    exact g_vret (pc := 81) C hW hS dX9_next_81 rfl (Option.some.inj h).symm

theorem w_X9_next_b39 (C : CX cX9_next 3 RX9 none D ac p m c s args meth (z, aK, aV) (Ar (z + 80))) (hK : 1 ≤ K) {σf : Mem}   (σ : Mem) (s0 : Mem → Option Mem) (hs0 : ∀ (σ : Mem) {H : Heap} {locs : List Loc} {ls : Array Slot} (_ : WR D ac (z + 80) σ H) (_ : va_S (Ar (z + 80)) s.heap H locs) (_ : lv_has ls 3 [(0, .ref (z + 80 + 0))]) (_ : s0 σ = some σf), W p l e (rma K 0 0) s m args below meth c H locs 0 0 (MQ below (QV D (Er ac (z + 80)) inR (z + 80) none σf (Ar (z + 80))) args s 0 0 (Ar (z + 80))) (F0 m 0 ls [])) {H : Heap} {locs : List Loc} {ls : Array Slot} (hW : WR D ac (z + 80) σ H) (hS : va_S (Ar (z + 80)) s.heap H locs) (hl : lv_has ls 3 [(0, .ref (z + 80 + 0))]) (h : f_X9_next_b39 s0 σ = some σf) : W p l e (rma K 0 0) s m args below meth c H locs 0 0 (MQ below (QV D (Er ac (z + 80)) inR (z + 80) none σf (Ar (z + 80))) args s 0 0 (Ar (z + 80))) (F0 m 39 ls []) := by
  have hx := C.1.1
  have hb := C.1.2.1
  unfold f_X9_next_b39 at h
  refine lv_aload_n (pc := 39) hx hb dX9_next_39 rfl (lv_at hl 0 rfl) ?_
  refine lv_dup (pc := 40) hx hb dX9_next_40 rfl ?_
  refine gf_X9_23 (pc := 41) C hW fl_X9_104 dX9_next_41 ?_
  refine lv_iconst (pc := 44) (v := 1) hx hb dX9_next_44 (by decide) ?_
  refine lv_iadd (pc := 45) hx hb dX9_next_45 ?_
  refine pf_X9_23 (pc := 46) C hW hS fl_X9_104 dX9_next_46 (fun H locs hW hS => ?_)
  refine lv_goto (pc := 49) (tgt := 0) hx hb dX9_next_49 (by decide) ?_
  exact hs0 (ms σ 0 23 ((σ 0 23) + (1 : Int32))) hW hS (lv_sub hl [0] rfl) h

theorem w_X9_next_b0 (C : CX cX9_next 3 RX9 none D ac p m c s args meth (z, aK, aV) (Ar (z + 80))) (hK : 1 ≤ K) {σf : Mem}    : ∀ (n : Nat) (σ : Mem) {H : Heap} {locs : List Loc} {ls : Array Slot} (hW : WR D ac (z + 80) σ H) (hS : va_S (Ar (z + 80)) s.heap H locs) (hl : lv_has ls 3 [(0, .ref (z + 80 + 0))]) (h : f_X9_next_b0 n σ = some σf), W p l e (rma K 0 0) s m args below meth c H locs 0 0 (MQ below (QV D (Er ac (z + 80)) inR (z + 80) none σf (Ar (z + 80))) args s 0 0 (Ar (z + 80))) (F0 m 0 ls []) := by
  have hx := C.1.1
  have hb := C.1.2.1
  intro n
  induction n with
  | zero =>
    intro σ H locs ls  hW hS hl h
    cases h
  | succ n ih =>
    intro σ H locs ls  hW hS hl h
    rw [f_X9_next_b0.eq_2] at h
    refine lv_aload_n (pc := 0) hx hb dX9_next_0 rfl (lv_at hl 0 rfl) ?_
    refine gf_X9_23 (pc := 1) C hW fl_X9_104 dX9_next_1 ?_
    refine lv_aload_n (pc := 4) hx hb dX9_next_4 rfl (lv_at hl 0 rfl) ?_
    refine gf_X9_8 (pc := 5) C hW fl_X9_73 dX9_next_5 ?_
    refine lv_icmp_ge (pc := 8) (tgt := 52) hx hb dX9_next_8 (by decide) (fun hc0 => ?_) (fun hc0 => ?_)
    · replace h := o_pos hc0 h
      exact w_X9_next_b52 C hK σ hW hS (lv_sub hl [0] rfl) h
    · replace h := o_neg hc0 h
      refine lv_aload_n (pc := 11) hx hb dX9_next_11 rfl (lv_at hl 0 rfl) ?_
      refine gf_X9_7 (pc := 12) C hW fl_X9_22 dX9_next_12 ?_
      refine lv_aload_n (pc := 15) hx hb dX9_next_15 rfl (lv_at hl 0 rfl) ?_
      refine gf_X9_23 (pc := 16) C hW fl_X9_104 dX9_next_16 ?_
      obtain ⟨hc1, h⟩ := o_chk h
      refine ir_ld (pc := 19) (k := 5) C hW (by decide) (by decide) rfl rfl (inb_in hc1) dX9_next_19 ?_
      refine lv_bipush (pc := 20) (v := 32) hx hb dX9_next_20 (by decide) ?_
      refine lv_icmp_eq (pc := 22) (tgt := 39) hx hb dX9_next_22 (by decide) (fun hc2 => ?_) (fun hc2 => ?_)
      · replace h := o_pos hc2 h
        exact w_X9_next_b39 C hK σ (f_X9_next_b0  n) (fun σ {H : Heap} {locs : List Loc} {ls : Array Slot}  hW hS hl h => ih σ hW hS hl h) hW hS (lv_sub hl [0] rfl) h
      · replace h := o_neg hc2 h
        refine lv_aload_n (pc := 25) hx hb dX9_next_25 rfl (lv_at hl 0 rfl) ?_
        refine gf_X9_7 (pc := 26) C hW fl_X9_22 dX9_next_26 ?_
        refine lv_aload_n (pc := 29) hx hb dX9_next_29 rfl (lv_at hl 0 rfl) ?_
        refine gf_X9_23 (pc := 30) C hW fl_X9_104 dX9_next_30 ?_
        obtain ⟨hc3, h⟩ := o_chk h
        refine ir_ld (pc := 33) (k := 5) C hW (by decide) (by decide) rfl rfl (inb_in hc3) dX9_next_33 ?_
        refine lv_bipush (pc := 34) (v := 10) hx hb dX9_next_34 (by decide) ?_
        refine lv_icmp_ne (pc := 36) (tgt := 52) hx hb dX9_next_36 (by decide) (fun hc4 => ?_) (fun hc4 => ?_)
        · replace h := o_neg hc4 h
          exact w_X9_next_b52 C hK σ hW hS (lv_sub hl [0] rfl) h
        · replace h := o_pos hc4 h
          exact w_X9_next_b39 C hK σ (f_X9_next_b0  n) (fun σ {H : Heap} {locs : List Loc} {ls : Array Slot}  hW hS hl h => ih σ hW hS hl h) hW hS (lv_sub hl [0] rfl) h

theorem c_X9_next {K : Nat}  (hK : 1 ≤ K) {σ : Mem} {σf : Mem} (h : f_X9_next σ = some σf) : MC l D (Er ac (z + 80)) inR (z + 80) ac (z, aK, aV) (Ar (z + 80)) yX9_next cX9_next 3 none K [.ref (z + 80 + 0)] σ none σf := by
  refine MC.of (fun q hq => by have := hq.1; show z ≤ q; omega) (plainFor_of_name (by decide)) (Nat.le_of_ble_eq_true rfl) ?_
  intro p e s m below meth c args C hW ls hl
  replace hl : lv_has ls 3 [(0, .ref (z + 80 + 0))] := hl
  have hS : va_S (Ar (z + 80)) s.heap s.heap [] := va_S.rf
  have hx := C.1.1
  have hb := C.1.2.1
  unfold f_X9_next at h
  exact w_X9_next_b0 C hK FU σ hW hS (lv_sub hl [0] rfl) h

theorem c_X9_rank {K : Nat}  (hK : 0 ≤ K) {σ : Mem} {v0 : Int32} {r : Int32} (h : f_X9_rank v0 = r) : MC l D (Er ac (z + 80)) inR (z + 80) ac (z, aK, aV) (Ar (z + 80)) yX9_rank cX9_rank 1 (some .int) K [.int v0] σ (some (.int r)) σ := by
  refine MC.of (fun q hq => by have := hq.1; show z ≤ q; omega) (plainFor_of_name (by decide)) (Nat.le_of_ble_eq_true rfl) ?_
  intro p e s m below meth c args C hW ls hl
  replace hl : lv_has ls 1 [(0, .int v0)] := hl
  have hS : va_S (Ar (z + 80)) s.heap s.heap [] := va_S.rf
  have hx := C.1.1
  have hb := C.1.2.1
  unfold f_X9_rank at h
  refine lv_iload_n (pc := 0) hx hb dX9_rank_0 rfl (lv_at hl 0 rfl) ?_
  refine lv_if_ne (pc := 1) (tgt := 8) hx hb dX9_rank_1 (by decide) (fun hc0 => ?_) (fun hc0 => ?_)
  · replace h := o_neg hc0 h
    refine lv_iload_n (pc := 8) hx hb dX9_rank_8 rfl (lv_at hl 0 rfl) ?_
    refine lv_bipush (pc := 9) (v := 11) hx hb dX9_rank_9 (by decide) ?_
    refine lv_icmp_ne (pc := 11) (tgt := 18) hx hb dX9_rank_11 (by decide) (fun hc1 => ?_) (fun hc1 => ?_)
    · replace h := o_neg hc1 h
      refine lv_iload_n (pc := 18) hx hb dX9_rank_18 rfl (lv_at hl 0 rfl) ?_
      refine lv_bipush (pc := 19) (v := 12) hx hb dX9_rank_19 (by decide) ?_
      refine lv_icmp_ne (pc := 21) (tgt := 28) hx hb dX9_rank_21 (by decide) (fun hc2 => ?_) (fun hc2 => ?_)
      · replace h := o_neg hc2 h
        refine lv_iload_n (pc := 28) hx hb dX9_rank_28 rfl (lv_at hl 0 rfl) ?_
        refine lv_bipush (pc := 29) (v := 13) hx hb dX9_rank_29 (by decide) ?_
        refine lv_icmp_ne (pc := 31) (tgt := 38) hx hb dX9_rank_31 (by decide) (fun hc3 => ?_) (fun hc3 => ?_)
        · replace h := o_neg hc3 h
          refine lv_iload_n (pc := 38) hx hb dX9_rank_38 rfl (lv_at hl 0 rfl) ?_
          refine lv_bipush (pc := 39) (v := 15) hx hb dX9_rank_39 (by decide) ?_
          refine lv_icmp_gt (pc := 41) (tgt := 48) hx hb dX9_rank_41 (by decide) (fun hc4 => ?_) (fun hc4 => ?_)
          · replace h := o_pos hc4 h
            refine lv_iload_n (pc := 48) hx hb dX9_rank_48 rfl (lv_at hl 0 rfl) ?_
            refine lv_bipush (pc := 49) (v := 17) hx hb dX9_rank_49 (by decide) ?_
            refine lv_icmp_gt (pc := 51) (tgt := 58) hx hb dX9_rank_51 (by decide) (fun hc5 => ?_) (fun hc5 => ?_)
            · replace h := o_pos hc5 h
              refine lv_iload_n (pc := 58) hx hb dX9_rank_58 rfl (lv_at hl 0 rfl) ?_
              refine lv_bipush (pc := 59) (v := 18) hx hb dX9_rank_59 (by decide) ?_
              refine lv_icmp_ne (pc := 61) (tgt := 69) hx hb dX9_rank_61 (by decide) (fun hc6 => ?_) (fun hc6 => ?_)
              · replace h := o_neg hc6 h
                refine lv_bipush (pc := 69) (v := 7) hx hb dX9_rank_69 (by decide) ?_
                exact g_ret (pc := 71) C hW hS rfl dX9_rank_71 (congrArg (fun q => some (Value.int q)) h.symm) rfl
              · replace h := o_pos hc6 h
                refine lv_bipush (pc := 64) (v := 6) hx hb dX9_rank_64 (by decide) ?_
                refine lv_goto (pc := 66) (tgt := 71) hx hb dX9_rank_66 (by decide) ?_
                exact g_ret (pc := 71) C hW hS rfl dX9_rank_71 (congrArg (fun q => some (Value.int q)) h.symm) rfl
            · replace h := o_neg hc5 h
              refine lv_iconst (pc := 54) (v := 5) hx hb dX9_rank_54 (by decide) ?_
              refine lv_goto (pc := 55) (tgt := 71) hx hb dX9_rank_55 (by decide) ?_
              exact g_ret (pc := 71) C hW hS rfl dX9_rank_71 (congrArg (fun q => some (Value.int q)) h.symm) rfl
          · replace h := o_neg hc4 h
            refine lv_iconst (pc := 44) (v := 4) hx hb dX9_rank_44 (by decide) ?_
            refine lv_goto (pc := 45) (tgt := 71) hx hb dX9_rank_45 (by decide) ?_
            exact g_ret (pc := 71) C hW hS rfl dX9_rank_71 (congrArg (fun q => some (Value.int q)) h.symm) rfl
        · replace h := o_pos hc3 h
          refine lv_iconst (pc := 34) (v := 3) hx hb dX9_rank_34 (by decide) ?_
          refine lv_goto (pc := 35) (tgt := 71) hx hb dX9_rank_35 (by decide) ?_
          exact g_ret (pc := 71) C hW hS rfl dX9_rank_71 (congrArg (fun q => some (Value.int q)) h.symm) rfl
      · replace h := o_pos hc2 h
        refine lv_iconst (pc := 24) (v := 2) hx hb dX9_rank_24 (by decide) ?_
        refine lv_goto (pc := 25) (tgt := 71) hx hb dX9_rank_25 (by decide) ?_
        exact g_ret (pc := 71) C hW hS rfl dX9_rank_71 (congrArg (fun q => some (Value.int q)) h.symm) rfl
    · replace h := o_pos hc1 h
      refine lv_iconst (pc := 14) (v := 1) hx hb dX9_rank_14 (by decide) ?_
      refine lv_goto (pc := 15) (tgt := 71) hx hb dX9_rank_15 (by decide) ?_
      exact g_ret (pc := 71) C hW hS rfl dX9_rank_71 (congrArg (fun q => some (Value.int q)) h.symm) rfl
  · replace h := o_pos hc0 h
    refine lv_iconst (pc := 4) (v := 0) hx hb dX9_rank_4 (by decide) ?_
    refine lv_goto (pc := 5) (tgt := 71) hx hb dX9_rank_5 (by decide) ?_
    exact g_ret (pc := 71) C hW hS rfl dX9_rank_71 (congrArg (fun q => some (Value.int q)) h.symm) rfl

theorem c_X9_puts {K : Nat}  (hK : 0 ≤ K) {σ : Mem} {σf : Mem} {v1 : Int32} (h : f_X9_puts σ v1 = some σf) : MC l D (Er ac (z + 80)) inR (z + 80) ac (z, aK, aV) (Ar (z + 80)) yX9_puts cX9_puts 2 none K [.ref (z + 80 + 0), .int v1] σ none σf := by
  refine MC.of (fun q hq => by have := hq.1; show z ≤ q; omega) (plainFor_of_name (by decide)) (Nat.le_of_ble_eq_true rfl) ?_
  intro p e s m below meth c args C hW ls hl
  replace hl : lv_has ls 2 [(0, .ref (z + 80 + 0)), (1, .int v1)] := hl
  have hS : va_S (Ar (z + 80)) s.heap s.heap [] := va_S.rf
  have hx := C.1.1
  have hb := C.1.2.1
  unfold f_X9_puts at h
  refine lv_aload_n (pc := 0) hx hb dX9_puts_0 rfl (lv_at hl 0 rfl) ?_
  refine gf_X9_9 (pc := 1) C hW fl_X9_25 dX9_puts_1 ?_
  refine lv_sipush (pc := 4) (v := 200) hx hb dX9_puts_4 (by decide) ?_
  refine lv_aload_n (pc := 7) hx hb dX9_puts_7 rfl (lv_at hl 0 rfl) ?_
  refine gf_X9_11 (pc := 8) C hW fl_X9_94 dX9_puts_8 ?_
  refine lv_imul (pc := 11) hx hb dX9_puts_11 ?_
  refine lv_aload_n (pc := 12) hx hb dX9_puts_12 rfl (lv_at hl 0 rfl) ?_
  refine gf_X9_31 (pc := 13) C hW fl_X9_120 dX9_puts_13 ?_
  refine lv_iadd (pc := 16) hx hb dX9_puts_16 ?_
  refine lv_iload_n (pc := 17) hx hb dX9_puts_17 rfl (lv_at hl 1 rfl) ?_
  obtain ⟨hc0, h⟩ := o_chk h
  refine ir_st (pc := 18) (k := 6) C hW hS (by decide) (by decide) rfl rfl (inb_in hc0) dX9_puts_18 (fun H locs hW hS => ?_)
  obtain ⟨σ2, hσ2, h⟩ := o_d h
  replace hW : WR D ac (z + 80) σ2 H := by rw [← hσ2]; exact hW
  refine lv_aload_n (pc := 19) hx hb dX9_puts_19 rfl (lv_at hl 0 rfl) ?_
  refine lv_dup (pc := 20) hx hb dX9_puts_20 rfl ?_
  refine gf_X9_31 (pc := 21) C hW fl_X9_120 dX9_puts_21 ?_
  refine lv_iconst (pc := 24) (v := 1) hx hb dX9_puts_24 (by decide) ?_
  refine lv_iadd (pc := 25) hx hb dX9_puts_25 ?_
  refine pf_X9_31 (pc := 26) C hW hS fl_X9_120 dX9_puts_26 (fun H locs hW hS => ?_)
  exact g_vret (pc := 29) C hW hS dX9_puts_29 rfl (Option.some.inj h).symm

theorem w_X9_unwinds_b67 (C : CX cX9_unwinds 3 RX9 none D ac p m c s args meth (z, aK, aV) (Ar (z + 80))) (hK : 1 ≤ K) {σf : Mem}   (σ : Mem) (v1 : Int32) (v2 : Int32) (k1 : Int32) (k2 : Int32) (s0 : Mem → Option Mem) (hs0 : ∀ (σ : Mem) {H : Heap} {locs : List Loc} {ls : Array Slot} (_ : WR D ac (z + 80) σ H) (_ : va_S (Ar (z + 80)) s.heap H locs) (_ : lv_has ls 3 [(0, .ref (z + 80 + 0)), (1, .int v1)]) (_ : s0 σ = some σf), W p l e (rma K 0 0) s m args below meth c H locs 0 0 (MQ below (QV D (Er ac (z + 80)) inR (z + 80) none σf (Ar (z + 80))) args s 0 0 (Ar (z + 80))) (F0 m 0 ls [])) {H : Heap} {locs : List Loc} {ls : Array Slot} (hW : WR D ac (z + 80) σ H) (hS : va_S (Ar (z + 80)) s.heap H locs) (hl : lv_has ls 3 [(0, .ref (z + 80 + 0)), (1, .int v1), (2, .int v2)]) (h : f_X9_unwinds_b67 s0 σ v1 v2 k1 k2 = some σf) : W p l e (rma K 0 0) s m args below meth c H locs 0 0 (MQ below (QV D (Er ac (z + 80)) inR (z + 80) none σf (Ar (z + 80))) args s 0 0 (Ar (z + 80))) (F0 m 67 ls [.int k2, .int k1, .ref (z + 80 + 0)]) := by
  have hx := C.1.1
  have hb := C.1.2.1
  unfold f_X9_unwinds_b67 at h
  refine lv_isub (pc := 67) hx hb dX9_unwinds_67 ?_
  refine pf_X9_30 (pc := 68) C hW hS fl_X9_130 dX9_unwinds_68 (fun H locs hW hS => ?_)
  refine lv_aload_n (pc := 71) hx hb dX9_unwinds_71 rfl (lv_at hl 0 rfl) ?_
  refine lv_iload_n (pc := 72) hx hb dX9_unwinds_72 rfl (lv_at hl 2 rfl) ?_
  obtain ⟨σ9, hc7, h⟩ := o_b h
  refine g_virt (pc := 73) (st2 := []) (rest := []) C hW hS (c_X9_puts (K := K - 1) (by omega) hc7) mw_X9_133 inR0 Er_0 rfl (hRoom (by omega) (by decide)) rfl rfl rfl (Nat.le_of_ble_eq_true rfl) hl.1 dX9_unwinds_73 (fun H locs hW hS => ?_)
  refine lv_goto (pc := 76) (tgt := 0) hx hb dX9_unwinds_76 (by decide) ?_
  exact hs0 σ9 hW hS (lv_sub hl [0, 1] rfl) h

theorem w_X9_unwinds_b62 (C : CX cX9_unwinds 3 RX9 none D ac p m c s args meth (z, aK, aV) (Ar (z + 80))) (hK : 1 ≤ K) {σf : Mem}   (σ : Mem) (v1 : Int32) (v2 : Int32) (k1 : Int32) (s0 : Mem → Option Mem) (hs0 : ∀ (σ : Mem) {H : Heap} {locs : List Loc} {ls : Array Slot} (_ : WR D ac (z + 80) σ H) (_ : va_S (Ar (z + 80)) s.heap H locs) (_ : lv_has ls 3 [(0, .ref (z + 80 + 0)), (1, .int v1)]) (_ : s0 σ = some σf), W p l e (rma K 0 0) s m args below meth c H locs 0 0 (MQ below (QV D (Er ac (z + 80)) inR (z + 80) none σf (Ar (z + 80))) args s 0 0 (Ar (z + 80))) (F0 m 0 ls [])) {H : Heap} {locs : List Loc} {ls : Array Slot} (hW : WR D ac (z + 80) σ H) (hS : va_S (Ar (z + 80)) s.heap H locs) (hl : lv_has ls 3 [(0, .ref (z + 80 + 0)), (1, .int v1), (2, .int v2)]) (h : f_X9_unwinds_b62 s0 σ v1 v2 k1 = some σf) : W p l e (rma K 0 0) s m args below meth c H locs 0 0 (MQ below (QV D (Er ac (z + 80)) inR (z + 80) none σf (Ar (z + 80))) args s 0 0 (Ar (z + 80))) (F0 m 62 ls [.int k1, .ref (z + 80 + 0)]) := by
  have hx := C.1.1
  have hb := C.1.2.1
  unfold f_X9_unwinds_b62 at h
  refine lv_iconst (pc := 62) (v := 1) hx hb dX9_unwinds_62 (by decide) ?_
  refine lv_goto (pc := 63) (tgt := 67) hx hb dX9_unwinds_63 (by decide) ?_
  exact w_X9_unwinds_b67 C hK σ v1 v2 k1 (1 : Int32) s0 hs0 hW hS (lv_sub hl [0, 1, 2] rfl) h

theorem w_X9_unwinds_b0 (C : CX cX9_unwinds 3 RX9 none D ac p m c s args meth (z, aK, aV) (Ar (z + 80))) (hK : 1 ≤ K) {σf : Mem}   (v1 : Int32)  : ∀ (n : Nat) (σ : Mem) {H : Heap} {locs : List Loc} {ls : Array Slot} (hW : WR D ac (z + 80) σ H) (hS : va_S (Ar (z + 80)) s.heap H locs) (hl : lv_has ls 3 [(0, .ref (z + 80 + 0)), (1, .int v1)]) (h : f_X9_unwinds_b0 v1 n σ = some σf), W p l e (rma K 0 0) s m args below meth c H locs 0 0 (MQ below (QV D (Er ac (z + 80)) inR (z + 80) none σf (Ar (z + 80))) args s 0 0 (Ar (z + 80))) (F0 m 0 ls []) := by
  have hx := C.1.1
  have hb := C.1.2.1
  intro n
  induction n with
  | zero =>
    intro σ H locs ls  hW hS hl h
    cases h
  | succ n ih =>
    intro σ H locs ls  hW hS hl h
    rw [f_X9_unwinds_b0.eq_2] at h
    refine lv_aload_n (pc := 0) hx hb dX9_unwinds_0 rfl (lv_at hl 0 rfl) ?_
    refine gf_X9_29 (pc := 1) C hW fl_X9_123 dX9_unwinds_1 ?_
    refine lv_if_le (pc := 4) (tgt := 79) hx hb dX9_unwinds_4 (by decide) (fun hc0 => ?_) (fun hc0 => ?_)
    · replace h := o_pos hc0 h
      exact g_vret (pc := 79) C hW hS dX9_unwinds_79 rfl (Option.some.inj h).symm
    · replace h := o_neg hc0 h
      refine lv_aload_n (pc := 7) hx hb dX9_unwinds_7 rfl (lv_at hl 0 rfl) ?_
      refine gf_X9_28 (pc := 8) C hW fl_X9_49 dX9_unwinds_8 ?_
      refine lv_aload_n (pc := 11) hx hb dX9_unwinds_11 rfl (lv_at hl 0 rfl) ?_
      refine gf_X9_29 (pc := 12) C hW fl_X9_123 dX9_unwinds_12 ?_
      refine lv_iconst (pc := 15) (v := 1) hx hb dX9_unwinds_15 (by decide) ?_
      refine lv_isub (pc := 16) hx hb dX9_unwinds_16 ?_
      obtain ⟨hc1, h⟩ := o_chk h
      refine ir_ld (pc := 17) (k := 14) C hW (by decide) (by decide) rfl rfl (inb_in hc1) dX9_unwinds_17 ?_
      refine g_stat (pc := 18) (st2 := [.int (f_X9_rank (σ 14 (((σ 0 29) - (1 : Int32)).toNatClampNeg)))]) (rest := []) C hW hS (c_X9_rank (K := K - 1) (by omega) rfl) mw_X9_126 (hRoom (by omega) (by decide)) rfl rfl rfl (Nat.le_of_ble_eq_true rfl) hl.1 dX9_unwinds_18 (fun H locs hW hS => ?_)
      refine lv_iload_n (pc := 21) hx hb dX9_unwinds_21 rfl (lv_at hl 1 rfl) ?_
      refine lv_icmp_lt (pc := 22) (tgt := 79) hx hb dX9_unwinds_22 (by decide) (fun hc2 => ?_) (fun hc2 => ?_)
      · replace h := o_pos hc2 h
        exact g_vret (pc := 79) C hW hS dX9_unwinds_79 rfl (Option.some.inj h).symm
      · replace h := o_neg hc2 h
        refine lv_aload_n (pc := 25) hx hb dX9_unwinds_25 rfl (lv_at hl 0 rfl) ?_
        refine lv_dup (pc := 26) hx hb dX9_unwinds_26 rfl ?_
        refine gf_X9_29 (pc := 27) C hW fl_X9_123 dX9_unwinds_27 ?_
        refine lv_iconst (pc := 30) (v := 1) hx hb dX9_unwinds_30 (by decide) ?_
        refine lv_isub (pc := 31) hx hb dX9_unwinds_31 ?_
        refine pf_X9_29 (pc := 32) C hW hS fl_X9_123 dX9_unwinds_32 (fun H locs hW hS => ?_)
        refine lv_aload_n (pc := 35) hx hb dX9_unwinds_35 rfl (lv_at hl 0 rfl) ?_
        refine gf_X9_28 (pc := 36) C hW fl_X9_49 dX9_unwinds_36 ?_
        refine lv_aload_n (pc := 39) hx hb dX9_unwinds_39 rfl (lv_at hl 0 rfl) ?_
        refine gf_X9_29 (pc := 40) C hW fl_X9_123 dX9_unwinds_40 ?_
        obtain ⟨hc3, h⟩ := o_chk h
        refine ir_ld (pc := 43) (k := 14) C hW (by decide) (by decide) rfl rfl (inb_in hc3) dX9_unwinds_43 ?_
        obtain ⟨x5, hxx5, h⟩ := o_d h
        refine g_top hxx5 ?_
        refine lv_istore_n (pc := 44) (lv' := [(2, .int x5), (0, .ref (z + 80 + 0)), (1, .int v1)]) hx hb dX9_unwinds_44 rfl hl (by decide) rfl (fun ls hl => ?_)
        refine lv_aload_n (pc := 45) hx hb dX9_unwinds_45 rfl (lv_at hl 1 rfl) ?_
        refine lv_dup (pc := 46) hx hb dX9_unwinds_46 rfl ?_
        refine gf_X9_30 (pc := 47) C hW fl_X9_130 dX9_unwinds_47 ?_
        refine lv_iload_n (pc := 50) hx hb dX9_unwinds_50 rfl (lv_at hl 0 rfl) ?_
        refine lv_bipush (pc := 51) (v := 13) hx hb dX9_unwinds_51 (by decide) ?_
        refine lv_icmp_eq (pc := 53) (tgt := 62) hx hb dX9_unwinds_53 (by decide) (fun hc5 => ?_) (fun hc5 => ?_)
        · replace h := o_pos hc5 h
          exact w_X9_unwinds_b62 C hK (ms σ 0 29 ((σ 0 29) - (1 : Int32))) v1 x5 ((ms σ 0 29 ((σ 0 29) - (1 : Int32))) 0 30) (f_X9_unwinds_b0 v1 n) (fun σ {H : Heap} {locs : List Loc} {ls : Array Slot}  hW hS hl h => ih σ hW hS hl h) hW hS (lv_sub hl [1, 2, 0] rfl) h
        · replace h := o_neg hc5 h
          refine lv_iload_n (pc := 56) hx hb dX9_unwinds_56 rfl (lv_at hl 0 rfl) ?_
          refine lv_bipush (pc := 57) (v := 19) hx hb dX9_unwinds_57 (by decide) ?_
          refine lv_icmp_ne (pc := 59) (tgt := 66) hx hb dX9_unwinds_59 (by decide) (fun hc6 => ?_) (fun hc6 => ?_)
          · replace h := o_neg hc6 h
            refine lv_iconst (pc := 66) (v := 0) hx hb dX9_unwinds_66 (by decide) ?_
            exact w_X9_unwinds_b67 C hK (ms σ 0 29 ((σ 0 29) - (1 : Int32))) v1 x5 ((ms σ 0 29 ((σ 0 29) - (1 : Int32))) 0 30) (0 : Int32) (f_X9_unwinds_b0 v1 n) (fun σ {H : Heap} {locs : List Loc} {ls : Array Slot}  hW hS hl h => ih σ hW hS hl h) hW hS (lv_sub hl [1, 2, 0] rfl) h
          · replace h := o_pos hc6 h
            exact w_X9_unwinds_b62 C hK (ms σ 0 29 ((σ 0 29) - (1 : Int32))) v1 x5 ((ms σ 0 29 ((σ 0 29) - (1 : Int32))) 0 30) (f_X9_unwinds_b0 v1 n) (fun σ {H : Heap} {locs : List Loc} {ls : Array Slot}  hW hS hl h => ih σ hW hS hl h) hW hS (lv_sub hl [1, 2, 0] rfl) h

theorem c_X9_unwinds {K : Nat}  (hK : 1 ≤ K) {σ : Mem} {σf : Mem} {v1 : Int32} (h : f_X9_unwinds σ v1 = some σf) : MC l D (Er ac (z + 80)) inR (z + 80) ac (z, aK, aV) (Ar (z + 80)) yX9_unwinds cX9_unwinds 3 none K [.ref (z + 80 + 0), .int v1] σ none σf := by
  refine MC.of (fun q hq => by have := hq.1; show z ≤ q; omega) (plainFor_of_name (by decide)) (Nat.le_of_ble_eq_true rfl) ?_
  intro p e s m below meth c args C hW ls hl
  replace hl : lv_has ls 3 [(0, .ref (z + 80 + 0)), (1, .int v1)] := hl
  have hS : va_S (Ar (z + 80)) s.heap s.heap [] := va_S.rf
  have hx := C.1.1
  have hb := C.1.2.1
  unfold f_X9_unwinds at h
  exact w_X9_unwinds_b0 C hK v1 FU σ hW hS (lv_sub hl [0, 1] rfl) h

theorem c_X9_holds {K : Nat}  (hK : 0 ≤ K) {σ : Mem} {σf : Mem} {v1 : Int32} (h : f_X9_holds σ v1 = some σf) : MC l D (Er ac (z + 80)) inR (z + 80) ac (z, aK, aV) (Ar (z + 80)) yX9_holds cX9_holds 2 none K [.ref (z + 80 + 0), .int v1] σ none σf := by
  refine MC.of (fun q hq => by have := hq.1; show z ≤ q; omega) (plainFor_of_name (by decide)) (Nat.le_of_ble_eq_true rfl) ?_
  intro p e s m below meth c args C hW ls hl
  replace hl : lv_has ls 2 [(0, .ref (z + 80 + 0)), (1, .int v1)] := hl
  have hS : va_S (Ar (z + 80)) s.heap s.heap [] := va_S.rf
  have hx := C.1.1
  have hb := C.1.2.1
  unfold f_X9_holds at h
  refine lv_aload_n (pc := 0) hx hb dX9_holds_0 rfl (lv_at hl 0 rfl) ?_
  refine gf_X9_28 (pc := 1) C hW fl_X9_49 dX9_holds_1 ?_
  refine lv_aload_n (pc := 4) hx hb dX9_holds_4 rfl (lv_at hl 0 rfl) ?_
  refine gf_X9_29 (pc := 5) C hW fl_X9_123 dX9_holds_5 ?_
  refine lv_iload_n (pc := 8) hx hb dX9_holds_8 rfl (lv_at hl 1 rfl) ?_
  obtain ⟨hc0, h⟩ := o_chk h
  refine ir_st (pc := 9) (k := 14) C hW hS (by decide) (by decide) rfl rfl (inb_in hc0) dX9_holds_9 (fun H locs hW hS => ?_)
  refine lv_aload_n (pc := 10) hx hb dX9_holds_10 rfl (lv_at hl 0 rfl) ?_
  refine lv_dup (pc := 11) hx hb dX9_holds_11 rfl ?_
  refine gf_X9_29 (pc := 12) C hW fl_X9_123 dX9_holds_12 ?_
  refine lv_iconst (pc := 15) (v := 1) hx hb dX9_holds_15 (by decide) ?_
  refine lv_iadd (pc := 16) hx hb dX9_holds_16 ?_
  refine pf_X9_29 (pc := 17) C hW hS fl_X9_123 dX9_holds_17 (fun H locs hW hS => ?_)
  obtain ⟨σ2, hσ2, h⟩ := o_d h
  replace hW : WR D ac (z + 80) σ2 H := by rw [← hσ2]; exact hW
  exact g_vret (pc := 20) C hW hS dX9_holds_20 rfl (Option.some.inj h).symm

theorem c_X9_opensOne {K : Nat}  (hK : 1 ≤ K) {σ : Mem} {σf : Mem} {v1 : Int32} {r : Int32} (h : f_X9_opensOne σ v1 = some (r, σf)) : MC l D (Er ac (z + 80)) inR (z + 80) ac (z, aK, aV) (Ar (z + 80)) yX9_opensOne cX9_opensOne 2 (some .boolean) K [.ref (z + 80 + 0), .int v1] σ (some (.int r)) σf := by
  refine MC.of (fun q hq => by have := hq.1; show z ≤ q; omega) (plainFor_of_name (by decide)) (Nat.le_of_ble_eq_true rfl) ?_
  intro p e s m below meth c args C hW ls hl
  replace hl : lv_has ls 2 [(0, .ref (z + 80 + 0)), (1, .int v1)] := hl
  have hS : va_S (Ar (z + 80)) s.heap s.heap [] := va_S.rf
  have hx := C.1.1
  have hb := C.1.2.1
  unfold f_X9_opensOne at h
  refine lv_aload_n (pc := 0) hx hb dX9_opensOne_0 rfl (lv_at hl 0 rfl) ?_
  refine gf_X9_30 (pc := 1) C hW fl_X9_130 dX9_opensOne_1 ?_
  refine lv_iconst (pc := 4) (v := 5) hx hb dX9_opensOne_4 (by decide) ?_
  refine lv_icmp_ne (pc := 5) (tgt := 10) hx hb dX9_opensOne_5 (by decide) (fun hc0 => ?_) (fun hc0 => ?_)
  · replace h := o_neg hc0 h
    refine lv_aload_n (pc := 10) hx hb dX9_opensOne_10 rfl (lv_at hl 0 rfl) ?_
    refine lv_dup (pc := 11) hx hb dX9_opensOne_11 rfl ?_
    refine gf_X9_30 (pc := 12) C hW fl_X9_130 dX9_opensOne_12 ?_
    refine lv_iconst (pc := 15) (v := 1) hx hb dX9_opensOne_15 (by decide) ?_
    refine lv_iadd (pc := 16) hx hb dX9_opensOne_16 ?_
    refine pf_X9_30 (pc := 17) C hW hS fl_X9_130 dX9_opensOne_17 (fun H locs hW hS => ?_)
    refine lv_aload_n (pc := 20) hx hb dX9_opensOne_20 rfl (lv_at hl 0 rfl) ?_
    refine lv_iload_n (pc := 21) hx hb dX9_opensOne_21 rfl (lv_at hl 1 rfl) ?_
    obtain ⟨σ3, hc1, h⟩ := o_b h
    refine g_virt (pc := 22) (st2 := []) (rest := []) C hW hS (c_X9_holds (K := K - 1) (by omega) hc1) mw_X9_137 inR0 Er_0 rfl (hRoom (by omega) (by decide)) rfl rfl rfl (Nat.le_of_ble_eq_true rfl) hl.1 dX9_opensOne_22 (fun H locs hW hS => ?_)
    refine lv_iconst (pc := 25) (v := 1) hx hb dX9_opensOne_25 (by decide) ?_
    exact g_ret (pc := 26) C hW hS rfl dX9_opensOne_26 (congrArg (fun q => some (Value.int q)) (o_r h).1) (o_r h).2
  · replace h := o_pos hc0 h
    refine lv_iconst (pc := 8) (v := 0) hx hb dX9_opensOne_8 (by decide) ?_
    exact g_ret (pc := 9) C hW hS rfl dX9_opensOne_9 (congrArg (fun q => some (Value.int q)) (o_r h).1) (o_r h).2

theorem w_X9_between_b17 (C : CX cX9_between 2 RX9 (some .boolean) D ac p m c s args meth (z, aK, aV) (Ar (z + 80))) (hK : 2 ≤ K) {r : Int32} {σf : Mem}   (σ : Mem) (v1 : Int32) (k1 : Int32)  {H : Heap} {locs : List Loc} {ls : Array Slot} (hW : WR D ac (z + 80) σ H) (hS : va_S (Ar (z + 80)) s.heap H locs) (hl : lv_has ls 2 [(0, .ref (z + 80 + 0)), (1, .int v1)]) (h : f_X9_between_b17 σ v1 k1 = some (r, σf)) : W p l e (rma K 0 0) s m args below meth c H locs 0 0 (MQ below (QV D (Er ac (z + 80)) inR (z + 80) (some (.int r)) σf (Ar (z + 80))) args s 0 0 (Ar (z + 80))) (F0 m 17 ls [.int k1, .ref (z + 80 + 0)]) := by
  have hx := C.1.1
  have hb := C.1.2.1
  unfold f_X9_between_b17 at h
  obtain ⟨σ3, hc1, h⟩ := o_b h
  refine g_virt (pc := 17) (st2 := []) (rest := []) C hW hS (c_X9_unwinds (K := K - 1) (by omega) hc1) mw_X9_140 inR0 Er_0 rfl (hRoom (by omega) (by decide)) rfl rfl rfl (Nat.le_of_ble_eq_true rfl) hl.1 dX9_between_17 (fun H locs hW hS => ?_)
  refine lv_iload_n (pc := 20) hx hb dX9_between_20 rfl (lv_at hl 1 rfl) ?_
  refine g_stat (pc := 21) (st2 := [.int (f_X9_rank v1)]) (rest := []) C hW hS (c_X9_rank (K := K - 1) (by omega) rfl) mw_X9_126 (hRoom (by omega) (by decide)) rfl rfl rfl (Nat.le_of_ble_eq_true rfl) hl.1 dX9_between_21 (fun H locs hW hS => ?_)
  refine lv_iconst (pc := 24) (v := 4) hx hb dX9_between_24 (by decide) ?_
  refine lv_icmp_ne (pc := 25) (tgt := 55) hx hb dX9_between_25 (by decide) (fun hc3 => ?_) (fun hc3 => ?_)
  · replace h := o_neg hc3 h
    refine lv_aload_n (pc := 55) hx hb dX9_between_55 rfl (lv_at hl 0 rfl) ?_
    refine lv_iload_n (pc := 56) hx hb dX9_between_56 rfl (lv_at hl 1 rfl) ?_
    obtain ⟨σ6, hc4, h⟩ := o_b h
    refine g_virt (pc := 57) (st2 := []) (rest := []) C hW hS (c_X9_holds (K := K - 1) (by omega) hc4) mw_X9_137 inR0 Er_0 rfl (hRoom (by omega) (by decide)) rfl rfl rfl (Nat.le_of_ble_eq_true rfl) hl.1 dX9_between_57 (fun H locs hW hS => ?_)
    refine lv_iconst (pc := 60) (v := 1) hx hb dX9_between_60 (by decide) ?_
    exact g_ret (pc := 61) C hW hS rfl dX9_between_61 (congrArg (fun q => some (Value.int q)) (o_r h).1) (o_r h).2
  · replace h := o_pos hc3 h
    refine lv_aload_n (pc := 28) hx hb dX9_between_28 rfl (lv_at hl 0 rfl) ?_
    refine gf_X9_29 (pc := 29) C hW fl_X9_123 dX9_between_29 ?_
    refine lv_if_le (pc := 32) (tgt := 55) hx hb dX9_between_32 (by decide) (fun hc6 => ?_) (fun hc6 => ?_)
    · replace h := o_pos hc6 h
      refine lv_aload_n (pc := 55) hx hb dX9_between_55 rfl (lv_at hl 0 rfl) ?_
      refine lv_iload_n (pc := 56) hx hb dX9_between_56 rfl (lv_at hl 1 rfl) ?_
      obtain ⟨σ9, hc7, h⟩ := o_b h
      refine g_virt (pc := 57) (st2 := []) (rest := []) C hW hS (c_X9_holds (K := K - 1) (by omega) hc7) mw_X9_137 inR0 Er_0 rfl (hRoom (by omega) (by decide)) rfl rfl rfl (Nat.le_of_ble_eq_true rfl) hl.1 dX9_between_57 (fun H locs hW hS => ?_)
      refine lv_iconst (pc := 60) (v := 1) hx hb dX9_between_60 (by decide) ?_
      exact g_ret (pc := 61) C hW hS rfl dX9_between_61 (congrArg (fun q => some (Value.int q)) (o_r h).1) (o_r h).2
    · replace h := o_neg hc6 h
      refine lv_aload_n (pc := 35) hx hb dX9_between_35 rfl (lv_at hl 0 rfl) ?_
      refine gf_X9_28 (pc := 36) C hW fl_X9_49 dX9_between_36 ?_
      refine lv_aload_n (pc := 39) hx hb dX9_between_39 rfl (lv_at hl 0 rfl) ?_
      refine gf_X9_29 (pc := 40) C hW fl_X9_123 dX9_between_40 ?_
      refine lv_iconst (pc := 43) (v := 1) hx hb dX9_between_43 (by decide) ?_
      refine lv_isub (pc := 44) hx hb dX9_between_44 ?_
      obtain ⟨hc9, h⟩ := o_chk h
      refine ir_ld (pc := 45) (k := 14) C hW (by decide) (by decide) rfl rfl (inb_in hc9) dX9_between_45 ?_
      refine g_stat (pc := 46) (st2 := [.int (f_X9_rank (σ3 14 (((σ3 0 29) - (1 : Int32)).toNatClampNeg)))]) (rest := []) C hW hS (c_X9_rank (K := K - 1) (by omega) rfl) mw_X9_126 (hRoom (by omega) (by decide)) rfl rfl rfl (Nat.le_of_ble_eq_true rfl) hl.1 dX9_between_46 (fun H locs hW hS => ?_)
      refine lv_iconst (pc := 49) (v := 4) hx hb dX9_between_49 (by decide) ?_
      refine lv_icmp_ne (pc := 50) (tgt := 55) hx hb dX9_between_50 (by decide) (fun hc10 => ?_) (fun hc10 => ?_)
      · replace h := o_neg hc10 h
        refine lv_aload_n (pc := 55) hx hb dX9_between_55 rfl (lv_at hl 0 rfl) ?_
        refine lv_iload_n (pc := 56) hx hb dX9_between_56 rfl (lv_at hl 1 rfl) ?_
        obtain ⟨σ13, hc11, h⟩ := o_b h
        refine g_virt (pc := 57) (st2 := []) (rest := []) C hW hS (c_X9_holds (K := K - 1) (by omega) hc11) mw_X9_137 inR0 Er_0 rfl (hRoom (by omega) (by decide)) rfl rfl rfl (Nat.le_of_ble_eq_true rfl) hl.1 dX9_between_57 (fun H locs hW hS => ?_)
        refine lv_iconst (pc := 60) (v := 1) hx hb dX9_between_60 (by decide) ?_
        exact g_ret (pc := 61) C hW hS rfl dX9_between_61 (congrArg (fun q => some (Value.int q)) (o_r h).1) (o_r h).2
      · replace h := o_pos hc10 h
        refine lv_iconst (pc := 53) (v := 0) hx hb dX9_between_53 (by decide) ?_
        exact g_ret (pc := 54) C hW hS rfl dX9_between_54 (congrArg (fun q => some (Value.int q)) (o_r h).1) (o_r h).2

theorem c_X9_between {K : Nat}  (hK : 2 ≤ K) {σ : Mem} {σf : Mem} {v1 : Int32} {r : Int32} (h : f_X9_between σ v1 = some (r, σf)) : MC l D (Er ac (z + 80)) inR (z + 80) ac (z, aK, aV) (Ar (z + 80)) yX9_between cX9_between 2 (some .boolean) K [.ref (z + 80 + 0), .int v1] σ (some (.int r)) σf := by
  refine MC.of (fun q hq => by have := hq.1; show z ≤ q; omega) (plainFor_of_name (by decide)) (Nat.le_of_ble_eq_true rfl) ?_
  intro p e s m below meth c args C hW ls hl
  replace hl : lv_has ls 2 [(0, .ref (z + 80 + 0)), (1, .int v1)] := hl
  have hS : va_S (Ar (z + 80)) s.heap s.heap [] := va_S.rf
  have hx := C.1.1
  have hb := C.1.2.1
  unfold f_X9_between at h
  refine lv_aload_n (pc := 0) hx hb dX9_between_0 rfl (lv_at hl 0 rfl) ?_
  refine lv_iload_n (pc := 1) hx hb dX9_between_1 rfl (lv_at hl 1 rfl) ?_
  refine g_stat (pc := 2) (st2 := [.int (f_X9_rank v1), .ref (z + 80 + 0)]) (rest := [.ref (z + 80 + 0)]) C hW hS (c_X9_rank (K := K - 1) (by omega) rfl) mw_X9_126 (hRoom (by omega) (by decide)) rfl rfl rfl (Nat.le_of_ble_eq_true rfl) hl.1 dX9_between_2 (fun H locs hW hS => ?_)
  refine lv_iconst (pc := 5) (v := 4) hx hb dX9_between_5 (by decide) ?_
  refine lv_icmp_ne (pc := 6) (tgt := 13) hx hb dX9_between_6 (by decide) (fun hc0 => ?_) (fun hc0 => ?_)
  · replace h := o_neg hc0 h
    refine lv_iload_n (pc := 13) hx hb dX9_between_13 rfl (lv_at hl 1 rfl) ?_
    refine g_stat (pc := 14) (st2 := [.int (f_X9_rank v1), .ref (z + 80 + 0)]) (rest := [.ref (z + 80 + 0)]) C hW hS (c_X9_rank (K := K - 1) (by omega) rfl) mw_X9_126 (hRoom (by omega) (by decide)) rfl rfl rfl (Nat.le_of_ble_eq_true rfl) hl.1 dX9_between_14 (fun H locs hW hS => ?_)
    exact w_X9_between_b17 C hK σ v1 (f_X9_rank v1) hW hS (lv_sub hl [0, 1] rfl) h
  · replace h := o_pos hc0 h
    refine lv_iconst (pc := 9) (v := 5) hx hb dX9_between_9 (by decide) ?_
    refine lv_goto (pc := 10) (tgt := 17) hx hb dX9_between_10 (by decide) ?_
    exact w_X9_between_b17 C hK σ v1 (5 : Int32) hW hS (lv_sub hl [0, 1] rfl) h

theorem c_X9_signOf {K : Nat}  (hK : 0 ≤ K) {σ : Mem} {r : Int32} (h : f_X9_signOf σ = r) : MC l D (Er ac (z + 80)) inR (z + 80) ac (z, aK, aV) (Ar (z + 80)) yX9_signOf cX9_signOf 1 (some .int) K [.ref (z + 80 + 0)] σ (some (.int r)) σ := by
  refine MC.of (fun q hq => by have := hq.1; show z ≤ q; omega) (plainFor_of_name (by decide)) (Nat.le_of_ble_eq_true rfl) ?_
  intro p e s m below meth c args C hW ls hl
  replace hl : lv_has ls 1 [(0, .ref (z + 80 + 0))] := hl
  have hS : va_S (Ar (z + 80)) s.heap s.heap [] := va_S.rf
  have hx := C.1.1
  have hb := C.1.2.1
  unfold f_X9_signOf at h
  refine lv_aload_n (pc := 0) hx hb dX9_signOf_0 rfl (lv_at hl 0 rfl) ?_
  refine gf_X9_25 (pc := 1) C hW fl_X9_110 dX9_signOf_1 ?_
  refine lv_iconst (pc := 4) (v := 4) hx hb dX9_signOf_4 (by decide) ?_
  refine lv_icmp_ne (pc := 5) (tgt := 13) hx hb dX9_signOf_5 (by decide) (fun hc0 => ?_) (fun hc0 => ?_)
  · replace h := o_neg hc0 h
    refine lv_aload_n (pc := 13) hx hb dX9_signOf_13 rfl (lv_at hl 0 rfl) ?_
    refine gf_X9_25 (pc := 14) C hW fl_X9_110 dX9_signOf_14 ?_
    refine lv_iconst (pc := 17) (v := 5) hx hb dX9_signOf_17 (by decide) ?_
    refine lv_icmp_ne (pc := 18) (tgt := 26) hx hb dX9_signOf_18 (by decide) (fun hc1 => ?_) (fun hc1 => ?_)
    · replace h := o_neg hc1 h
      refine lv_aload_n (pc := 26) hx hb dX9_signOf_26 rfl (lv_at hl 0 rfl) ?_
      refine gf_X9_25 (pc := 27) C hW fl_X9_110 dX9_signOf_27 ?_
      refine lv_bipush (pc := 30) (v := 60) hx hb dX9_signOf_30 (by decide) ?_
      refine lv_icmp_ne (pc := 32) (tgt := 40) hx hb dX9_signOf_32 (by decide) (fun hc2 => ?_) (fun hc2 => ?_)
      · replace h := o_neg hc2 h
        refine lv_aload_n (pc := 40) hx hb dX9_signOf_40 rfl (lv_at hl 0 rfl) ?_
        refine gf_X9_25 (pc := 41) C hW fl_X9_110 dX9_signOf_41 ?_
        refine lv_bipush (pc := 44) (v := 61) hx hb dX9_signOf_44 (by decide) ?_
        refine lv_icmp_ne (pc := 46) (tgt := 54) hx hb dX9_signOf_46 (by decide) (fun hc3 => ?_) (fun hc3 => ?_)
        · replace h := o_neg hc3 h
          refine lv_aload_n (pc := 54) hx hb dX9_signOf_54 rfl (lv_at hl 0 rfl) ?_
          refine gf_X9_25 (pc := 55) C hW fl_X9_110 dX9_signOf_55 ?_
          refine lv_bipush (pc := 58) (v := 43) hx hb dX9_signOf_58 (by decide) ?_
          refine lv_icmp_ne (pc := 60) (tgt := 68) hx hb dX9_signOf_60 (by decide) (fun hc4 => ?_) (fun hc4 => ?_)
          · replace h := o_neg hc4 h
            refine lv_aload_n (pc := 68) hx hb dX9_signOf_68 rfl (lv_at hl 0 rfl) ?_
            refine gf_X9_25 (pc := 69) C hW fl_X9_110 dX9_signOf_69 ?_
            refine lv_bipush (pc := 72) (v := 45) hx hb dX9_signOf_72 (by decide) ?_
            refine lv_icmp_ne (pc := 74) (tgt := 82) hx hb dX9_signOf_74 (by decide) (fun hc5 => ?_) (fun hc5 => ?_)
            · replace h := o_neg hc5 h
              refine lv_aload_n (pc := 82) hx hb dX9_signOf_82 rfl (lv_at hl 0 rfl) ?_
              refine gf_X9_25 (pc := 83) C hW fl_X9_110 dX9_signOf_83 ?_
              refine lv_bipush (pc := 86) (v := 42) hx hb dX9_signOf_86 (by decide) ?_
              refine lv_icmp_ne (pc := 88) (tgt := 96) hx hb dX9_signOf_88 (by decide) (fun hc6 => ?_) (fun hc6 => ?_)
              · replace h := o_neg hc6 h
                refine lv_iconst (pc := 96) (v := -1) hx hb dX9_signOf_96 (by decide) ?_
                exact g_ret (pc := 97) C hW hS rfl dX9_signOf_97 (congrArg (fun q => some (Value.int q)) h.symm) rfl
              · replace h := o_pos hc6 h
                refine lv_bipush (pc := 91) (v := 18) hx hb dX9_signOf_91 (by decide) ?_
                refine lv_goto (pc := 93) (tgt := 97) hx hb dX9_signOf_93 (by decide) ?_
                exact g_ret (pc := 97) C hW hS rfl dX9_signOf_97 (congrArg (fun q => some (Value.int q)) h.symm) rfl
            · replace h := o_pos hc5 h
              refine lv_bipush (pc := 77) (v := 17) hx hb dX9_signOf_77 (by decide) ?_
              refine lv_goto (pc := 79) (tgt := 97) hx hb dX9_signOf_79 (by decide) ?_
              exact g_ret (pc := 97) C hW hS rfl dX9_signOf_97 (congrArg (fun q => some (Value.int q)) h.symm) rfl
          · replace h := o_pos hc4 h
            refine lv_bipush (pc := 63) (v := 16) hx hb dX9_signOf_63 (by decide) ?_
            refine lv_goto (pc := 65) (tgt := 97) hx hb dX9_signOf_65 (by decide) ?_
            exact g_ret (pc := 97) C hW hS rfl dX9_signOf_97 (congrArg (fun q => some (Value.int q)) h.symm) rfl
        · replace h := o_pos hc3 h
          refine lv_bipush (pc := 49) (v := 15) hx hb dX9_signOf_49 (by decide) ?_
          refine lv_goto (pc := 51) (tgt := 97) hx hb dX9_signOf_51 (by decide) ?_
          exact g_ret (pc := 97) C hW hS rfl dX9_signOf_97 (congrArg (fun q => some (Value.int q)) h.symm) rfl
      · replace h := o_pos hc2 h
        refine lv_bipush (pc := 35) (v := 14) hx hb dX9_signOf_35 (by decide) ?_
        refine lv_goto (pc := 37) (tgt := 97) hx hb dX9_signOf_37 (by decide) ?_
        exact g_ret (pc := 97) C hW hS rfl dX9_signOf_97 (congrArg (fun q => some (Value.int q)) h.symm) rfl
    · replace h := o_pos hc1 h
      refine lv_bipush (pc := 21) (v := 12) hx hb dX9_signOf_21 (by decide) ?_
      refine lv_goto (pc := 23) (tgt := 97) hx hb dX9_signOf_23 (by decide) ?_
      exact g_ret (pc := 97) C hW hS rfl dX9_signOf_97 (congrArg (fun q => some (Value.int q)) h.symm) rfl
  · replace h := o_pos hc0 h
    refine lv_bipush (pc := 8) (v := 11) hx hb dX9_signOf_8 (by decide) ?_
    refine lv_goto (pc := 10) (tgt := 97) hx hb dX9_signOf_10 (by decide) ?_
    exact g_ret (pc := 97) C hW hS rfl dX9_signOf_97 (congrArg (fun q => some (Value.int q)) h.symm) rfl

theorem w_X9_eRead_b262 (C : CX cX9_eRead 4 RX9 (some .boolean) D ac p m c s args meth (z, aK, aV) (Ar (z + 80))) (hK : 3 ≤ K) {r : Int32} {σf : Mem}   (σ : Mem) (v1 : Int32) (k0 : Int32) (s14 : Mem → Int32 → Int32 → Option (Int32 × Mem)) (hs14 : ∀ (σ : Mem) (v1 : Int32) (v2 : Int32) {H : Heap} {locs : List Loc} {ls : Array Slot} (_ : WR D ac (z + 80) σ H) (_ : va_S (Ar (z + 80)) s.heap H locs) (_ : lv_has ls 4 [(0, .ref (z + 80 + 0)), (1, .int v1), (2, .int v2)]) (_ : s14 σ v1 v2 = some (r, σf)), W p l e (rma K 0 0) s m args below meth c H locs 0 0 (MQ below (QV D (Er ac (z + 80)) inR (z + 80) (some (.int r)) σf (Ar (z + 80))) args s 0 0 (Ar (z + 80))) (F0 m 14 ls [])) {H : Heap} {locs : List Loc} {ls : Array Slot} (hW : WR D ac (z + 80) σ H) (hS : va_S (Ar (z + 80)) s.heap H locs) (hl : lv_has ls 4 [(0, .ref (z + 80 + 0)), (1, .int v1)]) (h : f_X9_eRead_b262 s14 σ v1 k0 = some (r, σf)) : W p l e (rma K 0 0) s m args below meth c H locs 0 0 (MQ below (QV D (Er ac (z + 80)) inR (z + 80) (some (.int r)) σf (Ar (z + 80))) args s 0 0 (Ar (z + 80))) (F0 m 262 ls [.int k0]) := by
  have hx := C.1.1
  have hb := C.1.2.1
  unfold f_X9_eRead_b262 at h
  refine lv_istore_n (pc := 262) (lv' := [(2, .int k0), (0, .ref (z + 80 + 0)), (1, .int v1)]) hx hb dX9_eRead_262 rfl hl (by decide) rfl (fun ls hl => ?_)
  refine lv_goto (pc := 263) (tgt := 14) hx hb dX9_eRead_263 (by decide) ?_
  exact hs14 σ v1 k0 hW hS (lv_sub hl [1, 2, 0] rfl) h

theorem w_X9_eRead_b61 (C : CX cX9_eRead 4 RX9 (some .boolean) D ac p m c s args meth (z, aK, aV) (Ar (z + 80))) (hK : 3 ≤ K) {r : Int32} {σf : Mem}   (σ : Mem) (v2 : Int32) (k1 : Int32) (s14 : Mem → Int32 → Int32 → Option (Int32 × Mem)) (hs14 : ∀ (σ : Mem) (v1 : Int32) (v2 : Int32) {H : Heap} {locs : List Loc} {ls : Array Slot} (_ : WR D ac (z + 80) σ H) (_ : va_S (Ar (z + 80)) s.heap H locs) (_ : lv_has ls 4 [(0, .ref (z + 80 + 0)), (1, .int v1), (2, .int v2)]) (_ : s14 σ v1 v2 = some (r, σf)), W p l e (rma K 0 0) s m args below meth c H locs 0 0 (MQ below (QV D (Er ac (z + 80)) inR (z + 80) (some (.int r)) σf (Ar (z + 80))) args s 0 0 (Ar (z + 80))) (F0 m 14 ls [])) {H : Heap} {locs : List Loc} {ls : Array Slot} (hW : WR D ac (z + 80) σ H) (hS : va_S (Ar (z + 80)) s.heap H locs) (hl : lv_has ls 4 [(0, .ref (z + 80 + 0)), (2, .int v2)]) (h : f_X9_eRead_b61 s14 σ v2 k1 = some (r, σf)) : W p l e (rma K 0 0) s m args below meth c H locs 0 0 (MQ below (QV D (Er ac (z + 80)) inR (z + 80) (some (.int r)) σf (Ar (z + 80))) args s 0 0 (Ar (z + 80))) (F0 m 61 ls [.int k1, .ref (z + 80 + 0)]) := by
  have hx := C.1.1
  have hb := C.1.2.1
  unfold f_X9_eRead_b61 at h
  obtain ⟨σ31, hc29, h⟩ := o_b h
  refine g_virt (pc := 61) (st2 := []) (rest := []) C hW hS (c_X9_puts (K := K - 1) (by omega) hc29) mw_X9_133 inR0 Er_0 rfl (hRoom (by omega) (by decide)) rfl rfl rfl (Nat.le_of_ble_eq_true rfl) hl.1 dX9_eRead_61 (fun H locs hW hS => ?_)
  refine lv_aload_n (pc := 64) hx hb dX9_eRead_64 rfl (lv_at hl 0 rfl) ?_
  refine lv_bipush (pc := 65) (v := 7) hx hb dX9_eRead_65 (by decide) ?_
  obtain ⟨σ33, hc31, h⟩ := o_b h
  refine g_virt (pc := 67) (st2 := []) (rest := []) C hW hS (c_X9_unwinds (K := K - 1) (by omega) hc31) mw_X9_140 inR0 Er_0 rfl (hRoom (by omega) (by decide)) rfl rfl rfl (Nat.le_of_ble_eq_true rfl) hl.1 dX9_eRead_67 (fun H locs hW hS => ?_)
  refine lv_iconst (pc := 70) (v := 0) hx hb dX9_eRead_70 (by decide) ?_
  refine lv_istore_n (pc := 71) (lv' := [(1, .int (0 : Int32)), (0, .ref (z + 80 + 0)), (2, .int v2)]) hx hb dX9_eRead_71 rfl hl (by decide) rfl (fun ls hl => ?_)
  refine lv_goto (pc := 72) (tgt := 14) hx hb dX9_eRead_72 (by decide) ?_
  exact hs14 σ33 (0 : Int32) v2 hW hS (lv_sub hl [1, 0, 2] rfl) h

theorem w_X9_eRead_b38 (C : CX cX9_eRead 4 RX9 (some .boolean) D ac p m c s args meth (z, aK, aV) (Ar (z + 80))) (hK : 3 ≤ K) {r : Int32} {σf : Mem}   (σ : Mem) (v2 : Int32) (s14 : Mem → Int32 → Int32 → Option (Int32 × Mem)) (hs14 : ∀ (σ : Mem) (v1 : Int32) (v2 : Int32) {H : Heap} {locs : List Loc} {ls : Array Slot} (_ : WR D ac (z + 80) σ H) (_ : va_S (Ar (z + 80)) s.heap H locs) (_ : lv_has ls 4 [(0, .ref (z + 80 + 0)), (1, .int v1), (2, .int v2)]) (_ : s14 σ v1 v2 = some (r, σf)), W p l e (rma K 0 0) s m args below meth c H locs 0 0 (MQ below (QV D (Er ac (z + 80)) inR (z + 80) (some (.int r)) σf (Ar (z + 80))) args s 0 0 (Ar (z + 80))) (F0 m 14 ls [])) {H : Heap} {locs : List Loc} {ls : Array Slot} (hW : WR D ac (z + 80) σ H) (hS : va_S (Ar (z + 80)) s.heap H locs) (hl : lv_has ls 4 [(0, .ref (z + 80 + 0)), (2, .int v2)]) (h : f_X9_eRead_b38 s14 σ v2 = some (r, σf)) : W p l e (rma K 0 0) s m args below meth c H locs 0 0 (MQ below (QV D (Er ac (z + 80)) inR (z + 80) (some (.int r)) σf (Ar (z + 80))) args s 0 0 (Ar (z + 80))) (F0 m 38 ls []) := by
  have hx := C.1.1
  have hb := C.1.2.1
  unfold f_X9_eRead_b38 at h
  refine lv_aload_n (pc := 38) hx hb dX9_eRead_38 rfl (lv_at hl 0 rfl) ?_
  refine lv_aload_n (pc := 39) hx hb dX9_eRead_39 rfl (lv_at hl 0 rfl) ?_
  refine gf_X9_25 (pc := 40) C hW fl_X9_110 dX9_eRead_40 ?_
  refine lv_iconst (pc := 43) (v := 1) hx hb dX9_eRead_43 (by decide) ?_
  refine lv_icmp_ne (pc := 44) (tgt := 57) hx hb dX9_eRead_44 (by decide) (fun hc28 => ?_) (fun hc28 => ?_)
  · replace h := o_neg hc28 h
    refine lv_aload_n (pc := 57) hx hb dX9_eRead_57 rfl (lv_at hl 0 rfl) ?_
    refine gf_X9_26 (pc := 58) C hW fl_X9_113 dX9_eRead_58 ?_
    exact w_X9_eRead_b61 C hK σ v2 (σ 0 26) s14 hs14 hW hS (lv_sub hl [0, 1] rfl) h
  · replace h := o_pos hc28 h
    refine lv_ldc (pc := 47) hx hb C.1.2.2.2.1 (C.1.2.2.2.2 _ cn_X9_146) dX9_eRead_47 ?_
    refine lv_aload_n (pc := 49) hx hb dX9_eRead_49 rfl (lv_at hl 0 rfl) ?_
    refine gf_X9_26 (pc := 50) C hW fl_X9_113 dX9_eRead_50 ?_
    refine lv_iadd (pc := 53) hx hb dX9_eRead_53 ?_
    refine lv_goto (pc := 54) (tgt := 61) hx hb dX9_eRead_54 (by decide) ?_
    exact w_X9_eRead_b61 C hK σ v2 ((100000 : Int32) + (σ 0 26)) s14 hs14 hW hS (lv_sub hl [0, 1] rfl) h

theorem w_X9_eRead_b99 (C : CX cX9_eRead 4 RX9 (some .boolean) D ac p m c s args meth (z, aK, aV) (Ar (z + 80))) (hK : 3 ≤ K) {r : Int32} {σf : Mem}   (σ : Mem) (v1 : Int32) (s14 : Mem → Int32 → Int32 → Option (Int32 × Mem)) (hs14 : ∀ (σ : Mem) (v1 : Int32) (v2 : Int32) {H : Heap} {locs : List Loc} {ls : Array Slot} (_ : WR D ac (z + 80) σ H) (_ : va_S (Ar (z + 80)) s.heap H locs) (_ : lv_has ls 4 [(0, .ref (z + 80 + 0)), (1, .int v1), (2, .int v2)]) (_ : s14 σ v1 v2 = some (r, σf)), W p l e (rma K 0 0) s m args below meth c H locs 0 0 (MQ below (QV D (Er ac (z + 80)) inR (z + 80) (some (.int r)) σf (Ar (z + 80))) args s 0 0 (Ar (z + 80))) (F0 m 14 ls [])) {H : Heap} {locs : List Loc} {ls : Array Slot} (hW : WR D ac (z + 80) σ H) (hS : va_S (Ar (z + 80)) s.heap H locs) (hl : lv_has ls 4 [(0, .ref (z + 80 + 0)), (1, .int v1)]) (h : f_X9_eRead_b99 s14 σ v1 = some (r, σf)) : W p l e (rma K 0 0) s m args below meth c H locs 0 0 (MQ below (QV D (Er ac (z + 80)) inR (z + 80) (some (.int r)) σf (Ar (z + 80))) args s 0 0 (Ar (z + 80))) (F0 m 99 ls []) := by
  have hx := C.1.1
  have hb := C.1.2.1
  unfold f_X9_eRead_b99 at h
  refine lv_aload_n (pc := 99) hx hb dX9_eRead_99 rfl (lv_at hl 0 rfl) ?_
  refine gf_X9_25 (pc := 100) C hW fl_X9_110 dX9_eRead_100 ?_
  refine lv_bipush (pc := 103) (v := 45) hx hb dX9_eRead_103 (by decide) ?_
  refine lv_icmp_ne (pc := 105) (tgt := 124) hx hb dX9_eRead_105 (by decide) (fun hc33 => ?_) (fun hc33 => ?_)
  · replace h := o_neg hc33 h
    refine lv_aload_n (pc := 124) hx hb dX9_eRead_124 rfl (lv_at hl 0 rfl) ?_
    refine gf_X9_25 (pc := 125) C hW fl_X9_110 dX9_eRead_125 ?_
    refine lv_bipush (pc := 128) (v := 40) hx hb dX9_eRead_128 (by decide) ?_
    refine lv_icmp_ne (pc := 130) (tgt := 148) hx hb dX9_eRead_130 (by decide) (fun hc34 => ?_) (fun hc34 => ?_)
    · replace h := o_neg hc34 h
      refine lv_iconst (pc := 148) (v := 0) hx hb dX9_eRead_148 (by decide) ?_
      exact g_ret (pc := 149) C hW hS rfl dX9_eRead_149 (congrArg (fun q => some (Value.int q)) (o_r h).1) (o_r h).2
    · replace h := o_pos hc34 h
      refine lv_aload_n (pc := 133) hx hb dX9_eRead_133 rfl (lv_at hl 0 rfl) ?_
      refine lv_iconst (pc := 134) (v := 0) hx hb dX9_eRead_134 (by decide) ?_
      obtain ⟨r37, σ38, hc35, h⟩ := o_b2 h
      refine g_virt (pc := 135) (st2 := [.int r37]) (rest := []) C hW hS (c_X9_opensOne (K := K - 1) (by omega) hc35) mw_X9_147 inR0 Er_0 rfl (hRoom (by omega) (by decide)) rfl rfl rfl (Nat.le_of_ble_eq_true rfl) hl.1 dX9_eRead_135 (fun H locs hW hS => ?_)
      refine lv_if_ne (pc := 138) (tgt := 143) hx hb dX9_eRead_138 (by decide) (fun hc38 => ?_) (fun hc38 => ?_)
      · replace h := o_neg hc38 h
        refine lv_iconst (pc := 143) (v := 1) hx hb dX9_eRead_143 (by decide) ?_
        refine lv_istore_n (pc := 144) (lv' := [(2, .int (1 : Int32)), (0, .ref (z + 80 + 0)), (1, .int v1)]) hx hb dX9_eRead_144 rfl hl (by decide) rfl (fun ls hl => ?_)
        refine lv_goto (pc := 145) (tgt := 14) hx hb dX9_eRead_145 (by decide) ?_
        exact hs14 σ38 v1 (1 : Int32) hW hS (lv_sub hl [1, 2, 0] rfl) h
      · replace h := o_pos hc38 h
        refine lv_iconst (pc := 141) (v := 0) hx hb dX9_eRead_141 (by decide) ?_
        exact g_ret (pc := 142) C hW hS rfl dX9_eRead_142 (congrArg (fun q => some (Value.int q)) (o_r h).1) (o_r h).2
  · replace h := o_pos hc33 h
    refine lv_aload_n (pc := 108) hx hb dX9_eRead_108 rfl (lv_at hl 0 rfl) ?_
    refine lv_bipush (pc := 109) (v := 19) hx hb dX9_eRead_109 (by decide) ?_
    obtain ⟨r41, σ42, hc39, h⟩ := o_b2 h
    refine g_virt (pc := 111) (st2 := [.int r41]) (rest := []) C hW hS (c_X9_opensOne (K := K - 1) (by omega) hc39) mw_X9_147 inR0 Er_0 rfl (hRoom (by omega) (by decide)) rfl rfl rfl (Nat.le_of_ble_eq_true rfl) hl.1 dX9_eRead_111 (fun H locs hW hS => ?_)
    refine lv_if_ne (pc := 114) (tgt := 119) hx hb dX9_eRead_114 (by decide) (fun hc42 => ?_) (fun hc42 => ?_)
    · replace h := o_neg hc42 h
      refine lv_iconst (pc := 119) (v := 0) hx hb dX9_eRead_119 (by decide) ?_
      refine lv_istore_n (pc := 120) (lv' := [(2, .int (0 : Int32)), (0, .ref (z + 80 + 0)), (1, .int v1)]) hx hb dX9_eRead_120 rfl hl (by decide) rfl (fun ls hl => ?_)
      refine lv_goto (pc := 121) (tgt := 14) hx hb dX9_eRead_121 (by decide) ?_
      exact hs14 σ42 v1 (0 : Int32) hW hS (lv_sub hl [1, 2, 0] rfl) h
    · replace h := o_pos hc42 h
      refine lv_iconst (pc := 117) (v := 0) hx hb dX9_eRead_117 (by decide) ?_
      exact g_ret (pc := 118) C hW hS rfl dX9_eRead_118 (congrArg (fun q => some (Value.int q)) (o_r h).1) (o_r h).2

theorem w_X9_eRead_b14 (C : CX cX9_eRead 4 RX9 (some .boolean) D ac p m c s args meth (z, aK, aV) (Ar (z + 80))) (hK : 3 ≤ K) {r : Int32} {σf : Mem}    : ∀ (n : Nat) (σ : Mem) (v1 : Int32) (v2 : Int32) {H : Heap} {locs : List Loc} {ls : Array Slot} (hW : WR D ac (z + 80) σ H) (hS : va_S (Ar (z + 80)) s.heap H locs) (hl : lv_has ls 4 [(0, .ref (z + 80 + 0)), (1, .int v1), (2, .int v2)]) (h : f_X9_eRead_b14 n σ v1 v2 = some (r, σf)), W p l e (rma K 0 0) s m args below meth c H locs 0 0 (MQ below (QV D (Er ac (z + 80)) inR (z + 80) (some (.int r)) σf (Ar (z + 80))) args s 0 0 (Ar (z + 80))) (F0 m 14 ls []) := by
  have hx := C.1.1
  have hb := C.1.2.1
  intro n
  induction n with
  | zero =>
    intro σ v1 v2 H locs ls  hW hS hl h
    cases h
  | succ n ih =>
    intro σ v1 v2 H locs ls  hW hS hl h
    rw [f_X9_eRead_b14.eq_2] at h
    refine lv_aload_n (pc := 14) hx hb dX9_eRead_14 rfl (lv_at hl 0 rfl) ?_
    obtain ⟨σ2, hc0, h⟩ := o_b h
    refine g_virt (pc := 15) (st2 := []) (rest := []) C hW hS (c_X9_next (K := K - 1) (by omega) hc0) mw_X9_143 inR0 Er_0 rfl (hRoom (by omega) (by decide)) rfl rfl rfl (Nat.le_of_ble_eq_true rfl) hl.1 dX9_eRead_15 (fun H locs hW hS => ?_)
    refine lv_iload_n (pc := 18) hx hb dX9_eRead_18 rfl (lv_at hl 1 rfl) ?_
    refine lv_if_eq (pc := 19) (tgt := 150) hx hb dX9_eRead_19 (by decide) (fun hc2 => ?_) (fun hc2 => ?_)
    · replace h := o_pos hc2 h
      refine lv_aload_n (pc := 150) hx hb dX9_eRead_150 rfl (lv_at hl 0 rfl) ?_
      refine gf_X9_25 (pc := 151) C hW fl_X9_110 dX9_eRead_151 ?_
      refine lv_bipush (pc := 154) (v := 59) hx hb dX9_eRead_154 (by decide) ?_
      refine lv_icmp_ne (pc := 156) (tgt := 177) hx hb dX9_eRead_156 (by decide) (fun hc3 => ?_) (fun hc3 => ?_)
      · replace h := o_neg hc3 h
        refine lv_aload_n (pc := 177) hx hb dX9_eRead_177 rfl (lv_at hl 0 rfl) ?_
        refine gf_X9_25 (pc := 178) C hW fl_X9_110 dX9_eRead_178 ?_
        refine lv_bipush (pc := 181) (v := 41) hx hb dX9_eRead_181 (by decide) ?_
        refine lv_icmp_ne (pc := 183) (tgt := 229) hx hb dX9_eRead_183 (by decide) (fun hc4 => ?_) (fun hc4 => ?_)
        · replace h := o_neg hc4 h
          refine lv_aload_n (pc := 229) hx hb dX9_eRead_229 rfl (lv_at hl 0 rfl) ?_
          refine g_virt (pc := 230) (st2 := [.int (f_X9_signOf σ2)]) (rest := []) C hW hS (c_X9_signOf (K := K - 1) (by omega) rfl) mw_X9_150 inR0 Er_0 rfl (hRoom (by omega) (by decide)) rfl rfl rfl (Nat.le_of_ble_eq_true rfl) hl.1 dX9_eRead_230 (fun H locs hW hS => ?_)
          refine lv_istore_n (pc := 233) (lv' := [(3, .int (f_X9_signOf σ2)), (0, .ref (z + 80 + 0)), (1, .int v1), (2, .int v2)]) hx hb dX9_eRead_233 rfl hl (by decide) rfl (fun ls hl => ?_)
          refine lv_iload_n (pc := 234) hx hb dX9_eRead_234 rfl (lv_at hl 0 rfl) ?_
          refine lv_iconst (pc := 235) (v := -1) hx hb dX9_eRead_235 (by decide) ?_
          refine lv_icmp_eq (pc := 236) (tgt := 247) hx hb dX9_eRead_236 (by decide) (fun hc5 => ?_) (fun hc5 => ?_)
          · replace h := o_pos hc5 h
            refine lv_iconst (pc := 247) (v := 0) hx hb dX9_eRead_247 (by decide) ?_
            exact g_ret (pc := 248) C hW hS rfl dX9_eRead_248 (congrArg (fun q => some (Value.int q)) (o_r h).1) (o_r h).2
          · replace h := o_neg hc5 h
            refine lv_aload_n (pc := 239) hx hb dX9_eRead_239 rfl (lv_at hl 1 rfl) ?_
            refine lv_iload_n (pc := 240) hx hb dX9_eRead_240 rfl (lv_at hl 0 rfl) ?_
            obtain ⟨r8, σ9, hc6, h⟩ := o_b2 h
            refine g_virt (pc := 241) (st2 := [.int r8]) (rest := []) C hW hS (c_X9_between (K := K - 1) (by omega) hc6) mw_X9_153 inR0 Er_0 rfl (hRoom (by omega) (by decide)) rfl rfl rfl (Nat.le_of_ble_eq_true rfl) hl.1 dX9_eRead_241 (fun H locs hW hS => ?_)
            refine lv_if_ne (pc := 244) (tgt := 249) hx hb dX9_eRead_244 (by decide) (fun hc9 => ?_) (fun hc9 => ?_)
            · replace h := o_neg hc9 h
              refine lv_iconst (pc := 249) (v := 1) hx hb dX9_eRead_249 (by decide) ?_
              refine lv_istore_n (pc := 250) (lv' := [(1, .int (1 : Int32)), (3, .int (f_X9_signOf σ2)), (0, .ref (z + 80 + 0)), (2, .int v2)]) hx hb dX9_eRead_250 rfl hl (by decide) rfl (fun ls hl => ?_)
              refine lv_iload_n (pc := 251) hx hb dX9_eRead_251 rfl (lv_at hl 1 rfl) ?_
              refine lv_bipush (pc := 252) (v := 12) hx hb dX9_eRead_252 (by decide) ?_
              refine lv_icmp_gt (pc := 254) (tgt := 261) hx hb dX9_eRead_254 (by decide) (fun hc10 => ?_) (fun hc10 => ?_)
              · replace h := o_pos hc10 h
                refine lv_iconst (pc := 261) (v := 0) hx hb dX9_eRead_261 (by decide) ?_
                exact w_X9_eRead_b262 C hK σ9 (1 : Int32) (0 : Int32) (f_X9_eRead_b14  n) (fun σ v1 v2 {H : Heap} {locs : List Loc} {ls : Array Slot}  hW hS hl h => ih σ v1 v2 hW hS hl h) hW hS (lv_sub hl [2, 0] rfl) h
              · replace h := o_neg hc10 h
                refine lv_iconst (pc := 257) (v := 1) hx hb dX9_eRead_257 (by decide) ?_
                refine lv_goto (pc := 258) (tgt := 262) hx hb dX9_eRead_258 (by decide) ?_
                exact w_X9_eRead_b262 C hK σ9 (1 : Int32) (1 : Int32) (f_X9_eRead_b14  n) (fun σ v1 v2 {H : Heap} {locs : List Loc} {ls : Array Slot}  hW hS hl h => ih σ v1 v2 hW hS hl h) hW hS (lv_sub hl [2, 0] rfl) h
            · replace h := o_pos hc9 h
              refine lv_iconst (pc := 247) (v := 0) hx hb dX9_eRead_247 (by decide) ?_
              exact g_ret (pc := 248) C hW hS rfl dX9_eRead_248 (congrArg (fun q => some (Value.int q)) (o_r h).1) (o_r h).2
        · replace h := o_pos hc4 h
          refine lv_aload_n (pc := 186) hx hb dX9_eRead_186 rfl (lv_at hl 0 rfl) ?_
          refine lv_iconst (pc := 187) (v := 1) hx hb dX9_eRead_187 (by decide) ?_
          obtain ⟨σ13, hc11, h⟩ := o_b h
          refine g_virt (pc := 188) (st2 := []) (rest := []) C hW hS (c_X9_unwinds (K := K - 1) (by omega) hc11) mw_X9_140 inR0 Er_0 rfl (hRoom (by omega) (by decide)) rfl rfl rfl (Nat.le_of_ble_eq_true rfl) hl.1 dX9_eRead_188 (fun H locs hW hS => ?_)
          refine lv_aload_n (pc := 191) hx hb dX9_eRead_191 rfl (lv_at hl 0 rfl) ?_
          refine gf_X9_29 (pc := 192) C hW fl_X9_123 dX9_eRead_192 ?_
          refine lv_if_ne (pc := 195) (tgt := 200) hx hb dX9_eRead_195 (by decide) (fun hc13 => ?_) (fun hc13 => ?_)
          · replace h := o_neg hc13 h
            refine lv_aload_n (pc := 200) hx hb dX9_eRead_200 rfl (lv_at hl 0 rfl) ?_
            refine lv_dup (pc := 201) hx hb dX9_eRead_201 rfl ?_
            refine gf_X9_29 (pc := 202) C hW fl_X9_123 dX9_eRead_202 ?_
            refine lv_iconst (pc := 205) (v := 1) hx hb dX9_eRead_205 (by decide) ?_
            refine lv_isub (pc := 206) hx hb dX9_eRead_206 ?_
            refine pf_X9_29 (pc := 207) C hW hS fl_X9_123 dX9_eRead_207 (fun H locs hW hS => ?_)
            refine lv_aload_n (pc := 210) hx hb dX9_eRead_210 rfl (lv_at hl 0 rfl) ?_
            refine lv_dup (pc := 211) hx hb dX9_eRead_211 rfl ?_
            refine gf_X9_30 (pc := 212) C hW fl_X9_130 dX9_eRead_212 ?_
            refine lv_iconst (pc := 215) (v := 1) hx hb dX9_eRead_215 (by decide) ?_
            refine lv_isub (pc := 216) hx hb dX9_eRead_216 ?_
            refine pf_X9_30 (pc := 217) C hW hS fl_X9_130 dX9_eRead_217 (fun H locs hW hS => ?_)
            obtain ⟨σ15, hσ15, h⟩ := o_d h
            replace hW : WR D ac (z + 80) σ15 H := by rw [← hσ15]; exact hW
            refine lv_aload_n (pc := 220) hx hb dX9_eRead_220 rfl (lv_at hl 0 rfl) ?_
            refine lv_bipush (pc := 221) (v := 7) hx hb dX9_eRead_221 (by decide) ?_
            obtain ⟨σ17, hc15, h⟩ := o_b h
            refine g_virt (pc := 223) (st2 := []) (rest := []) C hW hS (c_X9_unwinds (K := K - 1) (by omega) hc15) mw_X9_140 inR0 Er_0 rfl (hRoom (by omega) (by decide)) rfl rfl rfl (Nat.le_of_ble_eq_true rfl) hl.1 dX9_eRead_223 (fun H locs hW hS => ?_)
            refine lv_goto (pc := 226) (tgt := 14) hx hb dX9_eRead_226 (by decide) ?_
            exact ih σ17 v1 v2 hW hS (lv_sub hl [0, 1, 2] rfl) h
          · replace h := o_pos hc13 h
            refine lv_iconst (pc := 198) (v := 0) hx hb dX9_eRead_198 (by decide) ?_
            exact g_ret (pc := 199) C hW hS rfl dX9_eRead_199 (congrArg (fun q => some (Value.int q)) (o_r h).1) (o_r h).2
      · replace h := o_pos hc3 h
        refine lv_aload_n (pc := 159) hx hb dX9_eRead_159 rfl (lv_at hl 0 rfl) ?_
        refine lv_iconst (pc := 160) (v := 1) hx hb dX9_eRead_160 (by decide) ?_
        obtain ⟨σ19, hc17, h⟩ := o_b h
        refine g_virt (pc := 161) (st2 := []) (rest := []) C hW hS (c_X9_unwinds (K := K - 1) (by omega) hc17) mw_X9_140 inR0 Er_0 rfl (hRoom (by omega) (by decide)) rfl rfl rfl (Nat.le_of_ble_eq_true rfl) hl.1 dX9_eRead_161 (fun H locs hW hS => ?_)
        refine lv_aload_n (pc := 164) hx hb dX9_eRead_164 rfl (lv_at hl 0 rfl) ?_
        refine gf_X9_29 (pc := 165) C hW fl_X9_123 dX9_eRead_165 ?_
        refine lv_if_ne (pc := 168) (tgt := 175) hx hb dX9_eRead_168 (by decide) (fun hc19 => ?_) (fun hc19 => ?_)
        · replace h := o_neg hc19 h
          refine lv_iconst (pc := 175) (v := 0) hx hb dX9_eRead_175 (by decide) ?_
          exact g_ret (pc := 176) C hW hS rfl dX9_eRead_176 (congrArg (fun q => some (Value.int q)) (o_r h).1) (o_r h).2
        · replace h := o_pos hc19 h
          refine lv_iconst (pc := 171) (v := 1) hx hb dX9_eRead_171 (by decide) ?_
          refine lv_goto (pc := 172) (tgt := 176) hx hb dX9_eRead_172 (by decide) ?_
          exact g_ret (pc := 176) C hW hS rfl dX9_eRead_176 (congrArg (fun q => some (Value.int q)) (o_r h).1) (o_r h).2
    · replace h := o_neg hc2 h
      refine lv_aload_n (pc := 22) hx hb dX9_eRead_22 rfl (lv_at hl 0 rfl) ?_
      refine gf_X9_25 (pc := 23) C hW fl_X9_110 dX9_eRead_23 ?_
      refine lv_iconst (pc := 26) (v := 1) hx hb dX9_eRead_26 (by decide) ?_
      refine lv_icmp_eq (pc := 27) (tgt := 38) hx hb dX9_eRead_27 (by decide) (fun hc20 => ?_) (fun hc20 => ?_)
      · replace h := o_pos hc20 h
        exact w_X9_eRead_b38 C hK σ2 v2 (f_X9_eRead_b14  n) (fun σ v1 v2 {H : Heap} {locs : List Loc} {ls : Array Slot}  hW hS hl h => ih σ v1 v2 hW hS hl h) hW hS (lv_sub hl [0, 2] rfl) h
      · replace h := o_neg hc20 h
        refine lv_aload_n (pc := 30) hx hb dX9_eRead_30 rfl (lv_at hl 0 rfl) ?_
        refine gf_X9_25 (pc := 31) C hW fl_X9_110 dX9_eRead_31 ?_
        refine lv_iconst (pc := 34) (v := 2) hx hb dX9_eRead_34 (by decide) ?_
        refine lv_icmp_ne (pc := 35) (tgt := 75) hx hb dX9_eRead_35 (by decide) (fun hc21 => ?_) (fun hc21 => ?_)
        · replace h := o_neg hc21 h
          refine lv_aload_n (pc := 75) hx hb dX9_eRead_75 rfl (lv_at hl 0 rfl) ?_
          refine gf_X9_25 (pc := 76) C hW fl_X9_110 dX9_eRead_76 ?_
          refine lv_bipush (pc := 79) (v := 6) hx hb dX9_eRead_79 (by decide) ?_
          refine lv_icmp_ne (pc := 81) (tgt := 99) hx hb dX9_eRead_81 (by decide) (fun hc22 => ?_) (fun hc22 => ?_)
          · replace h := o_neg hc22 h
            exact w_X9_eRead_b99 C hK σ2 v1 (f_X9_eRead_b14  n) (fun σ v1 v2 {H : Heap} {locs : List Loc} {ls : Array Slot}  hW hS hl h => ih σ v1 v2 hW hS hl h) hW hS (lv_sub hl [0, 1] rfl) h
          · replace h := o_pos hc22 h
            refine lv_iload_n (pc := 84) hx hb dX9_eRead_84 rfl (lv_at hl 2 rfl) ?_
            refine lv_if_eq (pc := 85) (tgt := 99) hx hb dX9_eRead_85 (by decide) (fun hc23 => ?_) (fun hc23 => ?_)
            · replace h := o_pos hc23 h
              exact w_X9_eRead_b99 C hK σ2 v1 (f_X9_eRead_b14  n) (fun σ v1 v2 {H : Heap} {locs : List Loc} {ls : Array Slot}  hW hS hl h => ih σ v1 v2 hW hS hl h) hW hS (lv_sub hl [0, 1] rfl) h
            · replace h := o_neg hc23 h
              refine lv_aload_n (pc := 88) hx hb dX9_eRead_88 rfl (lv_at hl 0 rfl) ?_
              refine lv_bipush (pc := 89) (v := 13) hx hb dX9_eRead_89 (by decide) ?_
              obtain ⟨r26, σ27, hc24, h⟩ := o_b2 h
              refine g_virt (pc := 91) (st2 := [.int r26]) (rest := []) C hW hS (c_X9_opensOne (K := K - 1) (by omega) hc24) mw_X9_147 inR0 Er_0 rfl (hRoom (by omega) (by decide)) rfl rfl rfl (Nat.le_of_ble_eq_true rfl) hl.1 dX9_eRead_91 (fun H locs hW hS => ?_)
              refine lv_if_ne (pc := 94) (tgt := 14) hx hb dX9_eRead_94 (by decide) (fun hc27 => ?_) (fun hc27 => ?_)
              · replace h := o_neg hc27 h
                exact ih σ27 v1 v2 hW hS (lv_sub hl [0, 1, 2] rfl) h
              · replace h := o_pos hc27 h
                refine lv_iconst (pc := 97) (v := 0) hx hb dX9_eRead_97 (by decide) ?_
                exact g_ret (pc := 98) C hW hS rfl dX9_eRead_98 (congrArg (fun q => some (Value.int q)) (o_r h).1) (o_r h).2
        · replace h := o_pos hc21 h
          exact w_X9_eRead_b38 C hK σ2 v2 (f_X9_eRead_b14  n) (fun σ v1 v2 {H : Heap} {locs : List Loc} {ls : Array Slot}  hW hS hl h => ih σ v1 v2 hW hS hl h) hW hS (lv_sub hl [0, 2] rfl) h

theorem c_X9_eRead {K : Nat}  (hK : 3 ≤ K) {σ : Mem} {σf : Mem} {r : Int32} (h : f_X9_eRead σ = some (r, σf)) : MC l D (Er ac (z + 80)) inR (z + 80) ac (z, aK, aV) (Ar (z + 80)) yX9_eRead cX9_eRead 4 (some .boolean) K [.ref (z + 80 + 0)] σ (some (.int r)) σf := by
  refine MC.of (fun q hq => by have := hq.1; show z ≤ q; omega) (plainFor_of_name (by decide)) (Nat.le_of_ble_eq_true rfl) ?_
  intro p e s m below meth c args C hW ls hl
  replace hl : lv_has ls 4 [(0, .ref (z + 80 + 0))] := hl
  have hS : va_S (Ar (z + 80)) s.heap s.heap [] := va_S.rf
  have hx := C.1.1
  have hb := C.1.2.1
  unfold f_X9_eRead at h
  refine lv_aload_n (pc := 0) hx hb dX9_eRead_0 rfl (lv_at hl 0 rfl) ?_
  refine lv_iconst (pc := 1) (v := 0) hx hb dX9_eRead_1 (by decide) ?_
  refine pf_X9_29 (pc := 2) C hW hS fl_X9_123 dX9_eRead_2 (fun H locs hW hS => ?_)
  refine lv_aload_n (pc := 5) hx hb dX9_eRead_5 rfl (lv_at hl 0 rfl) ?_
  refine lv_iconst (pc := 6) (v := 0) hx hb dX9_eRead_6 (by decide) ?_
  refine pf_X9_30 (pc := 7) C hW hS fl_X9_130 dX9_eRead_7 (fun H locs hW hS => ?_)
  refine lv_iconst (pc := 10) (v := 1) hx hb dX9_eRead_10 (by decide) ?_
  refine lv_istore_n (pc := 11) (lv' := [(1, .int (1 : Int32)), (0, .ref (z + 80 + 0))]) hx hb dX9_eRead_11 rfl hl (by decide) rfl (fun ls hl => ?_)
  refine lv_iconst (pc := 12) (v := 1) hx hb dX9_eRead_12 (by decide) ?_
  refine lv_istore_n (pc := 13) (lv' := [(2, .int (1 : Int32)), (1, .int (1 : Int32)), (0, .ref (z + 80 + 0))]) hx hb dX9_eRead_13 rfl hl (by decide) rfl (fun ls hl => ?_)
  exact w_X9_eRead_b14 C hK FU (ms (ms σ 0 29 (0 : Int32)) 0 30 (0 : Int32)) (1 : Int32) (1 : Int32) hW hS (lv_sub hl [2, 1, 0] rfl) h

theorem w_X9_text_b122 (C : CX cX9_text 3 RX9 (some .int) D ac p m c s args meth (z, aK, aV) (Ar (z + 80))) (hK : 4 ≤ K) {r : Int32} {σf : Mem}   (σ : Mem) (v1 : Int32)  {H : Heap} {locs : List Loc} {ls : Array Slot} (hW : WR D ac (z + 80) σ H) (hS : va_S (Ar (z + 80)) s.heap H locs) (hl : lv_has ls 3 [(0, .ref (z + 80 + 0)), (1, .int v1)]) (h : f_X9_text_b122 σ v1 = some (r, σf)) : W p l e (rma K 0 0) s m args below meth c H locs 0 0 (MQ below (QV D (Er ac (z + 80)) inR (z + 80) (some (.int r)) σf (Ar (z + 80))) args s 0 0 (Ar (z + 80))) (F0 m 122 ls []) := by
  have hx := C.1.1
  have hb := C.1.2.1
  unfold f_X9_text_b122 at h
  refine lv_aload_n (pc := 122) hx hb dX9_text_122 rfl (lv_at hl 0 rfl) ?_
  refine gf_X9_10 (pc := 123) C hW fl_X9_28 dX9_text_123 ?_
  refine lv_iconst (pc := 126) (v := 4) hx hb dX9_text_126 (by decide) ?_
  refine lv_aload_n (pc := 127) hx hb dX9_text_127 rfl (lv_at hl 0 rfl) ?_
  refine gf_X9_11 (pc := 128) C hW fl_X9_94 dX9_text_128 ?_
  refine lv_imul (pc := 131) hx hb dX9_text_131 ?_
  refine lv_iconst (pc := 132) (v := 3) hx hb dX9_text_132 (by decide) ?_
  refine lv_iadd (pc := 133) hx hb dX9_text_133 ?_
  refine lv_aload_n (pc := 134) hx hb dX9_text_134 rfl (lv_at hl 0 rfl) ?_
  refine gf_X9_31 (pc := 135) C hW fl_X9_120 dX9_text_135 ?_
  obtain ⟨hc11, h⟩ := o_chk h
  refine ir_st (pc := 138) (k := 7) C hW hS (by decide) (by decide) rfl rfl (inb_in hc11) dX9_text_138 (fun H locs hW hS => ?_)
  obtain ⟨σ13, hσ13, h⟩ := o_d h
  replace hW : WR D ac (z + 80) σ13 H := by rw [← hσ13]; exact hW
  refine lv_aload_n (pc := 139) hx hb dX9_text_139 rfl (lv_at hl 0 rfl) ?_
  refine lv_iconst (pc := 140) (v := 0) hx hb dX9_text_140 (by decide) ?_
  refine pf_X9_8 (pc := 141) C hW hS fl_X9_73 dX9_text_141 (fun H locs hW hS => ?_)
  refine lv_iload_n (pc := 144) hx hb dX9_text_144 rfl (lv_at hl 1 rfl) ?_
  refine lv_if_ne (pc := 145) (tgt := 156) hx hb dX9_text_145 (by decide) (fun hc13 => ?_) (fun hc13 => ?_)
  · replace h := o_neg hc13 h
    refine lv_aload_n (pc := 156) hx hb dX9_text_156 rfl (lv_at hl 0 rfl) ?_
    refine lv_dup (pc := 157) hx hb dX9_text_157 rfl ?_
    refine gf_X9_11 (pc := 158) C hW fl_X9_94 dX9_text_158 ?_
    refine lv_iconst (pc := 161) (v := 1) hx hb dX9_text_161 (by decide) ?_
    refine lv_iadd (pc := 162) hx hb dX9_text_162 ?_
    refine pf_X9_11 (pc := 163) C hW hS fl_X9_94 dX9_text_163 (fun H locs hW hS => ?_)
    obtain ⟨σ15, hσ15, h⟩ := o_d h
    replace hW : WR D ac (z + 80) σ15 H := by rw [← hσ15]; exact hW
    refine lv_aload_n (pc := 166) hx hb dX9_text_166 rfl (lv_at hl 0 rfl) ?_
    refine gf_X9_11 (pc := 167) C hW fl_X9_94 dX9_text_167 ?_
    refine lv_iconst (pc := 170) (v := 1) hx hb dX9_text_170 (by decide) ?_
    refine lv_isub (pc := 171) hx hb dX9_text_171 ?_
    exact g_ret (pc := 172) C hW hS rfl dX9_text_172 (congrArg (fun q => some (Value.int q)) (o_r h).1) (o_r h).2
  · replace h := o_pos hc13 h
    refine lv_bipush (pc := 148) (v := -100) hx hb dX9_text_148 (by decide) ?_
    refine lv_aload_n (pc := 150) hx hb dX9_text_150 rfl (lv_at hl 0 rfl) ?_
    refine gf_X9_24 (pc := 151) C hW fl_X9_107 dX9_text_151 ?_
    refine lv_isub (pc := 154) hx hb dX9_text_154 ?_
    exact g_ret (pc := 155) C hW hS rfl dX9_text_155 (congrArg (fun q => some (Value.int q)) (o_r h).1) (o_r h).2

theorem w_X9_text_b121 (C : CX cX9_text 3 RX9 (some .int) D ac p m c s args meth (z, aK, aV) (Ar (z + 80))) (hK : 4 ≤ K) {r : Int32} {σf : Mem}   (σ : Mem) (k0 : Int32)  {H : Heap} {locs : List Loc} {ls : Array Slot} (hW : WR D ac (z + 80) σ H) (hS : va_S (Ar (z + 80)) s.heap H locs) (hl : lv_has ls 3 [(0, .ref (z + 80 + 0))]) (h : f_X9_text_b121 σ k0 = some (r, σf)) : W p l e (rma K 0 0) s m args below meth c H locs 0 0 (MQ below (QV D (Er ac (z + 80)) inR (z + 80) (some (.int r)) σf (Ar (z + 80))) args s 0 0 (Ar (z + 80))) (F0 m 121 ls [.int k0]) := by
  have hx := C.1.1
  have hb := C.1.2.1
  unfold f_X9_text_b121 at h
  refine lv_istore_n (pc := 121) (lv' := [(1, .int k0), (0, .ref (z + 80 + 0))]) hx hb dX9_text_121 rfl hl (by decide) rfl (fun ls hl => ?_)
  exact w_X9_text_b122 C hK σ k0 hW hS (lv_sub hl [1, 0] rfl) h

theorem w_X9_text_b101 (C : CX cX9_text 3 RX9 (some .int) D ac p m c s args meth (z, aK, aV) (Ar (z + 80))) (hK : 4 ≤ K) {r : Int32} {σf : Mem}   (σ : Mem) (v1 : Int32)  {H : Heap} {locs : List Loc} {ls : Array Slot} (hW : WR D ac (z + 80) σ H) (hS : va_S (Ar (z + 80)) s.heap H locs) (hl : lv_has ls 3 [(0, .ref (z + 80 + 0)), (1, .int v1)]) (h : f_X9_text_b101 σ v1 = some (r, σf)) : W p l e (rma K 0 0) s m args below meth c H locs 0 0 (MQ below (QV D (Er ac (z + 80)) inR (z + 80) (some (.int r)) σf (Ar (z + 80))) args s 0 0 (Ar (z + 80))) (F0 m 101 ls []) := by
  have hx := C.1.1
  have hb := C.1.2.1
  unfold f_X9_text_b101 at h
  refine lv_iload_n (pc := 101) hx hb dX9_text_101 rfl (lv_at hl 1 rfl) ?_
  refine lv_if_eq (pc := 102) (tgt := 122) hx hb dX9_text_102 (by decide) (fun hc7 => ?_) (fun hc7 => ?_)
  · replace h := o_pos hc7 h
    exact w_X9_text_b122 C hK σ v1 hW hS (lv_sub hl [0, 1] rfl) h
  · replace h := o_neg hc7 h
    refine lv_aload_n (pc := 105) hx hb dX9_text_105 rfl (lv_at hl 0 rfl) ?_
    obtain ⟨σ10, hc8, h⟩ := o_b h
    refine g_virt (pc := 106) (st2 := []) (rest := []) C hW hS (c_X9_next (K := K - 1) (by omega) hc8) mw_X9_143 inR0 Er_0 rfl (hRoom (by omega) (by decide)) rfl rfl rfl (Nat.le_of_ble_eq_true rfl) hl.1 dX9_text_106 (fun H locs hW hS => ?_)
    refine lv_aload_n (pc := 109) hx hb dX9_text_109 rfl (lv_at hl 0 rfl) ?_
    refine gf_X9_25 (pc := 110) C hW fl_X9_110 dX9_text_110 ?_
    refine lv_if_ne (pc := 113) (tgt := 120) hx hb dX9_text_113 (by decide) (fun hc10 => ?_) (fun hc10 => ?_)
    · replace h := o_neg hc10 h
      refine lv_iconst (pc := 120) (v := 0) hx hb dX9_text_120 (by decide) ?_
      exact w_X9_text_b121 C hK σ10 (0 : Int32) hW hS (lv_sub hl [0] rfl) h
    · replace h := o_pos hc10 h
      refine lv_iconst (pc := 116) (v := 1) hx hb dX9_text_116 (by decide) ?_
      refine lv_goto (pc := 117) (tgt := 121) hx hb dX9_text_117 (by decide) ?_
      exact w_X9_text_b121 C hK σ10 (1 : Int32) hW hS (lv_sub hl [0] rfl) h

theorem w_X9_text_b94 (C : CX cX9_text 3 RX9 (some .int) D ac p m c s args meth (z, aK, aV) (Ar (z + 80))) (hK : 4 ≤ K) {r : Int32} {σf : Mem}   (σ : Mem) (v2 : Int32) (k0 : Int32) (s26 : Mem → Int32 → Int32 → Option (Int32 × Mem)) (hs26 : ∀ (σ : Mem) (v1 : Int32) (v2 : Int32) {H : Heap} {locs : List Loc} {ls : Array Slot} (_ : WR D ac (z + 80) σ H) (_ : va_S (Ar (z + 80)) s.heap H locs) (_ : lv_has ls 3 [(0, .ref (z + 80 + 0)), (1, .int v1), (2, .int v2)]) (_ : s26 σ v1 v2 = some (r, σf)), W p l e (rma K 0 0) s m args below meth c H locs 0 0 (MQ below (QV D (Er ac (z + 80)) inR (z + 80) (some (.int r)) σf (Ar (z + 80))) args s 0 0 (Ar (z + 80))) (F0 m 26 ls [])) {H : Heap} {locs : List Loc} {ls : Array Slot} (hW : WR D ac (z + 80) σ H) (hS : va_S (Ar (z + 80)) s.heap H locs) (hl : lv_has ls 3 [(0, .ref (z + 80 + 0)), (2, .int v2)]) (h : f_X9_text_b94 s26 σ v2 k0 = some (r, σf)) : W p l e (rma K 0 0) s m args below meth c H locs 0 0 (MQ below (QV D (Er ac (z + 80)) inR (z + 80) (some (.int r)) σf (Ar (z + 80))) args s 0 0 (Ar (z + 80))) (F0 m 94 ls [.int k0]) := by
  have hx := C.1.1
  have hb := C.1.2.1
  unfold f_X9_text_b94 at h
  refine lv_istore_n (pc := 94) (lv' := [(1, .int k0), (0, .ref (z + 80 + 0)), (2, .int v2)]) hx hb dX9_text_94 rfl hl (by decide) rfl (fun ls hl => ?_)
  refine lv_iinc (pc := 95) (v := (v2 + 1)) (lv' := [(2, .int (v2 + 1)), (1, .int k0), (0, .ref (z + 80 + 0))]) hx hb dX9_text_95 hl (k := 2) rfl rfl (by decide) rfl (fun ls hl => ?_)
  refine lv_goto (pc := 98) (tgt := 26) hx hb dX9_text_98 (by decide) ?_
  exact hs26 σ k0 (v2 + 1) hW hS (lv_sub hl [2, 1, 0] rfl) h

theorem w_X9_text_b93 (C : CX cX9_text 3 RX9 (some .int) D ac p m c s args meth (z, aK, aV) (Ar (z + 80))) (hK : 4 ≤ K) {r : Int32} {σf : Mem}   (σ : Mem) (v2 : Int32) (s26 : Mem → Int32 → Int32 → Option (Int32 × Mem)) (hs26 : ∀ (σ : Mem) (v1 : Int32) (v2 : Int32) {H : Heap} {locs : List Loc} {ls : Array Slot} (_ : WR D ac (z + 80) σ H) (_ : va_S (Ar (z + 80)) s.heap H locs) (_ : lv_has ls 3 [(0, .ref (z + 80 + 0)), (1, .int v1), (2, .int v2)]) (_ : s26 σ v1 v2 = some (r, σf)), W p l e (rma K 0 0) s m args below meth c H locs 0 0 (MQ below (QV D (Er ac (z + 80)) inR (z + 80) (some (.int r)) σf (Ar (z + 80))) args s 0 0 (Ar (z + 80))) (F0 m 26 ls [])) {H : Heap} {locs : List Loc} {ls : Array Slot} (hW : WR D ac (z + 80) σ H) (hS : va_S (Ar (z + 80)) s.heap H locs) (hl : lv_has ls 3 [(0, .ref (z + 80 + 0)), (2, .int v2)]) (h : f_X9_text_b93 s26 σ v2 = some (r, σf)) : W p l e (rma K 0 0) s m args below meth c H locs 0 0 (MQ below (QV D (Er ac (z + 80)) inR (z + 80) (some (.int r)) σf (Ar (z + 80))) args s 0 0 (Ar (z + 80))) (F0 m 93 ls []) := by
  have hx := C.1.1
  have hb := C.1.2.1
  unfold f_X9_text_b93 at h
  refine lv_iconst (pc := 93) (v := 0) hx hb dX9_text_93 (by decide) ?_
  exact w_X9_text_b94 C hK σ v2 (0 : Int32) s26 hs26 hW hS (lv_sub hl [0, 1] rfl) h

theorem w_X9_text_b60 (C : CX cX9_text 3 RX9 (some .int) D ac p m c s args meth (z, aK, aV) (Ar (z + 80))) (hK : 4 ≤ K) {r : Int32} {σf : Mem}   (σ : Mem) (v2 : Int32) (k0 : Int32) (s26 : Mem → Int32 → Int32 → Option (Int32 × Mem)) (hs26 : ∀ (σ : Mem) (v1 : Int32) (v2 : Int32) {H : Heap} {locs : List Loc} {ls : Array Slot} (_ : WR D ac (z + 80) σ H) (_ : va_S (Ar (z + 80)) s.heap H locs) (_ : lv_has ls 3 [(0, .ref (z + 80 + 0)), (1, .int v1), (2, .int v2)]) (_ : s26 σ v1 v2 = some (r, σf)), W p l e (rma K 0 0) s m args below meth c H locs 0 0 (MQ below (QV D (Er ac (z + 80)) inR (z + 80) (some (.int r)) σf (Ar (z + 80))) args s 0 0 (Ar (z + 80))) (F0 m 26 ls [])) {H : Heap} {locs : List Loc} {ls : Array Slot} (hW : WR D ac (z + 80) σ H) (hS : va_S (Ar (z + 80)) s.heap H locs) (hl : lv_has ls 3 [(0, .ref (z + 80 + 0)), (2, .int v2)]) (h : f_X9_text_b60 s26 σ v2 k0 = some (r, σf)) : W p l e (rma K 0 0) s m args below meth c H locs 0 0 (MQ below (QV D (Er ac (z + 80)) inR (z + 80) (some (.int r)) σf (Ar (z + 80))) args s 0 0 (Ar (z + 80))) (F0 m 60 ls [.int k0]) := by
  have hx := C.1.1
  have hb := C.1.2.1
  unfold f_X9_text_b60 at h
  refine lv_istore_n (pc := 60) (lv' := [(1, .int k0), (0, .ref (z + 80 + 0)), (2, .int v2)]) hx hb dX9_text_60 rfl hl (by decide) rfl (fun ls hl => ?_)
  refine lv_aload_n (pc := 61) hx hb dX9_text_61 rfl (lv_at hl 1 rfl) ?_
  refine gf_X9_10 (pc := 62) C hW fl_X9_28 dX9_text_62 ?_
  refine lv_iconst (pc := 65) (v := 4) hx hb dX9_text_65 (by decide) ?_
  refine lv_aload_n (pc := 66) hx hb dX9_text_66 rfl (lv_at hl 1 rfl) ?_
  refine gf_X9_11 (pc := 67) C hW fl_X9_94 dX9_text_67 ?_
  refine lv_imul (pc := 70) hx hb dX9_text_70 ?_
  refine lv_iload_n (pc := 71) hx hb dX9_text_71 rfl (lv_at hl 2 rfl) ?_
  refine lv_iadd (pc := 72) hx hb dX9_text_72 ?_
  refine lv_aload_n (pc := 73) hx hb dX9_text_73 rfl (lv_at hl 1 rfl) ?_
  refine gf_X9_31 (pc := 74) C hW fl_X9_120 dX9_text_74 ?_
  obtain ⟨hc15, h⟩ := o_chk h
  refine ir_st (pc := 77) (k := 7) C hW hS (by decide) (by decide) rfl rfl (inb_in hc15) dX9_text_77 (fun H locs hW hS => ?_)
  obtain ⟨σ17, hσ17, h⟩ := o_d h
  replace hW : WR D ac (z + 80) σ17 H := by rw [← hσ17]; exact hW
  refine lv_iload_n (pc := 78) hx hb dX9_text_78 rfl (lv_at hl 0 rfl) ?_
  refine lv_if_eq (pc := 79) (tgt := 93) hx hb dX9_text_79 (by decide) (fun hc17 => ?_) (fun hc17 => ?_)
  · replace h := o_pos hc17 h
    exact w_X9_text_b93 C hK σ17 v2 s26 hs26 hW hS (lv_sub hl [1, 2] rfl) h
  · replace h := o_neg hc17 h
    refine lv_aload_n (pc := 82) hx hb dX9_text_82 rfl (lv_at hl 1 rfl) ?_
    obtain ⟨r20, σ21, hc18, h⟩ := o_b2 h
    refine g_virt (pc := 83) (st2 := [.int r20]) (rest := []) C hW hS (c_X9_eRead (K := K - 1) (by omega) hc18) mw_X9_156 inR0 Er_0 rfl (hRoom (by omega) (by decide)) rfl rfl rfl (Nat.le_of_ble_eq_true rfl) hl.1 dX9_text_83 (fun H locs hW hS => ?_)
    refine lv_if_eq (pc := 86) (tgt := 93) hx hb dX9_text_86 (by decide) (fun hc21 => ?_) (fun hc21 => ?_)
    · replace h := o_pos hc21 h
      exact w_X9_text_b93 C hK σ21 v2 s26 hs26 hW hS (lv_sub hl [1, 2] rfl) h
    · replace h := o_neg hc21 h
      refine lv_iconst (pc := 89) (v := 1) hx hb dX9_text_89 (by decide) ?_
      refine lv_goto (pc := 90) (tgt := 94) hx hb dX9_text_90 (by decide) ?_
      exact w_X9_text_b94 C hK σ21 v2 (1 : Int32) s26 hs26 hW hS (lv_sub hl [1, 2] rfl) h

theorem w_X9_text_b59 (C : CX cX9_text 3 RX9 (some .int) D ac p m c s args meth (z, aK, aV) (Ar (z + 80))) (hK : 4 ≤ K) {r : Int32} {σf : Mem}   (σ : Mem) (v2 : Int32) (s26 : Mem → Int32 → Int32 → Option (Int32 × Mem)) (hs26 : ∀ (σ : Mem) (v1 : Int32) (v2 : Int32) {H : Heap} {locs : List Loc} {ls : Array Slot} (_ : WR D ac (z + 80) σ H) (_ : va_S (Ar (z + 80)) s.heap H locs) (_ : lv_has ls 3 [(0, .ref (z + 80 + 0)), (1, .int v1), (2, .int v2)]) (_ : s26 σ v1 v2 = some (r, σf)), W p l e (rma K 0 0) s m args below meth c H locs 0 0 (MQ below (QV D (Er ac (z + 80)) inR (z + 80) (some (.int r)) σf (Ar (z + 80))) args s 0 0 (Ar (z + 80))) (F0 m 26 ls [])) {H : Heap} {locs : List Loc} {ls : Array Slot} (hW : WR D ac (z + 80) σ H) (hS : va_S (Ar (z + 80)) s.heap H locs) (hl : lv_has ls 3 [(0, .ref (z + 80 + 0)), (2, .int v2)]) (h : f_X9_text_b59 s26 σ v2 = some (r, σf)) : W p l e (rma K 0 0) s m args below meth c H locs 0 0 (MQ below (QV D (Er ac (z + 80)) inR (z + 80) (some (.int r)) σf (Ar (z + 80))) args s 0 0 (Ar (z + 80))) (F0 m 59 ls []) := by
  have hx := C.1.1
  have hb := C.1.2.1
  unfold f_X9_text_b59 at h
  refine lv_iconst (pc := 59) (v := 0) hx hb dX9_text_59 (by decide) ?_
  exact w_X9_text_b60 C hK σ v2 (0 : Int32) s26 hs26 hW hS (lv_sub hl [0, 1] rfl) h

theorem w_X9_text_b26 (C : CX cX9_text 3 RX9 (some .int) D ac p m c s args meth (z, aK, aV) (Ar (z + 80))) (hK : 4 ≤ K) {r : Int32} {σf : Mem}    : ∀ (n : Nat) (σ : Mem) (v1 : Int32) (v2 : Int32) {H : Heap} {locs : List Loc} {ls : Array Slot} (hW : WR D ac (z + 80) σ H) (hS : va_S (Ar (z + 80)) s.heap H locs) (hl : lv_has ls 3 [(0, .ref (z + 80 + 0)), (1, .int v1), (2, .int v2)]) (h : f_X9_text_b26 n σ v1 v2 = some (r, σf)), W p l e (rma K 0 0) s m args below meth c H locs 0 0 (MQ below (QV D (Er ac (z + 80)) inR (z + 80) (some (.int r)) σf (Ar (z + 80))) args s 0 0 (Ar (z + 80))) (F0 m 26 ls []) := by
  have hx := C.1.1
  have hb := C.1.2.1
  intro n
  induction n with
  | zero =>
    intro σ v1 v2 H locs ls  hW hS hl h
    cases h
  | succ n ih =>
    intro σ v1 v2 H locs ls  hW hS hl h
    rw [f_X9_text_b26.eq_2] at h
    refine lv_iload_n (pc := 26) hx hb dX9_text_26 rfl (lv_at hl 2 rfl) ?_
    refine lv_iconst (pc := 27) (v := 3) hx hb dX9_text_27 (by decide) ?_
    refine lv_icmp_ge (pc := 28) (tgt := 101) hx hb dX9_text_28 (by decide) (fun hc1 => ?_) (fun hc1 => ?_)
    · replace h := o_pos hc1 h
      exact w_X9_text_b101 C hK σ v1 hW hS (lv_sub hl [0, 1] rfl) h
    · replace h := o_neg hc1 h
      refine lv_iload_n (pc := 31) hx hb dX9_text_31 rfl (lv_at hl 1 rfl) ?_
      refine lv_if_eq (pc := 32) (tgt := 101) hx hb dX9_text_32 (by decide) (fun hc2 => ?_) (fun hc2 => ?_)
      · replace h := o_pos hc2 h
        exact w_X9_text_b101 C hK σ v1 hW hS (lv_sub hl [0, 1] rfl) h
      · replace h := o_neg hc2 h
        refine lv_aload_n (pc := 35) hx hb dX9_text_35 rfl (lv_at hl 0 rfl) ?_
        obtain ⟨σ5, hc3, h⟩ := o_b h
        refine g_virt (pc := 36) (st2 := []) (rest := []) C hW hS (c_X9_next (K := K - 1) (by omega) hc3) mw_X9_143 inR0 Er_0 rfl (hRoom (by omega) (by decide)) rfl rfl rfl (Nat.le_of_ble_eq_true rfl) hl.1 dX9_text_36 (fun H locs hW hS => ?_)
        refine lv_aload_n (pc := 39) hx hb dX9_text_39 rfl (lv_at hl 0 rfl) ?_
        refine gf_X9_25 (pc := 40) C hW fl_X9_110 dX9_text_40 ?_
        refine lv_iconst (pc := 43) (v := 3) hx hb dX9_text_43 (by decide) ?_
        refine lv_icmp_ne (pc := 44) (tgt := 59) hx hb dX9_text_44 (by decide) (fun hc5 => ?_) (fun hc5 => ?_)
        · replace h := o_neg hc5 h
          exact w_X9_text_b59 C hK σ5 v2 (f_X9_text_b26  n) (fun σ v1 v2 {H : Heap} {locs : List Loc} {ls : Array Slot}  hW hS hl h => ih σ v1 v2 hW hS hl h) hW hS (lv_sub hl [0, 2] rfl) h
        · replace h := o_pos hc5 h
          refine lv_aload_n (pc := 47) hx hb dX9_text_47 rfl (lv_at hl 0 rfl) ?_
          refine gf_X9_26 (pc := 48) C hW fl_X9_113 dX9_text_48 ?_
          refine lv_iload_n (pc := 51) hx hb dX9_text_51 rfl (lv_at hl 2 rfl) ?_
          refine lv_icmp_ne (pc := 52) (tgt := 59) hx hb dX9_text_52 (by decide) (fun hc6 => ?_) (fun hc6 => ?_)
          · replace h := o_neg hc6 h
            exact w_X9_text_b59 C hK σ5 v2 (f_X9_text_b26  n) (fun σ v1 v2 {H : Heap} {locs : List Loc} {ls : Array Slot}  hW hS hl h => ih σ v1 v2 hW hS hl h) hW hS (lv_sub hl [0, 2] rfl) h
          · replace h := o_pos hc6 h
            refine lv_iconst (pc := 55) (v := 1) hx hb dX9_text_55 (by decide) ?_
            refine lv_goto (pc := 56) (tgt := 60) hx hb dX9_text_56 (by decide) ?_
            exact w_X9_text_b60 C hK σ5 v2 (1 : Int32) (f_X9_text_b26  n) (fun σ v1 v2 {H : Heap} {locs : List Loc} {ls : Array Slot}  hW hS hl h => ih σ v1 v2 hW hS hl h) hW hS (lv_sub hl [0, 2] rfl) h

theorem c_X9_text {K : Nat}  (hK : 4 ≤ K) {σ : Mem} {σf : Mem} {r : Int32} (h : f_X9_text σ = some (r, σf)) : MC l D (Er ac (z + 80)) inR (z + 80) ac (z, aK, aV) (Ar (z + 80)) yX9_text cX9_text 3 (some .int) K [.ref (z + 80 + 0)] σ (some (.int r)) σf := by
  refine MC.of (fun q hq => by have := hq.1; show z ≤ q; omega) (plainFor_of_name (by decide)) (Nat.le_of_ble_eq_true rfl) ?_
  intro p e s m below meth c args C hW ls hl
  replace hl : lv_has ls 3 [(0, .ref (z + 80 + 0))] := hl
  have hS : va_S (Ar (z + 80)) s.heap s.heap [] := va_S.rf
  have hx := C.1.1
  have hb := C.1.2.1
  unfold f_X9_text at h
  refine lv_aload_n (pc := 0) hx hb dX9_text_0 rfl (lv_at hl 0 rfl) ?_
  refine gf_X9_11 (pc := 1) C hW fl_X9_94 dX9_text_1 ?_
  refine lv_bipush (pc := 4) (v := 6) hx hb dX9_text_4 (by decide) ?_
  refine lv_icmp_ne (pc := 6) (tgt := 12) hx hb dX9_text_6 (by decide) (fun hc0 => ?_) (fun hc0 => ?_)
  · replace h := o_neg hc0 h
    refine lv_aload_n (pc := 12) hx hb dX9_text_12 rfl (lv_at hl 0 rfl) ?_
    refine lv_iconst (pc := 13) (v := 0) hx hb dX9_text_13 (by decide) ?_
    refine pf_X9_23 (pc := 14) C hW hS fl_X9_104 dX9_text_14 (fun H locs hW hS => ?_)
    refine lv_aload_n (pc := 17) hx hb dX9_text_17 rfl (lv_at hl 0 rfl) ?_
    refine lv_iconst (pc := 18) (v := 0) hx hb dX9_text_18 (by decide) ?_
    refine pf_X9_31 (pc := 19) C hW hS fl_X9_120 dX9_text_19 (fun H locs hW hS => ?_)
    refine lv_iconst (pc := 22) (v := 1) hx hb dX9_text_22 (by decide) ?_
    refine lv_istore_n (pc := 23) (lv' := [(1, .int (1 : Int32)), (0, .ref (z + 80 + 0))]) hx hb dX9_text_23 rfl hl (by decide) rfl (fun ls hl => ?_)
    refine lv_iconst (pc := 24) (v := 0) hx hb dX9_text_24 (by decide) ?_
    refine lv_istore_n (pc := 25) (lv' := [(2, .int (0 : Int32)), (1, .int (1 : Int32)), (0, .ref (z + 80 + 0))]) hx hb dX9_text_25 rfl hl (by decide) rfl (fun ls hl => ?_)
    exact w_X9_text_b26 C hK FU (ms (ms σ 0 23 (0 : Int32)) 0 31 (0 : Int32)) (1 : Int32) (0 : Int32) hW hS (lv_sub hl [2, 1, 0] rfl) h
  · replace h := o_pos hc0 h
    refine lv_bipush (pc := 9) (v := -4) hx hb dX9_text_9 (by decide) ?_
    exact g_ret (pc := 11) C hW hS rfl dX9_text_11 (congrArg (fun q => some (Value.int q)) (o_r h).1) (o_r h).2

end
