section
variable {p : Program} {l : Launch} {e : Env} {s : State} {m : MethodId} {args : Array Value} {below : List Frame} {meth : Method} {c : Code} {D : va_G} {ac : Nat → ClassId} {z : Nat} {aK aV : Nat → Nat} {K : Nat}

theorem w_X9_fallen_b13 (C : CX cX9_fallen 4 RX9 (some .int) D ac p m c s args meth (z, aK, aV) (Ar (z + 80))) (hK : 3 ≤ K) {r : Int32} {σf : Mem}    : ∀ (n : Nat) (σ : Mem) (v2 : Int32) (v3 : Int32) {H : Heap} {locs : List Loc} {ls : Array Slot} (hW : WR D ac (z + 80) σ H) (hS : va_S (Ar (z + 80)) s.heap H locs) (hl : lv_has ls 4 [(0, .ref (z + 80 + 0)), (2, .int v2), (3, .int v3)]) (h : f_X9_fallen_b13 n σ v2 v3 = some (r, σf)), W p l e (rma K 0 0) s m args below meth c H locs 0 0 (MQ below (QV D (Er ac (z + 80)) inR (z + 80) (some (.int r)) σf (Ar (z + 80))) args s 0 0 (Ar (z + 80))) (F0 m 13 ls []) := by
  have hx := C.1.1
  have hb := C.1.2.1
  intro n
  induction n with
  | zero =>
    intro σ v2 v3 H locs ls  hW hS hl h
    cases h
  | succ n ih =>
    intro σ v2 v3 H locs ls  hW hS hl h
    rw [f_X9_fallen_b13.eq_2] at h
    refine lv_iload_n (pc := 13) hx hb dX9_fallen_13 rfl (lv_at hl 2 rfl) ?_
    refine lv_iload_n (pc := 14) hx hb dX9_fallen_14 rfl (lv_at hl 1 rfl) ?_
    refine lv_icmp_eq (pc := 15) (tgt := 39) hx hb dX9_fallen_15 (by decide) (fun hc2 => ?_) (fun hc2 => ?_)
    · replace h := o_pos hc2 h
      refine lv_iload_n (pc := 39) hx hb dX9_fallen_39 rfl (lv_at hl 1 rfl) ?_
      exact g_ret (pc := 40) C hW hS rfl dX9_fallen_40 (congrArg (fun q => some (Value.int q)) (o_r h).1) (o_r h).2
    · replace h := o_neg hc2 h
      refine lv_iload_n (pc := 18) hx hb dX9_fallen_18 rfl (lv_at hl 2 rfl) ?_
      refine lv_istore_n (pc := 19) (lv' := [(2, .int v3), (0, .ref (z + 80 + 0)), (3, .int v3)]) hx hb dX9_fallen_19 rfl hl (by decide) rfl (fun ls hl => ?_)
      refine lv_aload_n (pc := 20) hx hb dX9_fallen_20 rfl (lv_at hl 1 rfl) ?_
      refine lv_dup (pc := 21) hx hb dX9_fallen_21 rfl ?_
      refine gf_X9_44 (pc := 22) C hW fl_X9_272 dX9_fallen_22 ?_
      refine lv_iconst (pc := 25) (v := 1) hx hb dX9_fallen_25 (by decide) ?_
      refine lv_iadd (pc := 26) hx hb dX9_fallen_26 ?_
      refine pf_X9_44 (pc := 27) C hW hS fl_X9_272 dX9_fallen_27 (fun H locs hW hS => ?_)
      refine lv_aload_n (pc := 30) hx hb dX9_fallen_30 rfl (lv_at hl 1 rfl) ?_
      refine lv_iload_n (pc := 31) hx hb dX9_fallen_31 rfl (lv_at hl 0 rfl) ?_
      obtain ⟨r5, hc3, h⟩ := o_b h
      refine g_virt (pc := 32) (st2 := [.int r5]) (rest := []) C hW hS (c_X9_fallStep (K := K - 1) (by omega) hc3) mw_X9_269 inR0 Er_0 rfl (hRoom (by omega) (by decide)) rfl rfl rfl (Nat.le_of_ble_eq_true rfl) hl.1 dX9_fallen_32 (fun H locs hW hS => ?_)
      refine lv_istore_n (pc := 35) (lv' := [(3, .int r5), (2, .int v3), (0, .ref (z + 80 + 0))]) hx hb dX9_fallen_35 rfl hl (by decide) rfl (fun ls hl => ?_)
      refine lv_goto (pc := 36) (tgt := 13) hx hb dX9_fallen_36 (by decide) ?_
      exact ih (ms σ 0 44 ((σ 0 44) + (1 : Int32))) v3 r5 hW hS (lv_sub hl [2, 1, 0] rfl) h

theorem c_X9_fallen {K : Nat}  (hK : 3 ≤ K) {σ : Mem} {σf : Mem} {v1 : Int32} {r : Int32} (h : f_X9_fallen σ v1 = some (r, σf)) : MC l D (Er ac (z + 80)) inR (z + 80) ac (z, aK, aV) (Ar (z + 80)) yX9_fallen cX9_fallen 4 (some .int) K [.ref (z + 80 + 0), .int v1] σ (some (.int r)) σf := by
  refine MC.of (fun q hq => by have := hq.1; show z ≤ q; omega) (plainFor_of_name (by decide)) (Nat.le_of_ble_eq_true rfl) ?_
  intro p e s m below meth c args C hW ls hl
  replace hl : lv_has ls 4 [(0, .ref (z + 80 + 0)), (1, .int v1)] := hl
  have hS : va_S (Ar (z + 80)) s.heap s.heap [] := va_S.rf
  have hx := C.1.1
  have hb := C.1.2.1
  unfold f_X9_fallen at h
  refine lv_iload_n (pc := 0) hx hb dX9_fallen_0 rfl (lv_at hl 1 rfl) ?_
  refine lv_istore_n (pc := 1) (lv' := [(2, .int v1), (0, .ref (z + 80 + 0)), (1, .int v1)]) hx hb dX9_fallen_1 rfl hl (by decide) rfl (fun ls hl => ?_)
  refine lv_aload_n (pc := 2) hx hb dX9_fallen_2 rfl (lv_at hl 1 rfl) ?_
  refine lv_iload_n (pc := 3) hx hb dX9_fallen_3 rfl (lv_at hl 0 rfl) ?_
  obtain ⟨r2, hc0, h⟩ := o_b h
  refine g_virt (pc := 4) (st2 := [.int r2]) (rest := []) C hW hS (c_X9_fallStep (K := K - 1) (by omega) hc0) mw_X9_269 inR0 Er_0 rfl (hRoom (by omega) (by decide)) rfl rfl rfl (Nat.le_of_ble_eq_true rfl) hl.1 dX9_fallen_4 (fun H locs hW hS => ?_)
  refine lv_istore_n (pc := 7) (lv' := [(3, .int r2), (2, .int v1), (0, .ref (z + 80 + 0)), (1, .int v1)]) hx hb dX9_fallen_7 rfl hl (by decide) rfl (fun ls hl => ?_)
  refine lv_aload_n (pc := 8) hx hb dX9_fallen_8 rfl (lv_at hl 2 rfl) ?_
  refine lv_iconst (pc := 9) (v := 0) hx hb dX9_fallen_9 (by decide) ?_
  refine pf_X9_44 (pc := 10) C hW hS fl_X9_272 dX9_fallen_10 (fun H locs hW hS => ?_)
  exact w_X9_fallen_b13 C hK FU (ms σ 0 44 (0 : Int32)) v1 r2 hW hS (lv_sub hl [2, 1, 0] rfl) h

theorem c_X9_falls {K : Nat}  (hK : 4 ≤ K) {σ : Mem} {σf : Mem} {v1 : Int32} {v2 : Int32} {r : Int32} (h : f_X9_falls σ v1 v2 = some (r, σf)) : MC l D (Er ac (z + 80)) inR (z + 80) ac (z, aK, aV) (Ar (z + 80)) yX9_falls cX9_falls 4 (some .int) K [.ref (z + 80 + 0), .int v1, .int v2] σ (some (.int r)) σf := by
  refine MC.of (fun q hq => by have := hq.1; show z ≤ q; omega) (plainFor_of_name (by decide)) (Nat.le_of_ble_eq_true rfl) ?_
  intro p e s m below meth c args C hW ls hl
  replace hl : lv_has ls 4 [(0, .ref (z + 80 + 0)), (1, .int v1), (2, .int v2)] := hl
  have hS : va_S (Ar (z + 80)) s.heap s.heap [] := va_S.rf
  have hx := C.1.1
  have hb := C.1.2.1
  unfold f_X9_falls at h
  refine lv_iload_n (pc := 0) hx hb dX9_falls_0 rfl (lv_at hl 1 rfl) ?_
  refine lv_iconst (pc := 1) (v := 0) hx hb dX9_falls_1 (by decide) ?_
  refine lv_iconst (pc := 2) (v := 1) hx hb dX9_falls_2 (by decide) ?_
  refine lv_aload_n (pc := 3) hx hb dX9_falls_3 rfl (lv_at hl 0 rfl) ?_
  refine gf_X9_0 (pc := 4) C hW fl_X9_81 dX9_falls_4 ?_
  refine lv_ishl (pc := 7) hx hb dX9_falls_7 ?_
  refine lv_iconst (pc := 8) (v := 1) hx hb dX9_falls_8 (by decide) ?_
  refine lv_isub (pc := 9) hx hb dX9_falls_9 ?_
  refine g_stat (pc := 10) (st2 := [.int (f_X9_in v1 (0 : Int32) (((1 : Int32) <<< ((σ 0 0) &&& 31)) - (1 : Int32)))]) (rest := []) C hW hS (c_X9_in (K := K - 1) (by omega) rfl) mw_X9_84 (hRoom (by omega) (by decide)) rfl rfl rfl (Nat.le_of_ble_eq_true rfl) hl.1 dX9_falls_10 (fun H locs hW hS => ?_)
  refine lv_if_eq (pc := 13) (tgt := 25) hx hb dX9_falls_13 (by decide) (fun hc0 => ?_) (fun hc0 => ?_)
  · replace h := o_pos hc0 h
    refine lv_bipush (pc := 25) (v := -2) hx hb dX9_falls_25 (by decide) ?_
    exact g_ret (pc := 27) C hW hS rfl dX9_falls_27 (congrArg (fun q => some (Value.int q)) (o_r h).1) (o_r h).2
  · replace h := o_neg hc0 h
    refine lv_iload_n (pc := 16) hx hb dX9_falls_16 rfl (lv_at hl 2 rfl) ?_
    refine lv_iconst (pc := 17) (v := 0) hx hb dX9_falls_17 (by decide) ?_
    refine lv_iconst (pc := 18) (v := 1) hx hb dX9_falls_18 (by decide) ?_
    refine g_stat (pc := 19) (st2 := [.int (f_X9_in v2 (0 : Int32) (1 : Int32))]) (rest := []) C hW hS (c_X9_in (K := K - 1) (by omega) rfl) mw_X9_84 (hRoom (by omega) (by decide)) rfl rfl rfl (Nat.le_of_ble_eq_true rfl) hl.1 dX9_falls_19 (fun H locs hW hS => ?_)
    refine lv_if_ne (pc := 22) (tgt := 28) hx hb dX9_falls_22 (by decide) (fun hc1 => ?_) (fun hc1 => ?_)
    · replace h := o_neg hc1 h
      refine lv_aload_n (pc := 28) hx hb dX9_falls_28 rfl (lv_at hl 0 rfl) ?_
      refine lv_iload_n (pc := 29) hx hb dX9_falls_29 rfl (lv_at hl 1 rfl) ?_
      obtain ⟨r4, σ5, hc2, h⟩ := o_b2 h
      refine g_virt (pc := 30) (st2 := [.int r4]) (rest := []) C hW hS (c_X9_fallen (K := K - 1) (by omega) hc2) mw_X9_275 inR0 Er_0 rfl (hRoom (by omega) (by decide)) rfl rfl rfl (Nat.le_of_ble_eq_true rfl) hl.1 dX9_falls_30 (fun H locs hW hS => ?_)
      refine lv_istore_n (pc := 33) (lv' := [(3, .int r4), (0, .ref (z + 80 + 0)), (1, .int v1), (2, .int v2)]) hx hb dX9_falls_33 rfl hl (by decide) rfl (fun ls hl => ?_)
      refine lv_iload_n (pc := 34) hx hb dX9_falls_34 rfl (lv_at hl 3 rfl) ?_
      refine lv_if_ne (pc := 35) (tgt := 42) hx hb dX9_falls_35 (by decide) (fun hc5 => ?_) (fun hc5 => ?_)
      · replace h := o_neg hc5 h
        refine lv_aload_n (pc := 42) hx hb dX9_falls_42 rfl (lv_at hl 1 rfl) ?_
        refine gf_X9_44 (pc := 43) C hW fl_X9_272 dX9_falls_43 ?_
        exact g_ret (pc := 46) C hW hS rfl dX9_falls_46 (congrArg (fun q => some (Value.int q)) (o_r h).1) (o_r h).2
      · replace h := o_pos hc5 h
        refine lv_iload_n (pc := 38) hx hb dX9_falls_38 rfl (lv_at hl 0 rfl) ?_
        refine lv_goto (pc := 39) (tgt := 46) hx hb dX9_falls_39 (by decide) ?_
        exact g_ret (pc := 46) C hW hS rfl dX9_falls_46 (congrArg (fun q => some (Value.int q)) (o_r h).1) (o_r h).2
    · replace h := o_pos hc1 h
      refine lv_bipush (pc := 25) (v := -2) hx hb dX9_falls_25 (by decide) ?_
      exact g_ret (pc := 27) C hW hS rfl dX9_falls_27 (congrArg (fun q => some (Value.int q)) (o_r h).1) (o_r h).2

theorem w_X9_pillar_b66 (C : CX cX9_pillar 6 RX9 (some .int) D ac p m c s args meth (z, aK, aV) (Ar (z + 80))) (hK : 4 ≤ K) {r : Int32} {σf : Mem}   (σ : Mem) (v1 : Int32) (v2 : Int32) (v4 : Int32) (k0 : Int32) (s19 : Mem → Int32 → Int32 → Int32 → Option (Int32 × Mem)) (hs19 : ∀ (σ : Mem) (v2 : Int32) (v3 : Int32) (v4 : Int32) {H : Heap} {locs : List Loc} {ls : Array Slot} (_ : WR D ac (z + 80) σ H) (_ : va_S (Ar (z + 80)) s.heap H locs) (_ : lv_has ls 6 [(0, .ref (z + 80 + 0)), (1, .int v1), (2, .int v2), (3, .int v3), (4, .int v4)]) (_ : s19 σ v2 v3 v4 = some (r, σf)), W p l e (rma K 0 0) s m args below meth c H locs 0 0 (MQ below (QV D (Er ac (z + 80)) inR (z + 80) (some (.int r)) σf (Ar (z + 80))) args s 0 0 (Ar (z + 80))) (F0 m 19 ls [])) {H : Heap} {locs : List Loc} {ls : Array Slot} (hW : WR D ac (z + 80) σ H) (hS : va_S (Ar (z + 80)) s.heap H locs) (hl : lv_has ls 6 [(0, .ref (z + 80 + 0)), (1, .int v1), (2, .int v2), (4, .int v4)]) (h : f_X9_pillar_b66 s19 σ v1 v2 v4 k0 = some (r, σf)) : W p l e (rma K 0 0) s m args below meth c H locs 0 0 (MQ below (QV D (Er ac (z + 80)) inR (z + 80) (some (.int r)) σf (Ar (z + 80))) args s 0 0 (Ar (z + 80))) (F0 m 66 ls [.int k0]) := by
  have hx := C.1.1
  have hb := C.1.2.1
  unfold f_X9_pillar_b66 at h
  refine lv_istore_n (pc := 66) (lv' := [(3, .int k0), (0, .ref (z + 80 + 0)), (1, .int v1), (2, .int v2), (4, .int v4)]) hx hb dX9_pillar_66 rfl hl (by decide) rfl (fun ls hl => ?_)
  refine lv_iinc (pc := 67) (v := (v4 + 1)) (lv' := [(4, .int (v4 + 1)), (3, .int k0), (0, .ref (z + 80 + 0)), (1, .int v1), (2, .int v2)]) hx hb dX9_pillar_67 hl (k := 4) rfl rfl (by decide) rfl (fun ls hl => ?_)
  refine lv_goto (pc := 70) (tgt := 19) hx hb dX9_pillar_70 (by decide) ?_
  exact hs19 σ v2 k0 (v4 + 1) hW hS (lv_sub hl [2, 3, 4, 1, 0] rfl) h

theorem w_X9_pillar_b53 (C : CX cX9_pillar 6 RX9 (some .int) D ac p m c s args meth (z, aK, aV) (Ar (z + 80))) (hK : 4 ≤ K) {r : Int32} {σf : Mem}   (σ : Mem) (v1 : Int32) (v3 : Int32) (v4 : Int32) (v5 : Int32) (k0 : Int32) (s19 : Mem → Int32 → Int32 → Int32 → Option (Int32 × Mem)) (hs19 : ∀ (σ : Mem) (v2 : Int32) (v3 : Int32) (v4 : Int32) {H : Heap} {locs : List Loc} {ls : Array Slot} (_ : WR D ac (z + 80) σ H) (_ : va_S (Ar (z + 80)) s.heap H locs) (_ : lv_has ls 6 [(0, .ref (z + 80 + 0)), (1, .int v1), (2, .int v2), (3, .int v3), (4, .int v4)]) (_ : s19 σ v2 v3 v4 = some (r, σf)), W p l e (rma K 0 0) s m args below meth c H locs 0 0 (MQ below (QV D (Er ac (z + 80)) inR (z + 80) (some (.int r)) σf (Ar (z + 80))) args s 0 0 (Ar (z + 80))) (F0 m 19 ls [])) {H : Heap} {locs : List Loc} {ls : Array Slot} (hW : WR D ac (z + 80) σ H) (hS : va_S (Ar (z + 80)) s.heap H locs) (hl : lv_has ls 6 [(0, .ref (z + 80 + 0)), (1, .int v1), (3, .int v3), (4, .int v4), (5, .int v5)]) (h : f_X9_pillar_b53 s19 σ v1 v3 v4 v5 k0 = some (r, σf)) : W p l e (rma K 0 0) s m args below meth c H locs 0 0 (MQ below (QV D (Er ac (z + 80)) inR (z + 80) (some (.int r)) σf (Ar (z + 80))) args s 0 0 (Ar (z + 80))) (F0 m 53 ls [.int k0]) := by
  have hx := C.1.1
  have hb := C.1.2.1
  unfold f_X9_pillar_b53 at h
  refine lv_istore_n (pc := 53) (lv' := [(2, .int k0), (0, .ref (z + 80 + 0)), (1, .int v1), (3, .int v3), (4, .int v4), (5, .int v5)]) hx hb dX9_pillar_53 rfl hl (by decide) rfl (fun ls hl => ?_)
  refine lv_iload (pc := 54) hx hb dX9_pillar_54 (lv_at hl 5 rfl) ?_
  refine lv_iload_n (pc := 56) hx hb dX9_pillar_56 rfl (lv_at hl 3 rfl) ?_
  refine lv_icmp_le (pc := 57) (tgt := 65) hx hb dX9_pillar_57 (by decide) (fun hc9 => ?_) (fun hc9 => ?_)
  · replace h := o_pos hc9 h
    refine lv_iload_n (pc := 65) hx hb dX9_pillar_65 rfl (lv_at hl 3 rfl) ?_
    exact w_X9_pillar_b66 C hK σ v1 k0 v4 v3 s19 hs19 hW hS (lv_sub hl [1, 2, 0, 4] rfl) h
  · replace h := o_neg hc9 h
    refine lv_iload (pc := 60) hx hb dX9_pillar_60 (lv_at hl 5 rfl) ?_
    refine lv_goto (pc := 62) (tgt := 66) hx hb dX9_pillar_62 (by decide) ?_
    exact w_X9_pillar_b66 C hK σ v1 k0 v4 v5 s19 hs19 hW hS (lv_sub hl [1, 2, 0, 4] rfl) h

theorem w_X9_pillar_b19 (C : CX cX9_pillar 6 RX9 (some .int) D ac p m c s args meth (z, aK, aV) (Ar (z + 80))) (hK : 4 ≤ K) {r : Int32} {σf : Mem}   (v1 : Int32)  : ∀ (n : Nat) (σ : Mem) (v2 : Int32) (v3 : Int32) (v4 : Int32) {H : Heap} {locs : List Loc} {ls : Array Slot} (hW : WR D ac (z + 80) σ H) (hS : va_S (Ar (z + 80)) s.heap H locs) (hl : lv_has ls 6 [(0, .ref (z + 80 + 0)), (1, .int v1), (2, .int v2), (3, .int v3), (4, .int v4)]) (h : f_X9_pillar_b19 v1 n σ v2 v3 v4 = some (r, σf)), W p l e (rma K 0 0) s m args below meth c H locs 0 0 (MQ below (QV D (Er ac (z + 80)) inR (z + 80) (some (.int r)) σf (Ar (z + 80))) args s 0 0 (Ar (z + 80))) (F0 m 19 ls []) := by
  have hx := C.1.1
  have hb := C.1.2.1
  intro n
  induction n with
  | zero =>
    intro σ v2 v3 v4 H locs ls  hW hS hl h
    cases h
  | succ n ih =>
    intro σ v2 v3 v4 H locs ls  hW hS hl h
    rw [f_X9_pillar_b19.eq_2] at h
    refine lv_iload (pc := 19) hx hb dX9_pillar_19 (lv_at hl 4 rfl) ?_
    refine lv_aload_n (pc := 21) hx hb dX9_pillar_21 rfl (lv_at hl 0 rfl) ?_
    refine gf_X9_0 (pc := 22) C hW fl_X9_81 dX9_pillar_22 ?_
    refine lv_icmp_ge (pc := 25) (tgt := 73) hx hb dX9_pillar_25 (by decide) (fun hc1 => ?_) (fun hc1 => ?_)
    · replace h := o_pos hc1 h
      refine lv_iload_n (pc := 73) hx hb dX9_pillar_73 rfl (lv_at hl 1 rfl) ?_
      refine lv_if_ne (pc := 74) (tgt := 81) hx hb dX9_pillar_74 (by decide) (fun hc2 => ?_) (fun hc2 => ?_)
      · replace h := o_neg hc2 h
        refine lv_iload_n (pc := 81) hx hb dX9_pillar_81 rfl (lv_at hl 3 rfl) ?_
        exact g_ret (pc := 82) C hW hS rfl dX9_pillar_82 (congrArg (fun q => some (Value.int q)) (o_r h).1) (o_r h).2
      · replace h := o_pos hc2 h
        refine lv_iload_n (pc := 77) hx hb dX9_pillar_77 rfl (lv_at hl 2 rfl) ?_
        refine lv_goto (pc := 78) (tgt := 82) hx hb dX9_pillar_78 (by decide) ?_
        exact g_ret (pc := 82) C hW hS rfl dX9_pillar_82 (congrArg (fun q => some (Value.int q)) (o_r h).1) (o_r h).2
    · replace h := o_neg hc1 h
      refine lv_aload_n (pc := 28) hx hb dX9_pillar_28 rfl (lv_at hl 0 rfl) ?_
      refine lv_iconst (pc := 29) (v := 1) hx hb dX9_pillar_29 (by decide) ?_
      refine lv_iload (pc := 30) hx hb dX9_pillar_30 (lv_at hl 4 rfl) ?_
      refine lv_ishl (pc := 32) hx hb dX9_pillar_32 ?_
      obtain ⟨r5, σ6, hc3, h⟩ := o_b2 h
      refine g_virt (pc := 33) (st2 := [.int r5]) (rest := []) C hW hS (c_X9_fallen (K := K - 1) (by omega) hc3) mw_X9_275 inR0 Er_0 rfl (hRoom (by omega) (by decide)) rfl rfl rfl (Nat.le_of_ble_eq_true rfl) hl.1 dX9_pillar_33 (fun H locs hW hS => ?_)
      obtain ⟨r8, hc6, h⟩ := o_b h
      refine g_stat (pc := 36) (st2 := [.int r8]) (rest := []) C hW hS (c_X9_ones (K := K - 1) (by omega) hc6) mw_X9_278 (hRoom (by omega) (by decide)) rfl rfl rfl (Nat.le_of_ble_eq_true rfl) hl.1 dX9_pillar_36 (fun H locs hW hS => ?_)
      refine lv_istore (pc := 39) (lv' := [(5, .int r8), (0, .ref (z + 80 + 0)), (1, .int v1), (2, .int v2), (3, .int v3), (4, .int v4)]) hx hb dX9_pillar_39 hl (by decide) rfl (fun ls hl => ?_)
      refine lv_iload (pc := 41) hx hb dX9_pillar_41 (lv_at hl 0 rfl) ?_
      refine lv_iload_n (pc := 43) hx hb dX9_pillar_43 rfl (lv_at hl 4 rfl) ?_
      refine lv_icmp_le (pc := 44) (tgt := 52) hx hb dX9_pillar_44 (by decide) (fun hc8 => ?_) (fun hc8 => ?_)
      · replace h := o_pos hc8 h
        refine lv_iload_n (pc := 52) hx hb dX9_pillar_52 rfl (lv_at hl 3 rfl) ?_
        exact w_X9_pillar_b53 C hK σ6 v1 v3 v4 r8 v2 (f_X9_pillar_b19 v1 n) (fun σ v2 v3 v4 {H : Heap} {locs : List Loc} {ls : Array Slot}  hW hS hl h => ih σ v2 v3 v4 hW hS hl h) hW hS (lv_sub hl [1, 2, 4, 5, 0] rfl) h
      · replace h := o_neg hc8 h
        refine lv_iload (pc := 47) hx hb dX9_pillar_47 (lv_at hl 5 rfl) ?_
        refine lv_goto (pc := 49) (tgt := 53) hx hb dX9_pillar_49 (by decide) ?_
        exact w_X9_pillar_b53 C hK σ6 v1 v3 v4 r8 v4 (f_X9_pillar_b19 v1 n) (fun σ v2 v3 v4 {H : Heap} {locs : List Loc} {ls : Array Slot}  hW hS hl h => ih σ v2 v3 v4 hW hS hl h) hW hS (lv_sub hl [1, 2, 4, 5, 0] rfl) h

theorem c_X9_pillar {K : Nat}  (hK : 4 ≤ K) {σ : Mem} {σf : Mem} {v1 : Int32} {r : Int32} (h : f_X9_pillar σ v1 = some (r, σf)) : MC l D (Er ac (z + 80)) inR (z + 80) ac (z, aK, aV) (Ar (z + 80)) yX9_pillar cX9_pillar 6 (some .int) K [.ref (z + 80 + 0), .int v1] σ (some (.int r)) σf := by
  refine MC.of (fun q hq => by have := hq.1; show z ≤ q; omega) (plainFor_of_name (by decide)) (Nat.le_of_ble_eq_true rfl) ?_
  intro p e s m below meth c args C hW ls hl
  replace hl : lv_has ls 6 [(0, .ref (z + 80 + 0)), (1, .int v1)] := hl
  have hS : va_S (Ar (z + 80)) s.heap s.heap [] := va_S.rf
  have hx := C.1.1
  have hb := C.1.2.1
  unfold f_X9_pillar at h
  refine lv_iload_n (pc := 0) hx hb dX9_pillar_0 rfl (lv_at hl 1 rfl) ?_
  refine lv_iconst (pc := 1) (v := 0) hx hb dX9_pillar_1 (by decide) ?_
  refine lv_iconst (pc := 2) (v := 1) hx hb dX9_pillar_2 (by decide) ?_
  refine g_stat (pc := 3) (st2 := [.int (f_X9_in v1 (0 : Int32) (1 : Int32))]) (rest := []) C hW hS (c_X9_in (K := K - 1) (by omega) rfl) mw_X9_84 (hRoom (by omega) (by decide)) rfl rfl rfl (Nat.le_of_ble_eq_true rfl) hl.1 dX9_pillar_3 (fun H locs hW hS => ?_)
  refine lv_if_ne (pc := 6) (tgt := 12) hx hb dX9_pillar_6 (by decide) (fun hc0 => ?_) (fun hc0 => ?_)
  · replace h := o_neg hc0 h
    refine lv_iconst (pc := 12) (v := -1) hx hb dX9_pillar_12 (by decide) ?_
    refine lv_istore_n (pc := 13) (lv' := [(2, .int (-1 : Int32)), (0, .ref (z + 80 + 0)), (1, .int v1)]) hx hb dX9_pillar_13 rfl hl (by decide) rfl (fun ls hl => ?_)
    refine lv_iconst (pc := 14) (v := -1) hx hb dX9_pillar_14 (by decide) ?_
    refine lv_istore_n (pc := 15) (lv' := [(3, .int (-1 : Int32)), (2, .int (-1 : Int32)), (0, .ref (z + 80 + 0)), (1, .int v1)]) hx hb dX9_pillar_15 rfl hl (by decide) rfl (fun ls hl => ?_)
    refine lv_iconst (pc := 16) (v := 0) hx hb dX9_pillar_16 (by decide) ?_
    refine lv_istore (pc := 17) (lv' := [(4, .int (0 : Int32)), (3, .int (-1 : Int32)), (2, .int (-1 : Int32)), (0, .ref (z + 80 + 0)), (1, .int v1)]) hx hb dX9_pillar_17 hl (by decide) rfl (fun ls hl => ?_)
    exact w_X9_pillar_b19 C hK v1 FU σ (-1 : Int32) (-1 : Int32) (0 : Int32) hW hS (lv_sub hl [3, 4, 2, 1, 0] rfl) h
  · replace h := o_pos hc0 h
    refine lv_bipush (pc := 9) (v := -2) hx hb dX9_pillar_9 (by decide) ?_
    exact g_ret (pc := 11) C hW hS rfl dX9_pillar_11 (congrArg (fun q => some (Value.int q)) (o_r h).1) (o_r h).2

theorem w_X9_tells_b12 (C : CX cX9_tells 5 RX9 (some .boolean) D ac p m c s args meth (z, aK, aV) (Ar (z + 80))) (hK : 1 ≤ K) {r : Int32} {σf : Mem}    : ∀ (n : Nat) (σ : Mem) (v2 : Int32) (v3 : Int32) (v4 : Int32) {H : Heap} {locs : List Loc} {ls : Array Slot} (hW : WR D ac (z + 80) σ H) (hS : va_S (Ar (z + 80)) s.heap H locs) (hl : lv_has ls 5 [(0, .ref (z + 80 + 0)), (2, .int v2), (3, .int v3), (4, .int v4)]) (h : f_X9_tells_b12 n σ v2 v3 v4 = some (r, σf)), W p l e (rma K 0 0) s m args below meth c H locs 0 0 (MQ below (QV D (Er ac (z + 80)) inR (z + 80) (some (.int r)) σf (Ar (z + 80))) args s 0 0 (Ar (z + 80))) (F0 m 12 ls []) := by
  have hx := C.1.1
  have hb := C.1.2.1
  intro n
  induction n with
  | zero =>
    intro σ v2 v3 v4 H locs ls  hW hS hl h
    cases h
  | succ n ih =>
    intro σ v2 v3 v4 H locs ls  hW hS hl h
    rw [f_X9_tells_b12.eq_2] at h
    refine lv_iload (pc := 12) hx hb dX9_tells_12 (lv_at hl 3 rfl) ?_
    refine lv_if_lt (pc := 14) (tgt := 67) hx hb dX9_tells_14 (by decide) (fun hc0 => ?_) (fun hc0 => ?_)
    · replace h := o_pos hc0 h
      refine lv_iload_n (pc := 67) hx hb dX9_tells_67 rfl (lv_at hl 2 rfl) ?_
      refine lv_iconst (pc := 68) (v := 1) hx hb dX9_tells_68 (by decide) ?_
      refine lv_aload_n (pc := 69) hx hb dX9_tells_69 rfl (lv_at hl 0 rfl) ?_
      refine gf_X9_46 (pc := 70) C hW fl_X9_281 dX9_tells_70 ?_
      refine lv_ishl (pc := 73) hx hb dX9_tells_73 ?_
      refine lv_iconst (pc := 74) (v := 1) hx hb dX9_tells_74 (by decide) ?_
      refine lv_isub (pc := 75) hx hb dX9_tells_75 ?_
      refine lv_icmp_ne (pc := 76) (tgt := 83) hx hb dX9_tells_76 (by decide) (fun hc1 => ?_) (fun hc1 => ?_)
      · replace h := o_neg hc1 h
        refine lv_iconst (pc := 83) (v := 0) hx hb dX9_tells_83 (by decide) ?_
        exact g_ret (pc := 84) C hW hS rfl dX9_tells_84 (congrArg (fun q => some (Value.int q)) (o_r h).1) (o_r h).2
      · replace h := o_pos hc1 h
        refine lv_iconst (pc := 79) (v := 1) hx hb dX9_tells_79 (by decide) ?_
        refine lv_goto (pc := 80) (tgt := 84) hx hb dX9_tells_80 (by decide) ?_
        exact g_ret (pc := 84) C hW hS rfl dX9_tells_84 (congrArg (fun q => some (Value.int q)) (o_r h).1) (o_r h).2
    · replace h := o_neg hc0 h
      refine lv_aload_n (pc := 17) hx hb dX9_tells_17 rfl (lv_at hl 0 rfl) ?_
      refine gf_X9_47 (pc := 18) C hW fl_X9_70 dX9_tells_18 ?_
      refine lv_iload (pc := 21) hx hb dX9_tells_21 (lv_at hl 3 rfl) ?_
      refine lv_iload_n (pc := 23) hx hb dX9_tells_23 rfl (lv_at hl 1 rfl) ?_
      refine lv_aload_n (pc := 24) hx hb dX9_tells_24 rfl (lv_at hl 0 rfl) ?_
      refine gf_X9_46 (pc := 25) C hW fl_X9_281 dX9_tells_25 ?_
      refine lv_iconst (pc := 28) (v := 1) hx hb dX9_tells_28 (by decide) ?_
      refine lv_bipush (pc := 29) (v := 6) hx hb dX9_tells_29 (by decide) ?_
      refine g_stat (pc := 31) (st2 := [.int (f_X9_within (σ 0 46) (1 : Int32) (6 : Int32)), .int v2, .int v4, .ref (z + 80 + 21)]) (rest := [.int v2, .int v4, .ref (z + 80 + 21)]) C hW hS (c_X9_within (K := K - 1) (by omega) rfl) mw_X9_173 (hRoom (by omega) (by decide)) rfl rfl rfl (Nat.le_of_ble_eq_true rfl) hl.1 dX9_tells_31 (fun H locs hW hS => ?_)
      obtain ⟨hc2, h⟩ := o_chk h
      refine lv_irem (pc := 34) hx hb dX9_tells_34 hc2 ?_
      obtain ⟨hc3, h⟩ := o_chk h
      refine ir_st (pc := 35) (k := 21) C hW hS (by decide) (by decide) rfl rfl (inb_in hc3) dX9_tells_35 (fun H locs hW hS => ?_)
      obtain ⟨σ5, hσ5, h⟩ := o_d h
      replace hW : WR D ac (z + 80) σ5 H := by rw [← hσ5]; exact hW
      refine lv_iload_n (pc := 36) hx hb dX9_tells_36 rfl (lv_at hl 1 rfl) ?_
      refine lv_aload_n (pc := 37) hx hb dX9_tells_37 rfl (lv_at hl 0 rfl) ?_
      refine gf_X9_46 (pc := 38) C hW fl_X9_281 dX9_tells_38 ?_
      refine lv_iconst (pc := 41) (v := 1) hx hb dX9_tells_41 (by decide) ?_
      refine lv_bipush (pc := 42) (v := 6) hx hb dX9_tells_42 (by decide) ?_
      refine g_stat (pc := 44) (st2 := [.int (f_X9_within (σ5 0 46) (1 : Int32) (6 : Int32)), .int v2]) (rest := [.int v2]) C hW hS (c_X9_within (K := K - 1) (by omega) rfl) mw_X9_173 (hRoom (by omega) (by decide)) rfl rfl rfl (Nat.le_of_ble_eq_true rfl) hl.1 dX9_tells_44 (fun H locs hW hS => ?_)
      obtain ⟨hc5, h⟩ := o_chk h
      refine lv_idiv (pc := 47) hx hb dX9_tells_47 hc5 ?_
      obtain ⟨x7, hxx7, h⟩ := o_d h
      refine g_top hxx7 ?_
      refine lv_istore_n (pc := 48) (lv' := [(2, .int x7), (0, .ref (z + 80 + 0)), (3, .int v3), (4, .int v4)]) hx hb dX9_tells_48 rfl hl (by decide) rfl (fun ls hl => ?_)
      refine lv_iload_n (pc := 49) hx hb dX9_tells_49 rfl (lv_at hl 2 rfl) ?_
      refine lv_iconst (pc := 50) (v := 1) hx hb dX9_tells_50 (by decide) ?_
      refine lv_aload_n (pc := 51) hx hb dX9_tells_51 rfl (lv_at hl 1 rfl) ?_
      refine gf_X9_47 (pc := 52) C hW fl_X9_70 dX9_tells_52 ?_
      refine lv_iload (pc := 55) hx hb dX9_tells_55 (lv_at hl 3 rfl) ?_
      obtain ⟨hc7, h⟩ := o_chk h
      refine ir_ld (pc := 57) (k := 21) C hW (by decide) (by decide) rfl rfl (inb_in hc7) dX9_tells_57 ?_
      refine lv_ishl (pc := 58) hx hb dX9_tells_58 ?_
      refine lv_ior (pc := 59) hx hb dX9_tells_59 ?_
      obtain ⟨x9, hxx9, h⟩ := o_d h
      refine g_top hxx9 ?_
      refine lv_istore_n (pc := 60) (lv' := [(3, .int x9), (2, .int x7), (0, .ref (z + 80 + 0)), (4, .int v4)]) hx hb dX9_tells_60 rfl hl (by decide) rfl (fun ls hl => ?_)
      refine lv_iinc (pc := 61) (v := (v4 + (-1))) (lv' := [(4, .int (v4 + (-1))), (3, .int x9), (2, .int x7), (0, .ref (z + 80 + 0))]) hx hb dX9_tells_61 hl (k := 3) rfl rfl (by decide) rfl (fun ls hl => ?_)
      refine lv_goto (pc := 64) (tgt := 12) hx hb dX9_tells_64 (by decide) ?_
      exact ih σ5 x7 x9 (v4 + (-1)) hW hS (lv_sub hl [3, 2, 1, 0] rfl) h

theorem c_X9_tells {K : Nat}  (hK : 1 ≤ K) {σ : Mem} {σf : Mem} {v1 : Int32} {r : Int32} (h : f_X9_tells σ v1 = some (r, σf)) : MC l D (Er ac (z + 80)) inR (z + 80) ac (z, aK, aV) (Ar (z + 80)) yX9_tells cX9_tells 5 (some .boolean) K [.ref (z + 80 + 0), .int v1] σ (some (.int r)) σf := by
  refine MC.of (fun q hq => by have := hq.1; show z ≤ q; omega) (plainFor_of_name (by decide)) (Nat.le_of_ble_eq_true rfl) ?_
  intro p e s m below meth c args C hW ls hl
  replace hl : lv_has ls 5 [(0, .ref (z + 80 + 0)), (1, .int v1)] := hl
  have hS : va_S (Ar (z + 80)) s.heap s.heap [] := va_S.rf
  have hx := C.1.1
  have hb := C.1.2.1
  unfold f_X9_tells at h
  refine lv_iload_n (pc := 0) hx hb dX9_tells_0 rfl (lv_at hl 1 rfl) ?_
  refine lv_istore_n (pc := 1) (lv' := [(2, .int v1), (0, .ref (z + 80 + 0)), (1, .int v1)]) hx hb dX9_tells_1 rfl hl (by decide) rfl (fun ls hl => ?_)
  refine lv_iconst (pc := 2) (v := 0) hx hb dX9_tells_2 (by decide) ?_
  refine lv_istore_n (pc := 3) (lv' := [(3, .int (0 : Int32)), (2, .int v1), (0, .ref (z + 80 + 0)), (1, .int v1)]) hx hb dX9_tells_3 rfl hl (by decide) rfl (fun ls hl => ?_)
  refine lv_aload_n (pc := 4) hx hb dX9_tells_4 rfl (lv_at hl 2 rfl) ?_
  refine gf_X9_46 (pc := 5) C hW fl_X9_281 dX9_tells_5 ?_
  refine lv_iconst (pc := 8) (v := 1) hx hb dX9_tells_8 (by decide) ?_
  refine lv_isub (pc := 9) hx hb dX9_tells_9 ?_
  refine lv_istore (pc := 10) (lv' := [(4, .int ((σ 0 46) - (1 : Int32))), (3, .int (0 : Int32)), (2, .int v1), (0, .ref (z + 80 + 0)), (1, .int v1)]) hx hb dX9_tells_10 hl (by decide) rfl (fun ls hl => ?_)
  exact w_X9_tells_b12 C hK FU σ v1 (0 : Int32) ((σ 0 46) - (1 : Int32)) hW hS (lv_sub hl [3, 2, 1, 0] rfl) h

theorem w_X9_waits_b52 (C : CX cX9_waits 6 RX9 (some .int) D ac p m c s args meth (z, aK, aV) (Ar (z + 80))) (hK : 3 ≤ K) {r : Int32} {σf : Mem}   (σ : Mem) (v1 : Int32) (v2 : Int32) (v4 : Int32) (v5 : Int32) (k0 : Int32) (k1 : Int32) (s7 : Mem → Int32 → Int32 → Int32 → Option (Int32 × Mem)) (hs7 : ∀ (σ : Mem) (v2 : Int32) (v3 : Int32) (v4 : Int32) {H : Heap} {locs : List Loc} {ls : Array Slot} (_ : WR D ac (z + 80) σ H) (_ : va_S (Ar (z + 80)) s.heap H locs) (_ : lv_has ls 6 [(0, .ref (z + 80 + 0)), (1, .int v1), (2, .int v2), (3, .int v3), (4, .int v4)]) (_ : s7 σ v2 v3 v4 = some (r, σf)), W p l e (rma K 0 0) s m args below meth c H locs 0 0 (MQ below (QV D (Er ac (z + 80)) inR (z + 80) (some (.int r)) σf (Ar (z + 80))) args s 0 0 (Ar (z + 80))) (F0 m 7 ls [])) {H : Heap} {locs : List Loc} {ls : Array Slot} (hW : WR D ac (z + 80) σ H) (hS : va_S (Ar (z + 80)) s.heap H locs) (hl : lv_has ls 6 [(0, .ref (z + 80 + 0)), (1, .int v1), (2, .int v2), (4, .int v4), (5, .int v5)]) (h : f_X9_waits_b52 s7 σ v1 v2 v4 v5 k0 k1 = some (r, σf)) : W p l e (rma K 0 0) s m args below meth c H locs 0 0 (MQ below (QV D (Er ac (z + 80)) inR (z + 80) (some (.int r)) σf (Ar (z + 80))) args s 0 0 (Ar (z + 80))) (F0 m 52 ls [.int k1, .int k0]) := by
  have hx := C.1.1
  have hb := C.1.2.1
  unfold f_X9_waits_b52 at h
  refine lv_iadd (pc := 52) hx hb dX9_waits_52 ?_
  refine lv_istore_n (pc := 53) (lv' := [(3, .int (k0 + k1)), (0, .ref (z + 80 + 0)), (1, .int v1), (2, .int v2), (4, .int v4), (5, .int v5)]) hx hb dX9_waits_53 rfl hl (by decide) rfl (fun ls hl => ?_)
  refine lv_iload_n (pc := 54) hx hb dX9_waits_54 rfl (lv_at hl 3 rfl) ?_
  refine lv_aload_n (pc := 55) hx hb dX9_waits_55 rfl (lv_at hl 1 rfl) ?_
  refine lv_iconst (pc := 56) (v := 1) hx hb dX9_waits_56 (by decide) ?_
  refine lv_iload (pc := 57) hx hb dX9_waits_57 (lv_at hl 5 rfl) ?_
  refine lv_aload_n (pc := 59) hx hb dX9_waits_59 rfl (lv_at hl 1 rfl) ?_
  refine gf_X9_6 (pc := 60) C hW fl_X9_91 dX9_waits_60 ?_
  obtain ⟨r8, σ9, hc6, h⟩ := o_b2 h
  refine g_virt (pc := 63) (st2 := [.int r8, .int v2]) (rest := [.int v2]) C hW hS (c_X9_asksOf (K := K - 1) (by omega) hc6) mw_X9_179 inR0 Er_0 rfl (hRoom (by omega) (by decide)) rfl rfl rfl (Nat.le_of_ble_eq_true rfl) hl.1 dX9_waits_63 (fun H locs hW hS => ?_)
  refine lv_iconst (pc := 66) (v := 1) hx hb dX9_waits_66 (by decide) ?_
  refine lv_iadd (pc := 67) hx hb dX9_waits_67 ?_
  refine lv_iadd (pc := 68) hx hb dX9_waits_68 ?_
  refine lv_istore_n (pc := 69) (lv' := [(2, .int (v2 + (r8 + (1 : Int32)))), (3, .int (k0 + k1)), (0, .ref (z + 80 + 0)), (1, .int v1), (4, .int v4), (5, .int v5)]) hx hb dX9_waits_69 rfl hl (by decide) rfl (fun ls hl => ?_)
  refine lv_iinc (pc := 70) (v := (v4 + 1)) (lv' := [(4, .int (v4 + 1)), (2, .int (v2 + (r8 + (1 : Int32)))), (3, .int (k0 + k1)), (0, .ref (z + 80 + 0)), (1, .int v1), (5, .int v5)]) hx hb dX9_waits_70 hl (k := 4) rfl rfl (by decide) rfl (fun ls hl => ?_)
  refine lv_goto (pc := 73) (tgt := 7) hx hb dX9_waits_73 (by decide) ?_
  exact hs7 σ9 (v2 + (r8 + (1 : Int32))) (k0 + k1) (v4 + 1) hW hS (lv_sub hl [3, 4, 1, 2, 0] rfl) h

theorem w_X9_waits_b7 (C : CX cX9_waits 6 RX9 (some .int) D ac p m c s args meth (z, aK, aV) (Ar (z + 80))) (hK : 3 ≤ K) {r : Int32} {σf : Mem}   (v1 : Int32)  : ∀ (n : Nat) (σ : Mem) (v2 : Int32) (v3 : Int32) (v4 : Int32) {H : Heap} {locs : List Loc} {ls : Array Slot} (hW : WR D ac (z + 80) σ H) (hS : va_S (Ar (z + 80)) s.heap H locs) (hl : lv_has ls 6 [(0, .ref (z + 80 + 0)), (1, .int v1), (2, .int v2), (3, .int v3), (4, .int v4)]) (h : f_X9_waits_b7 v1 n σ v2 v3 v4 = some (r, σf)), W p l e (rma K 0 0) s m args below meth c H locs 0 0 (MQ below (QV D (Er ac (z + 80)) inR (z + 80) (some (.int r)) σf (Ar (z + 80))) args s 0 0 (Ar (z + 80))) (F0 m 7 ls []) := by
  have hx := C.1.1
  have hb := C.1.2.1
  intro n
  induction n with
  | zero =>
    intro σ v2 v3 v4 H locs ls  hW hS hl h
    cases h
  | succ n ih =>
    intro σ v2 v3 v4 H locs ls  hW hS hl h
    rw [f_X9_waits_b7.eq_2] at h
    refine lv_iload (pc := 7) hx hb dX9_waits_7 (lv_at hl 4 rfl) ?_
    refine lv_aload_n (pc := 9) hx hb dX9_waits_9 rfl (lv_at hl 0 rfl) ?_
    refine gf_X9_46 (pc := 10) C hW fl_X9_281 dX9_waits_10 ?_
    refine lv_icmp_ge (pc := 13) (tgt := 76) hx hb dX9_waits_13 (by decide) (fun hc0 => ?_) (fun hc0 => ?_)
    · replace h := o_pos hc0 h
      refine lv_iload_n (pc := 76) hx hb dX9_waits_76 rfl (lv_at hl 3 rfl) ?_
      exact g_ret (pc := 77) C hW hS rfl dX9_waits_77 (congrArg (fun q => some (Value.int q)) (o_r h).1) (o_r h).2
    · replace h := o_neg hc0 h
      refine lv_aload_n (pc := 16) hx hb dX9_waits_16 rfl (lv_at hl 0 rfl) ?_
      refine gf_X9_45 (pc := 17) C hW fl_X9_67 dX9_waits_17 ?_
      refine lv_aload_n (pc := 20) hx hb dX9_waits_20 rfl (lv_at hl 0 rfl) ?_
      refine gf_X9_47 (pc := 21) C hW fl_X9_70 dX9_waits_21 ?_
      refine lv_iload (pc := 24) hx hb dX9_waits_24 (lv_at hl 4 rfl) ?_
      obtain ⟨hc1, h⟩ := o_chk h
      refine ir_ld (pc := 26) (k := 21) C hW (by decide) (by decide) rfl rfl (inb_in hc1) dX9_waits_26 ?_
      obtain ⟨hc2, h⟩ := o_chk h
      refine ir_ld (pc := 27) (k := 20) C hW (by decide) (by decide) rfl rfl (inb_in hc2) dX9_waits_27 ?_
      obtain ⟨x4, hxx4, h⟩ := o_d h
      refine g_top hxx4 ?_
      refine lv_istore (pc := 28) (lv' := [(5, .int x4), (0, .ref (z + 80 + 0)), (1, .int v1), (2, .int v2), (3, .int v3), (4, .int v4)]) hx hb dX9_waits_28 hl (by decide) rfl (fun ls hl => ?_)
      refine lv_iload_n (pc := 30) hx hb dX9_waits_30 rfl (lv_at hl 4 rfl) ?_
      refine lv_iload_n (pc := 31) hx hb dX9_waits_31 rfl (lv_at hl 2 rfl) ?_
      refine lv_if_ne (pc := 32) (tgt := 39) hx hb dX9_waits_32 (by decide) (fun hc4 => ?_) (fun hc4 => ?_)
      · replace h := o_neg hc4 h
        refine lv_iload_n (pc := 39) hx hb dX9_waits_39 rfl (lv_at hl 3 rfl) ?_
        refine lv_aload_n (pc := 40) hx hb dX9_waits_40 rfl (lv_at hl 1 rfl) ?_
        refine gf_X9_3 (pc := 41) C hW fl_X9_16 dX9_waits_41 ?_
        refine lv_iconst (pc := 44) (v := 4) hx hb dX9_waits_44 (by decide) ?_
        refine lv_iload (pc := 45) hx hb dX9_waits_45 (lv_at hl 0 rfl) ?_
        refine lv_imul (pc := 47) hx hb dX9_waits_47 ?_
        refine lv_iconst (pc := 48) (v := 2) hx hb dX9_waits_48 (by decide) ?_
        refine lv_iadd (pc := 49) hx hb dX9_waits_49 ?_
        obtain ⟨hc5, h⟩ := o_chk h
        refine ir_ld (pc := 50) (k := 3) C hW (by decide) (by decide) rfl rfl (inb_in hc5) dX9_waits_50 ?_
        refine lv_imul (pc := 51) hx hb dX9_waits_51 ?_
        exact w_X9_waits_b52 C hK σ v1 v2 v4 x4 v3 (v2 * (σ 3 ((((4 : Int32) * x4) + (2 : Int32)).toNatClampNeg))) (f_X9_waits_b7 v1 n) (fun σ v2 v3 v4 {H : Heap} {locs : List Loc} {ls : Array Slot}  hW hS hl h => ih σ v2 v3 v4 hW hS hl h) hW hS (lv_sub hl [1, 2, 3, 5, 0] rfl) h
      · replace h := o_pos hc4 h
        refine lv_iload_n (pc := 35) hx hb dX9_waits_35 rfl (lv_at hl 3 rfl) ?_
        refine lv_goto (pc := 36) (tgt := 52) hx hb dX9_waits_36 (by decide) ?_
        exact w_X9_waits_b52 C hK σ v1 v2 v4 x4 v3 v2 (f_X9_waits_b7 v1 n) (fun σ v2 v3 v4 {H : Heap} {locs : List Loc} {ls : Array Slot}  hW hS hl h => ih σ v2 v3 v4 hW hS hl h) hW hS (lv_sub hl [1, 2, 3, 5, 0] rfl) h

theorem c_X9_waits {K : Nat}  (hK : 3 ≤ K) {σ : Mem} {σf : Mem} {v1 : Int32} {r : Int32} (h : f_X9_waits σ v1 = some (r, σf)) : MC l D (Er ac (z + 80)) inR (z + 80) ac (z, aK, aV) (Ar (z + 80)) yX9_waits cX9_waits 6 (some .int) K [.ref (z + 80 + 0), .int v1] σ (some (.int r)) σf := by
  refine MC.of (fun q hq => by have := hq.1; show z ≤ q; omega) (plainFor_of_name (by decide)) (Nat.le_of_ble_eq_true rfl) ?_
  intro p e s m below meth c args C hW ls hl
  replace hl : lv_has ls 6 [(0, .ref (z + 80 + 0)), (1, .int v1)] := hl
  have hS : va_S (Ar (z + 80)) s.heap s.heap [] := va_S.rf
  have hx := C.1.1
  have hb := C.1.2.1
  unfold f_X9_waits at h
  refine lv_iconst (pc := 0) (v := 0) hx hb dX9_waits_0 (by decide) ?_
  refine lv_istore_n (pc := 1) (lv' := [(2, .int (0 : Int32)), (0, .ref (z + 80 + 0)), (1, .int v1)]) hx hb dX9_waits_1 rfl hl (by decide) rfl (fun ls hl => ?_)
  refine lv_iconst (pc := 2) (v := 0) hx hb dX9_waits_2 (by decide) ?_
  refine lv_istore_n (pc := 3) (lv' := [(3, .int (0 : Int32)), (2, .int (0 : Int32)), (0, .ref (z + 80 + 0)), (1, .int v1)]) hx hb dX9_waits_3 rfl hl (by decide) rfl (fun ls hl => ?_)
  refine lv_iconst (pc := 4) (v := 0) hx hb dX9_waits_4 (by decide) ?_
  refine lv_istore (pc := 5) (lv' := [(4, .int (0 : Int32)), (3, .int (0 : Int32)), (2, .int (0 : Int32)), (0, .ref (z + 80 + 0)), (1, .int v1)]) hx hb dX9_waits_5 hl (by decide) rfl (fun ls hl => ?_)
  exact w_X9_waits_b7 C hK v1 FU σ (0 : Int32) (0 : Int32) (0 : Int32) hW hS (lv_sub hl [3, 4, 2, 1, 0] rfl) h

theorem w_X9_digitsNow_b4 (C : CX cX9_digitsNow 3 RX9 (some .int) D ac p m c s args meth (z, aK, aV) (Ar (z + 80))) (hK : 0 ≤ K) {r : Int32}   (σ : Mem)  : ∀ (n : Nat) (v1 : Int32) (v2 : Int32) {H : Heap} {locs : List Loc} {ls : Array Slot} (hW : WR D ac (z + 80) σ H) (hS : va_S (Ar (z + 80)) s.heap H locs) (hl : lv_has ls 3 [(0, .ref (z + 80 + 0)), (1, .int v1), (2, .int v2)]) (h : f_X9_digitsNow_b4 σ n v1 v2 = some r), W p l e (rma K 0 0) s m args below meth c H locs 0 0 (MQ below (QV D (Er ac (z + 80)) inR (z + 80) (some (.int r)) σ (Ar (z + 80))) args s 0 0 (Ar (z + 80))) (F0 m 4 ls []) := by
  have hx := C.1.1
  have hb := C.1.2.1
  intro n
  induction n with
  | zero =>
    intro v1 v2 H locs ls  hW hS hl h
    cases h
  | succ n ih =>
    intro v1 v2 H locs ls  hW hS hl h
    rw [f_X9_digitsNow_b4.eq_2] at h
    refine lv_iload_n (pc := 4) hx hb dX9_digitsNow_4 rfl (lv_at hl 2 rfl) ?_
    refine lv_aload_n (pc := 5) hx hb dX9_digitsNow_5 rfl (lv_at hl 0 rfl) ?_
    refine gf_X9_46 (pc := 6) C hW fl_X9_281 dX9_digitsNow_6 ?_
    refine lv_icmp_ge (pc := 9) (tgt := 37) hx hb dX9_digitsNow_9 (by decide) (fun hc0 => ?_) (fun hc0 => ?_)
    · replace h := o_pos hc0 h
      refine lv_iload_n (pc := 37) hx hb dX9_digitsNow_37 rfl (lv_at hl 1 rfl) ?_
      exact g_ret (pc := 38) C hW hS rfl dX9_digitsNow_38 (congrArg (fun q => some (Value.int q)) (Option.some.inj h).symm) rfl
    · replace h := o_neg hc0 h
      refine lv_bipush (pc := 12) (v := 10) hx hb dX9_digitsNow_12 (by decide) ?_
      refine lv_iload_n (pc := 14) hx hb dX9_digitsNow_14 rfl (lv_at hl 1 rfl) ?_
      refine lv_imul (pc := 15) hx hb dX9_digitsNow_15 ?_
      refine lv_aload_n (pc := 16) hx hb dX9_digitsNow_16 rfl (lv_at hl 0 rfl) ?_
      refine gf_X9_45 (pc := 17) C hW fl_X9_67 dX9_digitsNow_17 ?_
      refine lv_aload_n (pc := 20) hx hb dX9_digitsNow_20 rfl (lv_at hl 0 rfl) ?_
      refine gf_X9_47 (pc := 21) C hW fl_X9_70 dX9_digitsNow_21 ?_
      refine lv_iload_n (pc := 24) hx hb dX9_digitsNow_24 rfl (lv_at hl 2 rfl) ?_
      obtain ⟨hc1, h⟩ := o_chk h
      refine ir_ld (pc := 25) (k := 21) C hW (by decide) (by decide) rfl rfl (inb_in hc1) dX9_digitsNow_25 ?_
      obtain ⟨hc2, h⟩ := o_chk h
      refine ir_ld (pc := 26) (k := 20) C hW (by decide) (by decide) rfl rfl (inb_in hc2) dX9_digitsNow_26 ?_
      refine lv_iadd (pc := 27) hx hb dX9_digitsNow_27 ?_
      refine lv_iconst (pc := 28) (v := 1) hx hb dX9_digitsNow_28 (by decide) ?_
      refine lv_iadd (pc := 29) hx hb dX9_digitsNow_29 ?_
      obtain ⟨x4, hxx4, h⟩ := o_d h
      refine g_top hxx4 ?_
      refine lv_istore_n (pc := 30) (lv' := [(1, .int x4), (0, .ref (z + 80 + 0)), (2, .int v2)]) hx hb dX9_digitsNow_30 rfl hl (by decide) rfl (fun ls hl => ?_)
      refine lv_iinc (pc := 31) (v := (v2 + 1)) (lv' := [(2, .int (v2 + 1)), (1, .int x4), (0, .ref (z + 80 + 0))]) hx hb dX9_digitsNow_31 hl (k := 2) rfl rfl (by decide) rfl (fun ls hl => ?_)
      refine lv_goto (pc := 34) (tgt := 4) hx hb dX9_digitsNow_34 (by decide) ?_
      exact ih x4 (v2 + 1) hW hS (lv_sub hl [2, 1, 0] rfl) h

theorem c_X9_digitsNow {K : Nat}  (hK : 0 ≤ K) {σ : Mem} {r : Int32} (h : f_X9_digitsNow σ = some r) : MC l D (Er ac (z + 80)) inR (z + 80) ac (z, aK, aV) (Ar (z + 80)) yX9_digitsNow cX9_digitsNow 3 (some .int) K [.ref (z + 80 + 0)] σ (some (.int r)) σ := by
  refine MC.of (fun q hq => by have := hq.1; show z ≤ q; omega) (plainFor_of_name (by decide)) (Nat.le_of_ble_eq_true rfl) ?_
  intro p e s m below meth c args C hW ls hl
  replace hl : lv_has ls 3 [(0, .ref (z + 80 + 0))] := hl
  have hS : va_S (Ar (z + 80)) s.heap s.heap [] := va_S.rf
  have hx := C.1.1
  have hb := C.1.2.1
  unfold f_X9_digitsNow at h
  refine lv_iconst (pc := 0) (v := 0) hx hb dX9_digitsNow_0 (by decide) ?_
  refine lv_istore_n (pc := 1) (lv' := [(1, .int (0 : Int32)), (0, .ref (z + 80 + 0))]) hx hb dX9_digitsNow_1 rfl hl (by decide) rfl (fun ls hl => ?_)
  refine lv_iconst (pc := 2) (v := 0) hx hb dX9_digitsNow_2 (by decide) ?_
  refine lv_istore_n (pc := 3) (lv' := [(2, .int (0 : Int32)), (1, .int (0 : Int32)), (0, .ref (z + 80 + 0))]) hx hb dX9_digitsNow_3 rfl hl (by decide) rfl (fun ls hl => ?_)
  exact w_X9_digitsNow_b4 C hK σ FU (0 : Int32) (0 : Int32) hW hS (lv_sub hl [2, 1, 0] rfl) h

theorem w_X9_day_b187 (C : CX cX9_day 9 RX9 (some .int) D ac p m c s args meth (z, aK, aV) (Ar (z + 80))) (hK : 4 ≤ K) {r : Int32} {σf : Mem}   (σ : Mem) (v1 : Int32) (v2 : Int32) (v3 : Int32) (v4 : Int32) (v5 : Int32) (v6 : Int32) (s115 : Mem → Int32 → Int32 → Int32 → Option (Int32 × Mem)) (hs115 : ∀ (σ : Mem) (v4 : Int32) (v5 : Int32) (v6 : Int32) {H : Heap} {locs : List Loc} {ls : Array Slot} (_ : WR D ac (z + 80) σ H) (_ : va_S (Ar (z + 80)) s.heap H locs) (_ : lv_has ls 9 [(0, .ref (z + 80 + 0)), (1, .int v1), (2, .int v2), (3, .int v3), (4, .int v4), (5, .int v5), (6, .int v6)]) (_ : s115 σ v4 v5 v6 = some (r, σf)), W p l e (rma K 0 0) s m args below meth c H locs 0 0 (MQ below (QV D (Er ac (z + 80)) inR (z + 80) (some (.int r)) σf (Ar (z + 80))) args s 0 0 (Ar (z + 80))) (F0 m 115 ls [])) {H : Heap} {locs : List Loc} {ls : Array Slot} (hW : WR D ac (z + 80) σ H) (hS : va_S (Ar (z + 80)) s.heap H locs) (hl : lv_has ls 9 [(0, .ref (z + 80 + 0)), (1, .int v1), (2, .int v2), (3, .int v3), (4, .int v4), (5, .int v5), (6, .int v6)]) (h : f_X9_day_b187 s115 σ v1 v2 v3 v4 v5 v6 = some (r, σf)) : W p l e (rma K 0 0) s m args below meth c H locs 0 0 (MQ below (QV D (Er ac (z + 80)) inR (z + 80) (some (.int r)) σf (Ar (z + 80))) args s 0 0 (Ar (z + 80))) (F0 m 187 ls []) := by
  have hx := C.1.1
  have hb := C.1.2.1
  unfold f_X9_day_b187 at h
  refine lv_iinc (pc := 187) (v := (v6 + 1)) (lv' := [(6, .int (v6 + 1)), (0, .ref (z + 80 + 0)), (1, .int v1), (2, .int v2), (3, .int v3), (4, .int v4), (5, .int v5)]) hx hb dX9_day_187 hl (k := 6) rfl rfl (by decide) rfl (fun ls hl => ?_)
  refine lv_goto (pc := 190) (tgt := 115) hx hb dX9_day_190 (by decide) ?_
  exact hs115 σ v4 v5 (v6 + 1) hW hS (lv_sub hl [1, 2, 3, 4, 5, 6, 0] rfl) h

theorem w_X9_day_b185 (C : CX cX9_day 9 RX9 (some .int) D ac p m c s args meth (z, aK, aV) (Ar (z + 80))) (hK : 4 ≤ K) {r : Int32} {σf : Mem}   (σ : Mem) (v1 : Int32) (v2 : Int32) (v3 : Int32) (v4 : Int32) (v6 : Int32) (k0 : Int32) (s115 : Mem → Int32 → Int32 → Int32 → Option (Int32 × Mem)) (hs115 : ∀ (σ : Mem) (v4 : Int32) (v5 : Int32) (v6 : Int32) {H : Heap} {locs : List Loc} {ls : Array Slot} (_ : WR D ac (z + 80) σ H) (_ : va_S (Ar (z + 80)) s.heap H locs) (_ : lv_has ls 9 [(0, .ref (z + 80 + 0)), (1, .int v1), (2, .int v2), (3, .int v3), (4, .int v4), (5, .int v5), (6, .int v6)]) (_ : s115 σ v4 v5 v6 = some (r, σf)), W p l e (rma K 0 0) s m args below meth c H locs 0 0 (MQ below (QV D (Er ac (z + 80)) inR (z + 80) (some (.int r)) σf (Ar (z + 80))) args s 0 0 (Ar (z + 80))) (F0 m 115 ls [])) {H : Heap} {locs : List Loc} {ls : Array Slot} (hW : WR D ac (z + 80) σ H) (hS : va_S (Ar (z + 80)) s.heap H locs) (hl : lv_has ls 9 [(0, .ref (z + 80 + 0)), (1, .int v1), (2, .int v2), (3, .int v3), (4, .int v4), (6, .int v6)]) (h : f_X9_day_b185 s115 σ v1 v2 v3 v4 v6 k0 = some (r, σf)) : W p l e (rma K 0 0) s m args below meth c H locs 0 0 (MQ below (QV D (Er ac (z + 80)) inR (z + 80) (some (.int r)) σf (Ar (z + 80))) args s 0 0 (Ar (z + 80))) (F0 m 185 ls [.int k0]) := by
  have hx := C.1.1
  have hb := C.1.2.1
  unfold f_X9_day_b185 at h
  refine lv_istore (pc := 185) (lv' := [(5, .int k0), (0, .ref (z + 80 + 0)), (1, .int v1), (2, .int v2), (3, .int v3), (4, .int v4), (6, .int v6)]) hx hb dX9_day_185 hl (by decide) rfl (fun ls hl => ?_)
  exact w_X9_day_b187 C hK σ v1 v2 v3 v4 k0 v6 s115 hs115 hW hS (lv_sub hl [1, 2, 3, 4, 5, 0, 6] rfl) h

theorem w_X9_day_b169 (C : CX cX9_day 9 RX9 (some .int) D ac p m c s args meth (z, aK, aV) (Ar (z + 80))) (hK : 4 ≤ K) {r : Int32} {σf : Mem}   (σ : Mem) (v1 : Int32) (v2 : Int32) (v3 : Int32) (v5 : Int32) (v6 : Int32) (v8 : Int32) (k0 : Int32) (s115 : Mem → Int32 → Int32 → Int32 → Option (Int32 × Mem)) (hs115 : ∀ (σ : Mem) (v4 : Int32) (v5 : Int32) (v6 : Int32) {H : Heap} {locs : List Loc} {ls : Array Slot} (_ : WR D ac (z + 80) σ H) (_ : va_S (Ar (z + 80)) s.heap H locs) (_ : lv_has ls 9 [(0, .ref (z + 80 + 0)), (1, .int v1), (2, .int v2), (3, .int v3), (4, .int v4), (5, .int v5), (6, .int v6)]) (_ : s115 σ v4 v5 v6 = some (r, σf)), W p l e (rma K 0 0) s m args below meth c H locs 0 0 (MQ below (QV D (Er ac (z + 80)) inR (z + 80) (some (.int r)) σf (Ar (z + 80))) args s 0 0 (Ar (z + 80))) (F0 m 115 ls [])) {H : Heap} {locs : List Loc} {ls : Array Slot} (hW : WR D ac (z + 80) σ H) (hS : va_S (Ar (z + 80)) s.heap H locs) (hl : lv_has ls 9 [(0, .ref (z + 80 + 0)), (1, .int v1), (2, .int v2), (3, .int v3), (5, .int v5), (6, .int v6), (8, .int v8)]) (h : f_X9_day_b169 s115 σ v1 v2 v3 v5 v6 v8 k0 = some (r, σf)) : W p l e (rma K 0 0) s m args below meth c H locs 0 0 (MQ below (QV D (Er ac (z + 80)) inR (z + 80) (some (.int r)) σf (Ar (z + 80))) args s 0 0 (Ar (z + 80))) (F0 m 169 ls [.int k0]) := by
  have hx := C.1.1
  have hb := C.1.2.1
  unfold f_X9_day_b169 at h
  refine lv_istore (pc := 169) (lv' := [(4, .int k0), (0, .ref (z + 80 + 0)), (1, .int v1), (2, .int v2), (3, .int v3), (5, .int v5), (6, .int v6), (8, .int v8)]) hx hb dX9_day_169 hl (by decide) rfl (fun ls hl => ?_)
  refine lv_iload (pc := 171) hx hb dX9_day_171 (lv_at hl 7 rfl) ?_
  refine lv_if_eq (pc := 173) (tgt := 183) hx hb dX9_day_173 (by decide) (fun hc20 => ?_) (fun hc20 => ?_)
  · replace h := o_pos hc20 h
    refine lv_iload (pc := 183) hx hb dX9_day_183 (lv_at hl 5 rfl) ?_
    exact w_X9_day_b185 C hK σ v1 v2 v3 k0 v6 v5 s115 hs115 hW hS (lv_sub hl [1, 2, 3, 4, 0, 6] rfl) h
  · replace h := o_neg hc20 h
    refine lv_aload_n (pc := 176) hx hb dX9_day_176 rfl (lv_at hl 1 rfl) ?_
    obtain ⟨r23, hc21, h⟩ := o_b h
    refine g_virt (pc := 177) (st2 := [.int r23]) (rest := []) C hW hS (c_X9_digitsNow (K := K - 1) (by omega) hc21) mw_X9_290 inR0 Er_0 rfl (hRoom (by omega) (by decide)) rfl rfl rfl (Nat.le_of_ble_eq_true rfl) hl.1 dX9_day_177 (fun H locs hW hS => ?_)
    refine lv_goto (pc := 180) (tgt := 185) hx hb dX9_day_180 (by decide) ?_
    exact w_X9_day_b185 C hK σ v1 v2 v3 k0 v6 r23 s115 hs115 hW hS (lv_sub hl [1, 2, 3, 4, 0, 6] rfl) h

theorem w_X9_day_b155 (C : CX cX9_day 9 RX9 (some .int) D ac p m c s args meth (z, aK, aV) (Ar (z + 80))) (hK : 4 ≤ K) {r : Int32} {σf : Mem}   (σ : Mem) (v1 : Int32) (v2 : Int32) (v3 : Int32) (v4 : Int32) (v5 : Int32) (v6 : Int32) (v7 : Int32) (k0 : Int32) (s115 : Mem → Int32 → Int32 → Int32 → Option (Int32 × Mem)) (hs115 : ∀ (σ : Mem) (v4 : Int32) (v5 : Int32) (v6 : Int32) {H : Heap} {locs : List Loc} {ls : Array Slot} (_ : WR D ac (z + 80) σ H) (_ : va_S (Ar (z + 80)) s.heap H locs) (_ : lv_has ls 9 [(0, .ref (z + 80 + 0)), (1, .int v1), (2, .int v2), (3, .int v3), (4, .int v4), (5, .int v5), (6, .int v6)]) (_ : s115 σ v4 v5 v6 = some (r, σf)), W p l e (rma K 0 0) s m args below meth c H locs 0 0 (MQ below (QV D (Er ac (z + 80)) inR (z + 80) (some (.int r)) σf (Ar (z + 80))) args s 0 0 (Ar (z + 80))) (F0 m 115 ls [])) {H : Heap} {locs : List Loc} {ls : Array Slot} (hW : WR D ac (z + 80) σ H) (hS : va_S (Ar (z + 80)) s.heap H locs) (hl : lv_has ls 9 [(0, .ref (z + 80 + 0)), (1, .int v1), (2, .int v2), (3, .int v3), (4, .int v4), (5, .int v5), (6, .int v6), (7, .int v7)]) (h : f_X9_day_b155 s115 σ v1 v2 v3 v4 v5 v6 v7 k0 = some (r, σf)) : W p l e (rma K 0 0) s m args below meth c H locs 0 0 (MQ below (QV D (Er ac (z + 80)) inR (z + 80) (some (.int r)) σf (Ar (z + 80))) args s 0 0 (Ar (z + 80))) (F0 m 155 ls [.int k0]) := by
  have hx := C.1.1
  have hb := C.1.2.1
  unfold f_X9_day_b155 at h
  refine lv_istore (pc := 155) (lv' := [(8, .int k0), (0, .ref (z + 80 + 0)), (1, .int v1), (2, .int v2), (3, .int v3), (4, .int v4), (5, .int v5), (6, .int v6), (7, .int v7)]) hx hb dX9_day_155 hl (by decide) rfl (fun ls hl => ?_)
  refine lv_iload (pc := 157) hx hb dX9_day_157 (lv_at hl 0 rfl) ?_
  refine lv_if_eq (pc := 159) (tgt := 167) hx hb dX9_day_159 (by decide) (fun hc19 => ?_) (fun hc19 => ?_)
  · replace h := o_pos hc19 h
    refine lv_iload (pc := 167) hx hb dX9_day_167 (lv_at hl 5 rfl) ?_
    exact w_X9_day_b169 C hK σ v1 v2 v3 v5 v6 k0 v4 s115 hs115 hW hS (lv_sub hl [1, 2, 3, 4, 6, 7, 0] rfl) h
  · replace h := o_neg hc19 h
    refine lv_iload (pc := 162) hx hb dX9_day_162 (lv_at hl 8 rfl) ?_
    refine lv_goto (pc := 164) (tgt := 169) hx hb dX9_day_164 (by decide) ?_
    exact w_X9_day_b169 C hK σ v1 v2 v3 v5 v6 k0 v7 s115 hs115 hW hS (lv_sub hl [1, 2, 3, 4, 6, 7, 0] rfl) h

theorem w_X9_day_b150 (C : CX cX9_day 9 RX9 (some .int) D ac p m c s args meth (z, aK, aV) (Ar (z + 80))) (hK : 4 ≤ K) {r : Int32} {σf : Mem}   (σ : Mem) (v1 : Int32) (v2 : Int32) (v3 : Int32) (v4 : Int32) (v5 : Int32) (v6 : Int32) (v7 : Int32) (s115 : Mem → Int32 → Int32 → Int32 → Option (Int32 × Mem)) (hs115 : ∀ (σ : Mem) (v4 : Int32) (v5 : Int32) (v6 : Int32) {H : Heap} {locs : List Loc} {ls : Array Slot} (_ : WR D ac (z + 80) σ H) (_ : va_S (Ar (z + 80)) s.heap H locs) (_ : lv_has ls 9 [(0, .ref (z + 80 + 0)), (1, .int v1), (2, .int v2), (3, .int v3), (4, .int v4), (5, .int v5), (6, .int v6)]) (_ : s115 σ v4 v5 v6 = some (r, σf)), W p l e (rma K 0 0) s m args below meth c H locs 0 0 (MQ below (QV D (Er ac (z + 80)) inR (z + 80) (some (.int r)) σf (Ar (z + 80))) args s 0 0 (Ar (z + 80))) (F0 m 115 ls [])) {H : Heap} {locs : List Loc} {ls : Array Slot} (hW : WR D ac (z + 80) σ H) (hS : va_S (Ar (z + 80)) s.heap H locs) (hl : lv_has ls 9 [(0, .ref (z + 80 + 0)), (1, .int v1), (2, .int v2), (3, .int v3), (4, .int v4), (5, .int v5), (6, .int v6), (7, .int v7)]) (h : f_X9_day_b150 s115 σ v1 v2 v3 v4 v5 v6 v7 = some (r, σf)) : W p l e (rma K 0 0) s m args below meth c H locs 0 0 (MQ below (QV D (Er ac (z + 80)) inR (z + 80) (some (.int r)) σf (Ar (z + 80))) args s 0 0 (Ar (z + 80))) (F0 m 150 ls []) := by
  have hx := C.1.1
  have hb := C.1.2.1
  unfold f_X9_day_b150 at h
  refine lv_iconst (pc := 150) (v := 1) hx hb dX9_day_150 (by decide) ?_
  refine lv_goto (pc := 151) (tgt := 155) hx hb dX9_day_151 (by decide) ?_
  exact w_X9_day_b155 C hK σ v1 v2 v3 v4 v5 v6 v7 (1 : Int32) s115 hs115 hW hS (lv_sub hl [0, 1, 2, 3, 4, 5, 6, 7] rfl) h

theorem w_X9_day_b115 (C : CX cX9_day 9 RX9 (some .int) D ac p m c s args meth (z, aK, aV) (Ar (z + 80))) (hK : 4 ≤ K) {r : Int32} {σf : Mem}   (v1 : Int32) (v2 : Int32) (v3 : Int32)  : ∀ (n : Nat) (σ : Mem) (v4 : Int32) (v5 : Int32) (v6 : Int32) {H : Heap} {locs : List Loc} {ls : Array Slot} (hW : WR D ac (z + 80) σ H) (hS : va_S (Ar (z + 80)) s.heap H locs) (hl : lv_has ls 9 [(0, .ref (z + 80 + 0)), (1, .int v1), (2, .int v2), (3, .int v3), (4, .int v4), (5, .int v5), (6, .int v6)]) (h : f_X9_day_b115 v1 v2 v3 n σ v4 v5 v6 = some (r, σf)), W p l e (rma K 0 0) s m args below meth c H locs 0 0 (MQ below (QV D (Er ac (z + 80)) inR (z + 80) (some (.int r)) σf (Ar (z + 80))) args s 0 0 (Ar (z + 80))) (F0 m 115 ls []) := by
  have hx := C.1.1
  have hb := C.1.2.1
  intro n
  induction n with
  | zero =>
    intro σ v4 v5 v6 H locs ls  hW hS hl h
    cases h
  | succ n ih =>
    intro σ v4 v5 v6 H locs ls  hW hS hl h
    rw [f_X9_day_b115.eq_2] at h
    refine lv_iload (pc := 115) hx hb dX9_day_115 (lv_at hl 6 rfl) ?_
    refine lv_iload_n (pc := 117) hx hb dX9_day_117 rfl (lv_at hl 3 rfl) ?_
    refine lv_icmp_ge (pc := 118) (tgt := 193) hx hb dX9_day_118 (by decide) (fun hc8 => ?_) (fun hc8 => ?_)
    · replace h := o_pos hc8 h
      refine lv_iload_n (pc := 193) hx hb dX9_day_193 rfl (lv_at hl 2 rfl) ?_
      refine lv_if_ne (pc := 194) (tgt := 202) hx hb dX9_day_194 (by decide) (fun hc9 => ?_) (fun hc9 => ?_)
      · replace h := o_neg hc9 h
        refine lv_iload (pc := 202) hx hb dX9_day_202 (lv_at hl 5 rfl) ?_
        exact g_ret (pc := 204) C hW hS rfl dX9_day_204 (congrArg (fun q => some (Value.int q)) (o_r h).1) (o_r h).2
      · replace h := o_pos hc9 h
        refine lv_iload (pc := 197) hx hb dX9_day_197 (lv_at hl 4 rfl) ?_
        refine lv_goto (pc := 199) (tgt := 204) hx hb dX9_day_199 (by decide) ?_
        exact g_ret (pc := 204) C hW hS rfl dX9_day_204 (congrArg (fun q => some (Value.int q)) (o_r h).1) (o_r h).2
    · replace h := o_neg hc8 h
      refine lv_aload_n (pc := 121) hx hb dX9_day_121 rfl (lv_at hl 0 rfl) ?_
      refine lv_iload (pc := 122) hx hb dX9_day_122 (lv_at hl 6 rfl) ?_
      obtain ⟨r12, σ13, hc10, h⟩ := o_b2 h
      refine g_virt (pc := 124) (st2 := [.int r12]) (rest := []) C hW hS (c_X9_tells (K := K - 1) (by omega) hc10) mw_X9_284 inR0 Er_0 rfl (hRoom (by omega) (by decide)) rfl rfl rfl (Nat.le_of_ble_eq_true rfl) hl.1 dX9_day_124 (fun H locs hW hS => ?_)
      refine lv_if_eq (pc := 127) (tgt := 187) hx hb dX9_day_127 (by decide) (fun hc13 => ?_) (fun hc13 => ?_)
      · replace h := o_pos hc13 h
        exact w_X9_day_b187 C hK σ13 v1 v2 v3 v4 v5 v6 (f_X9_day_b115 v1 v2 v3 n) (fun σ v4 v5 v6 {H : Heap} {locs : List Loc} {ls : Array Slot}  hW hS hl h => ih σ v4 v5 v6 hW hS hl h) hW hS (lv_sub hl [0, 1, 2, 3, 4, 5, 6] rfl) h
      · replace h := o_neg hc13 h
        refine lv_aload_n (pc := 130) hx hb dX9_day_130 rfl (lv_at hl 0 rfl) ?_
        refine lv_iload_n (pc := 131) hx hb dX9_day_131 rfl (lv_at hl 1 rfl) ?_
        obtain ⟨r16, σ17, hc14, h⟩ := o_b2 h
        refine g_virt (pc := 132) (st2 := [.int r16]) (rest := []) C hW hS (c_X9_waits (K := K - 1) (by omega) hc14) mw_X9_287 inR0 Er_0 rfl (hRoom (by omega) (by decide)) rfl rfl rfl (Nat.le_of_ble_eq_true rfl) hl.1 dX9_day_132 (fun H locs hW hS => ?_)
        refine lv_istore (pc := 135) (lv' := [(7, .int r16), (0, .ref (z + 80 + 0)), (1, .int v1), (2, .int v2), (3, .int v3), (4, .int v4), (5, .int v5), (6, .int v6)]) hx hb dX9_day_135 hl (by decide) rfl (fun ls hl => ?_)
        refine lv_iload (pc := 137) hx hb dX9_day_137 (lv_at hl 5 rfl) ?_
        refine lv_iconst (pc := 139) (v := -1) hx hb dX9_day_139 (by decide) ?_
        refine lv_icmp_eq (pc := 140) (tgt := 150) hx hb dX9_day_140 (by decide) (fun hc17 => ?_) (fun hc17 => ?_)
        · replace h := o_pos hc17 h
          exact w_X9_day_b150 C hK σ17 v1 v2 v3 v4 v5 v6 r16 (f_X9_day_b115 v1 v2 v3 n) (fun σ v4 v5 v6 {H : Heap} {locs : List Loc} {ls : Array Slot}  hW hS hl h => ih σ v4 v5 v6 hW hS hl h) hW hS (lv_sub hl [1, 2, 3, 4, 5, 6, 7, 0] rfl) h
        · replace h := o_neg hc17 h
          refine lv_iload (pc := 143) hx hb dX9_day_143 (lv_at hl 0 rfl) ?_
          refine lv_iload (pc := 145) hx hb dX9_day_145 (lv_at hl 5 rfl) ?_
          refine lv_icmp_ge (pc := 147) (tgt := 154) hx hb dX9_day_147 (by decide) (fun hc18 => ?_) (fun hc18 => ?_)
          · replace h := o_pos hc18 h
            refine lv_iconst (pc := 154) (v := 0) hx hb dX9_day_154 (by decide) ?_
            exact w_X9_day_b155 C hK σ17 v1 v2 v3 v4 v5 v6 r16 (0 : Int32) (f_X9_day_b115 v1 v2 v3 n) (fun σ v4 v5 v6 {H : Heap} {locs : List Loc} {ls : Array Slot}  hW hS hl h => ih σ v4 v5 v6 hW hS hl h) hW hS (lv_sub hl [1, 2, 3, 4, 5, 6, 7, 0] rfl) h
          · replace h := o_neg hc18 h
            exact w_X9_day_b150 C hK σ17 v1 v2 v3 v4 v5 v6 r16 (f_X9_day_b115 v1 v2 v3 n) (fun σ v4 v5 v6 {H : Heap} {locs : List Loc} {ls : Array Slot}  hW hS hl h => ih σ v4 v5 v6 hW hS hl h) hW hS (lv_sub hl [1, 2, 3, 4, 5, 6, 7, 0] rfl) h

theorem w_X9_day_b84 (C : CX cX9_day 9 RX9 (some .int) D ac p m c s args meth (z, aK, aV) (Ar (z + 80))) (hK : 4 ≤ K) {r : Int32} {σf : Mem}   (v1 : Int32) (v2 : Int32)  : ∀ (n : Nat) (σ : Mem) (v3 : Int32) (v4 : Int32) {H : Heap} {locs : List Loc} {ls : Array Slot} (hW : WR D ac (z + 80) σ H) (hS : va_S (Ar (z + 80)) s.heap H locs) (hl : lv_has ls 9 [(0, .ref (z + 80 + 0)), (1, .int v1), (2, .int v2), (3, .int v3), (4, .int v4)]) (h : f_X9_day_b84 v1 v2 n σ v3 v4 = some (r, σf)), W p l e (rma K 0 0) s m args below meth c H locs 0 0 (MQ below (QV D (Er ac (z + 80)) inR (z + 80) (some (.int r)) σf (Ar (z + 80))) args s 0 0 (Ar (z + 80))) (F0 m 84 ls []) := by
  have hx := C.1.1
  have hb := C.1.2.1
  intro n
  induction n with
  | zero =>
    intro σ v3 v4 H locs ls  hW hS hl h
    cases h
  | succ n ih =>
    intro σ v3 v4 H locs ls  hW hS hl h
    rw [f_X9_day_b84.eq_2] at h
    refine lv_iload (pc := 84) hx hb dX9_day_84 (lv_at hl 4 rfl) ?_
    refine lv_aload_n (pc := 86) hx hb dX9_day_86 rfl (lv_at hl 0 rfl) ?_
    refine gf_X9_46 (pc := 87) C hW fl_X9_281 dX9_day_87 ?_
    refine lv_icmp_ge (pc := 90) (tgt := 106) hx hb dX9_day_90 (by decide) (fun hc7 => ?_) (fun hc7 => ?_)
    · replace h := o_pos hc7 h
      refine lv_iconst (pc := 106) (v := -1) hx hb dX9_day_106 (by decide) ?_
      refine lv_istore (pc := 107) (lv' := [(4, .int (-1 : Int32)), (0, .ref (z + 80 + 0)), (1, .int v1), (2, .int v2), (3, .int v3)]) hx hb dX9_day_107 hl (by decide) rfl (fun ls hl => ?_)
      refine lv_iconst (pc := 109) (v := 0) hx hb dX9_day_109 (by decide) ?_
      refine lv_istore (pc := 110) (lv' := [(5, .int (0 : Int32)), (4, .int (-1 : Int32)), (0, .ref (z + 80 + 0)), (1, .int v1), (2, .int v2), (3, .int v3)]) hx hb dX9_day_110 hl (by decide) rfl (fun ls hl => ?_)
      refine lv_iconst (pc := 112) (v := 0) hx hb dX9_day_112 (by decide) ?_
      refine lv_istore (pc := 113) (lv' := [(6, .int (0 : Int32)), (5, .int (0 : Int32)), (4, .int (-1 : Int32)), (0, .ref (z + 80 + 0)), (1, .int v1), (2, .int v2), (3, .int v3)]) hx hb dX9_day_113 hl (by decide) rfl (fun ls hl => ?_)
      exact w_X9_day_b115 C hK v1 v2 v3 FU σ (-1 : Int32) (0 : Int32) (0 : Int32) hW hS (lv_sub hl [3, 4, 5, 6, 2, 1, 0] rfl) h
    · replace h := o_neg hc7 h
      refine lv_iload_n (pc := 93) hx hb dX9_day_93 rfl (lv_at hl 3 rfl) ?_
      refine lv_aload_n (pc := 94) hx hb dX9_day_94 rfl (lv_at hl 0 rfl) ?_
      refine gf_X9_46 (pc := 95) C hW fl_X9_281 dX9_day_95 ?_
      refine lv_imul (pc := 98) hx hb dX9_day_98 ?_
      refine lv_istore_n (pc := 99) (lv' := [(3, .int (v3 * (σ 0 46))), (0, .ref (z + 80 + 0)), (1, .int v1), (2, .int v2), (4, .int v4)]) hx hb dX9_day_99 rfl hl (by decide) rfl (fun ls hl => ?_)
      refine lv_iinc (pc := 100) (v := (v4 + 1)) (lv' := [(4, .int (v4 + 1)), (3, .int (v3 * (σ 0 46))), (0, .ref (z + 80 + 0)), (1, .int v1), (2, .int v2)]) hx hb dX9_day_100 hl (k := 4) rfl rfl (by decide) rfl (fun ls hl => ?_)
      refine lv_goto (pc := 103) (tgt := 84) hx hb dX9_day_103 (by decide) ?_
      exact ih σ (v3 * (σ 0 46)) (v4 + 1) hW hS (lv_sub hl [2, 3, 4, 1, 0] rfl) h

theorem w_X9_day_b75 (C : CX cX9_day 9 RX9 (some .int) D ac p m c s args meth (z, aK, aV) (Ar (z + 80))) (hK : 4 ≤ K) {r : Int32} {σf : Mem}   (σ : Mem) (v1 : Int32) (v2 : Int32) (v3 : Int32) (v4 : Int32) (s31 : Mem → Int32 → Option (Int32 × Mem)) (hs31 : ∀ (σ : Mem) (v4 : Int32) {H : Heap} {locs : List Loc} {ls : Array Slot} (_ : WR D ac (z + 80) σ H) (_ : va_S (Ar (z + 80)) s.heap H locs) (_ : lv_has ls 9 [(0, .ref (z + 80 + 0)), (1, .int v1), (2, .int v2), (3, .int v3), (4, .int v4)]) (_ : s31 σ v4 = some (r, σf)), W p l e (rma K 0 0) s m args below meth c H locs 0 0 (MQ below (QV D (Er ac (z + 80)) inR (z + 80) (some (.int r)) σf (Ar (z + 80))) args s 0 0 (Ar (z + 80))) (F0 m 31 ls [])) {H : Heap} {locs : List Loc} {ls : Array Slot} (hW : WR D ac (z + 80) σ H) (hS : va_S (Ar (z + 80)) s.heap H locs) (hl : lv_has ls 9 [(0, .ref (z + 80 + 0)), (1, .int v1), (2, .int v2), (3, .int v3), (4, .int v4)]) (h : f_X9_day_b75 s31 σ v1 v2 v3 v4 = some (r, σf)) : W p l e (rma K 0 0) s m args below meth c H locs 0 0 (MQ below (QV D (Er ac (z + 80)) inR (z + 80) (some (.int r)) σf (Ar (z + 80))) args s 0 0 (Ar (z + 80))) (F0 m 75 ls []) := by
  have hx := C.1.1
  have hb := C.1.2.1
  unfold f_X9_day_b75 at h
  refine lv_iinc (pc := 75) (v := (v4 + 1)) (lv' := [(4, .int (v4 + 1)), (0, .ref (z + 80 + 0)), (1, .int v1), (2, .int v2), (3, .int v3)]) hx hb dX9_day_75 hl (k := 4) rfl rfl (by decide) rfl (fun ls hl => ?_)
  refine lv_goto (pc := 78) (tgt := 31) hx hb dX9_day_78 (by decide) ?_
  exact hs31 σ (v4 + 1) hW hS (lv_sub hl [1, 2, 3, 4, 0] rfl) h

theorem w_X9_day_b31 (C : CX cX9_day 9 RX9 (some .int) D ac p m c s args meth (z, aK, aV) (Ar (z + 80))) (hK : 4 ≤ K) {r : Int32} {σf : Mem}   (v1 : Int32) (v2 : Int32) (v3 : Int32)  : ∀ (n : Nat) (σ : Mem) (v4 : Int32) {H : Heap} {locs : List Loc} {ls : Array Slot} (hW : WR D ac (z + 80) σ H) (hS : va_S (Ar (z + 80)) s.heap H locs) (hl : lv_has ls 9 [(0, .ref (z + 80 + 0)), (1, .int v1), (2, .int v2), (3, .int v3), (4, .int v4)]) (h : f_X9_day_b31 v1 v2 v3 n σ v4 = some (r, σf)), W p l e (rma K 0 0) s m args below meth c H locs 0 0 (MQ below (QV D (Er ac (z + 80)) inR (z + 80) (some (.int r)) σf (Ar (z + 80))) args s 0 0 (Ar (z + 80))) (F0 m 31 ls []) := by
  have hx := C.1.1
  have hb := C.1.2.1
  intro n
  induction n with
  | zero =>
    intro σ v4 H locs ls  hW hS hl h
    cases h
  | succ n ih =>
    intro σ v4 H locs ls  hW hS hl h
    rw [f_X9_day_b31.eq_2] at h
    refine lv_iload (pc := 31) hx hb dX9_day_31 (lv_at hl 4 rfl) ?_
    refine lv_aload_n (pc := 33) hx hb dX9_day_33 rfl (lv_at hl 0 rfl) ?_
    refine gf_X9_0 (pc := 34) C hW fl_X9_81 dX9_day_34 ?_
    refine lv_icmp_ge (pc := 37) (tgt := 81) hx hb dX9_day_37 (by decide) (fun hc2 => ?_) (fun hc2 => ?_)
    · replace h := o_pos hc2 h
      refine lv_iconst (pc := 81) (v := 0) hx hb dX9_day_81 (by decide) ?_
      refine lv_istore (pc := 82) (lv' := [(4, .int (0 : Int32)), (0, .ref (z + 80 + 0)), (1, .int v1), (2, .int v2), (3, .int v3)]) hx hb dX9_day_82 hl (by decide) rfl (fun ls hl => ?_)
      exact w_X9_day_b84 C hK v1 v2 FU σ v3 (0 : Int32) hW hS (lv_sub hl [1, 2, 3, 4, 0] rfl) h
    · replace h := o_neg hc2 h
      refine lv_aload_n (pc := 40) hx hb dX9_day_40 rfl (lv_at hl 0 rfl) ?_
      refine gf_X9_3 (pc := 41) C hW fl_X9_16 dX9_day_41 ?_
      refine lv_iconst (pc := 44) (v := 4) hx hb dX9_day_44 (by decide) ?_
      refine lv_iload (pc := 45) hx hb dX9_day_45 (lv_at hl 4 rfl) ?_
      refine lv_imul (pc := 47) hx hb dX9_day_47 ?_
      refine lv_iconst (pc := 48) (v := 3) hx hb dX9_day_48 (by decide) ?_
      refine lv_iadd (pc := 49) hx hb dX9_day_49 ?_
      obtain ⟨hc3, h⟩ := o_chk h
      refine ir_ld (pc := 50) (k := 3) C hW (by decide) (by decide) rfl rfl (inb_in hc3) dX9_day_50 ?_
      refine lv_if_ne (pc := 51) (tgt := 75) hx hb dX9_day_51 (by decide) (fun hc4 => ?_) (fun hc4 => ?_)
      · replace h := o_neg hc4 h
        exact w_X9_day_b75 C hK σ v1 v2 v3 v4 (f_X9_day_b31 v1 v2 v3 n) (fun σ v4 {H : Heap} {locs : List Loc} {ls : Array Slot}  hW hS hl h => ih σ v4 hW hS hl h) hW hS (lv_sub hl [0, 1, 2, 3, 4] rfl) h
      · replace h := o_pos hc4 h
        refine lv_aload_n (pc := 54) hx hb dX9_day_54 rfl (lv_at hl 0 rfl) ?_
        refine gf_X9_45 (pc := 55) C hW fl_X9_67 dX9_day_55 ?_
        refine lv_aload_n (pc := 58) hx hb dX9_day_58 rfl (lv_at hl 0 rfl) ?_
        refine gf_X9_46 (pc := 59) C hW fl_X9_281 dX9_day_59 ?_
        refine lv_iload (pc := 62) hx hb dX9_day_62 (lv_at hl 4 rfl) ?_
        obtain ⟨hc5, h⟩ := o_chk h
        refine ir_st (pc := 64) (k := 20) C hW hS (by decide) (by decide) rfl rfl (inb_in hc5) dX9_day_64 (fun H locs hW hS => ?_)
        refine lv_aload_n (pc := 65) hx hb dX9_day_65 rfl (lv_at hl 0 rfl) ?_
        refine lv_dup (pc := 66) hx hb dX9_day_66 rfl ?_
        refine gf_X9_46 (pc := 67) C hW fl_X9_281 dX9_day_67 ?_
        refine lv_iconst (pc := 70) (v := 1) hx hb dX9_day_70 (by decide) ?_
        refine lv_iadd (pc := 71) hx hb dX9_day_71 ?_
        refine pf_X9_46 (pc := 72) C hW hS fl_X9_281 dX9_day_72 (fun H locs hW hS => ?_)
        obtain ⟨σ7, hσ7, h⟩ := o_d h
        replace hW : WR D ac (z + 80) σ7 H := by rw [← hσ7]; exact hW
        exact w_X9_day_b75 C hK σ7 v1 v2 v3 v4 (f_X9_day_b31 v1 v2 v3 n) (fun σ v4 {H : Heap} {locs : List Loc} {ls : Array Slot}  hW hS hl h => ih σ v4 hW hS hl h) hW hS (lv_sub hl [0, 1, 2, 3, 4] rfl) h

theorem c_X9_day {K : Nat}  (hK : 4 ≤ K) {σ : Mem} {σf : Mem} {v1 : Int32} {v2 : Int32} {r : Int32} (h : f_X9_day σ v1 v2 = some (r, σf)) : MC l D (Er ac (z + 80)) inR (z + 80) ac (z, aK, aV) (Ar (z + 80)) yX9_day cX9_day 9 (some .int) K [.ref (z + 80 + 0), .int v1, .int v2] σ (some (.int r)) σf := by
  refine MC.of (fun q hq => by have := hq.1; show z ≤ q; omega) (plainFor_of_name (by decide)) (Nat.le_of_ble_eq_true rfl) ?_
  intro p e s m below meth c args C hW ls hl
  replace hl : lv_has ls 9 [(0, .ref (z + 80 + 0)), (1, .int v1), (2, .int v2)] := hl
  have hS : va_S (Ar (z + 80)) s.heap s.heap [] := va_S.rf
  have hx := C.1.1
  have hb := C.1.2.1
  unfold f_X9_day at h
  refine lv_iload_n (pc := 0) hx hb dX9_day_0 rfl (lv_at hl 1 rfl) ?_
  refine lv_iconst (pc := 1) (v := 0) hx hb dX9_day_1 (by decide) ?_
  refine lv_iconst (pc := 2) (v := 1) hx hb dX9_day_2 (by decide) ?_
  refine g_stat (pc := 3) (st2 := [.int (f_X9_in v1 (0 : Int32) (1 : Int32))]) (rest := []) C hW hS (c_X9_in (K := K - 1) (by omega) rfl) mw_X9_84 (hRoom (by omega) (by decide)) rfl rfl rfl (Nat.le_of_ble_eq_true rfl) hl.1 dX9_day_3 (fun H locs hW hS => ?_)
  refine lv_if_eq (pc := 6) (tgt := 18) hx hb dX9_day_6 (by decide) (fun hc0 => ?_) (fun hc0 => ?_)
  · replace h := o_pos hc0 h
    refine lv_bipush (pc := 18) (v := -2) hx hb dX9_day_18 (by decide) ?_
    exact g_ret (pc := 20) C hW hS rfl dX9_day_20 (congrArg (fun q => some (Value.int q)) (o_r h).1) (o_r h).2
  · replace h := o_neg hc0 h
    refine lv_iload_n (pc := 9) hx hb dX9_day_9 rfl (lv_at hl 2 rfl) ?_
    refine lv_iconst (pc := 10) (v := 0) hx hb dX9_day_10 (by decide) ?_
    refine lv_iconst (pc := 11) (v := 1) hx hb dX9_day_11 (by decide) ?_
    refine g_stat (pc := 12) (st2 := [.int (f_X9_in v2 (0 : Int32) (1 : Int32))]) (rest := []) C hW hS (c_X9_in (K := K - 1) (by omega) rfl) mw_X9_84 (hRoom (by omega) (by decide)) rfl rfl rfl (Nat.le_of_ble_eq_true rfl) hl.1 dX9_day_12 (fun H locs hW hS => ?_)
    refine lv_if_ne (pc := 15) (tgt := 21) hx hb dX9_day_15 (by decide) (fun hc1 => ?_) (fun hc1 => ?_)
    · replace h := o_neg hc1 h
      refine lv_iconst (pc := 21) (v := 1) hx hb dX9_day_21 (by decide) ?_
      refine lv_istore_n (pc := 22) (lv' := [(3, .int (1 : Int32)), (0, .ref (z + 80 + 0)), (1, .int v1), (2, .int v2)]) hx hb dX9_day_22 rfl hl (by decide) rfl (fun ls hl => ?_)
      refine lv_aload_n (pc := 23) hx hb dX9_day_23 rfl (lv_at hl 1 rfl) ?_
      refine lv_iconst (pc := 24) (v := 0) hx hb dX9_day_24 (by decide) ?_
      refine pf_X9_46 (pc := 25) C hW hS fl_X9_281 dX9_day_25 (fun H locs hW hS => ?_)
      refine lv_iconst (pc := 28) (v := 0) hx hb dX9_day_28 (by decide) ?_
      refine lv_istore (pc := 29) (lv' := [(4, .int (0 : Int32)), (3, .int (1 : Int32)), (0, .ref (z + 80 + 0)), (1, .int v1), (2, .int v2)]) hx hb dX9_day_29 hl (by decide) rfl (fun ls hl => ?_)
      exact w_X9_day_b31 C hK v1 v2 (1 : Int32) FU (ms σ 0 46 (0 : Int32)) (0 : Int32) hW hS (lv_sub hl [2, 3, 4, 1, 0] rfl) h
    · replace h := o_pos hc1 h
      refine lv_bipush (pc := 18) (v := -2) hx hb dX9_day_18 (by decide) ?_
      exact g_ret (pc := 20) C hW hS rfl dX9_day_20 (congrArg (fun q => some (Value.int q)) (o_r h).1) (o_r h).2

theorem c_X9_toldWrong {K : Nat}  (hK : 2 ≤ K) {σ : Mem} {v1 : Int32} {v2 : Int32} {r : Int32} (h : f_X9_toldWrong σ v1 v2 = some r) : MC l D (Er ac (z + 80)) inR (z + 80) ac (z, aK, aV) (Ar (z + 80)) yX9_toldWrong cX9_toldWrong 3 (some .int) K [.ref (z + 80 + 0), .int v1, .int v2] σ (some (.int r)) σ := by
  refine MC.of (fun q hq => by have := hq.1; show z ≤ q; omega) (plainFor_of_name (by decide)) (Nat.le_of_ble_eq_true rfl) ?_
  intro p e s m below meth c args C hW ls hl
  replace hl : lv_has ls 3 [(0, .ref (z + 80 + 0)), (1, .int v1), (2, .int v2)] := hl
  have hS : va_S (Ar (z + 80)) s.heap s.heap [] := va_S.rf
  have hx := C.1.1
  have hb := C.1.2.1
  unfold f_X9_toldWrong at h
  refine lv_iload_n (pc := 0) hx hb dX9_toldWrong_0 rfl (lv_at hl 1 rfl) ?_
  refine lv_iconst (pc := 1) (v := 0) hx hb dX9_toldWrong_1 (by decide) ?_
  refine lv_iconst (pc := 2) (v := 3) hx hb dX9_toldWrong_2 (by decide) ?_
  refine g_stat (pc := 3) (st2 := [.int (f_X9_in v1 (0 : Int32) (3 : Int32))]) (rest := []) C hW hS (c_X9_in (K := K - 1) (by omega) rfl) mw_X9_84 (hRoom (by omega) (by decide)) rfl rfl rfl (Nat.le_of_ble_eq_true rfl) hl.1 dX9_toldWrong_3 (fun H locs hW hS => ?_)
  refine lv_if_ne (pc := 6) (tgt := 12) hx hb dX9_toldWrong_6 (by decide) (fun hc0 => ?_) (fun hc0 => ?_)
  · replace h := o_neg hc0 h
    refine lv_aload_n (pc := 12) hx hb dX9_toldWrong_12 rfl (lv_at hl 0 rfl) ?_
    refine gf_X9_19 (pc := 13) C hW fl_X9_34 dX9_toldWrong_13 ?_
    refine lv_iload_n (pc := 16) hx hb dX9_toldWrong_16 rfl (lv_at hl 1 rfl) ?_
    obtain ⟨hc1, h⟩ := o_chk h
    refine ir_ld (pc := 17) (k := 9) C hW (by decide) (by decide) rfl rfl (inb_in hc1) dX9_toldWrong_17 ?_
    refine lv_iconst (pc := 18) (v := -1) hx hb dX9_toldWrong_18 (by decide) ?_
    refine lv_icmp_ne (pc := 19) (tgt := 25) hx hb dX9_toldWrong_19 (by decide) (fun hc2 => ?_) (fun hc2 => ?_)
    · replace h := o_neg hc2 h
      refine lv_aload_n (pc := 25) hx hb dX9_toldWrong_25 rfl (lv_at hl 0 rfl) ?_
      refine lv_iload_n (pc := 26) hx hb dX9_toldWrong_26 rfl (lv_at hl 2 rfl) ?_
      refine g_virt (pc := 27) (st2 := [.int (f_X9_isMan σ v2)]) (rest := []) C hW hS (c_X9_isMan (K := K - 1) (by omega) rfl) mw_X9_176 inR0 Er_0 rfl (hRoom (by omega) (by decide)) rfl rfl rfl (Nat.le_of_ble_eq_true rfl) hl.1 dX9_toldWrong_27 (fun H locs hW hS => ?_)
      refine lv_if_eq (pc := 30) (tgt := 37) hx hb dX9_toldWrong_30 (by decide) (fun hc3 => ?_) (fun hc3 => ?_)
      · replace h := o_pos hc3 h
        refine lv_bipush (pc := 37) (v := -5) hx hb dX9_toldWrong_37 (by decide) ?_
        exact g_ret (pc := 39) C hW hS rfl dX9_toldWrong_39 (congrArg (fun q => some (Value.int q)) (Option.some.inj h).symm) rfl
      · replace h := o_neg hc3 h
        refine lv_iconst (pc := 33) (v := 0) hx hb dX9_toldWrong_33 (by decide) ?_
        refine lv_goto (pc := 34) (tgt := 39) hx hb dX9_toldWrong_34 (by decide) ?_
        exact g_ret (pc := 39) C hW hS rfl dX9_toldWrong_39 (congrArg (fun q => some (Value.int q)) (Option.some.inj h).symm) rfl
    · replace h := o_pos hc2 h
      refine lv_bipush (pc := 22) (v := -11) hx hb dX9_toldWrong_22 (by decide) ?_
      exact g_ret (pc := 24) C hW hS rfl dX9_toldWrong_24 (congrArg (fun q => some (Value.int q)) (Option.some.inj h).symm) rfl
  · replace h := o_pos hc0 h
    refine lv_bipush (pc := 9) (v := -2) hx hb dX9_toldWrong_9 (by decide) ?_
    exact g_ret (pc := 11) C hW hS rfl dX9_toldWrong_11 (congrArg (fun q => some (Value.int q)) (Option.some.inj h).symm) rfl

theorem w_X9_unlike_b69 (C : CX cX9_unlike 5 RX9 (some .int) D ac p m c s args meth (z, aK, aV) (Ar (z + 80))) (hK : 5 ≤ K) {r : Int32} {σf : Mem}   (σ : Mem) (v1 : Int32) (v2 : Int32) (v4 : Int32) (k0 : Int32) (s9 : Mem → Int32 → Int32 → Option (Int32 × Mem)) (hs9 : ∀ (σ : Mem) (v3 : Int32) (v4 : Int32) {H : Heap} {locs : List Loc} {ls : Array Slot} (_ : WR D ac (z + 80) σ H) (_ : va_S (Ar (z + 80)) s.heap H locs) (_ : lv_has ls 5 [(0, .ref (z + 80 + 0)), (1, .int v1), (2, .int v2), (3, .int v3), (4, .int v4)]) (_ : s9 σ v3 v4 = some (r, σf)), W p l e (rma K 0 0) s m args below meth c H locs 0 0 (MQ below (QV D (Er ac (z + 80)) inR (z + 80) (some (.int r)) σf (Ar (z + 80))) args s 0 0 (Ar (z + 80))) (F0 m 9 ls [])) {H : Heap} {locs : List Loc} {ls : Array Slot} (hW : WR D ac (z + 80) σ H) (hS : va_S (Ar (z + 80)) s.heap H locs) (hl : lv_has ls 5 [(0, .ref (z + 80 + 0)), (1, .int v1), (2, .int v2), (4, .int v4)]) (h : f_X9_unlike_b69 s9 σ v1 v2 v4 k0 = some (r, σf)) : W p l e (rma K 0 0) s m args below meth c H locs 0 0 (MQ below (QV D (Er ac (z + 80)) inR (z + 80) (some (.int r)) σf (Ar (z + 80))) args s 0 0 (Ar (z + 80))) (F0 m 69 ls [.int k0]) := by
  have hx := C.1.1
  have hb := C.1.2.1
  unfold f_X9_unlike_b69 at h
  refine lv_istore_n (pc := 69) (lv' := [(3, .int k0), (0, .ref (z + 80 + 0)), (1, .int v1), (2, .int v2), (4, .int v4)]) hx hb dX9_unlike_69 rfl hl (by decide) rfl (fun ls hl => ?_)
  refine lv_iinc (pc := 70) (v := (v4 + 1)) (lv' := [(4, .int (v4 + 1)), (3, .int k0), (0, .ref (z + 80 + 0)), (1, .int v1), (2, .int v2)]) hx hb dX9_unlike_70 hl (k := 4) rfl rfl (by decide) rfl (fun ls hl => ?_)
  refine lv_goto (pc := 73) (tgt := 9) hx hb dX9_unlike_73 (by decide) ?_
  exact hs9 σ k0 (v4 + 1) hW hS (lv_sub hl [2, 3, 4, 1, 0] rfl) h

theorem w_X9_unlike_b9 (C : CX cX9_unlike 5 RX9 (some .int) D ac p m c s args meth (z, aK, aV) (Ar (z + 80))) (hK : 5 ≤ K) {r : Int32} {σf : Mem}   (v1 : Int32) (v2 : Int32)  : ∀ (n : Nat) (σ : Mem) (v3 : Int32) (v4 : Int32) {H : Heap} {locs : List Loc} {ls : Array Slot} (hW : WR D ac (z + 80) σ H) (hS : va_S (Ar (z + 80)) s.heap H locs) (hl : lv_has ls 5 [(0, .ref (z + 80 + 0)), (1, .int v1), (2, .int v2), (3, .int v3), (4, .int v4)]) (h : f_X9_unlike_b9 v1 v2 n σ v3 v4 = some (r, σf)), W p l e (rma K 0 0) s m args below meth c H locs 0 0 (MQ below (QV D (Er ac (z + 80)) inR (z + 80) (some (.int r)) σf (Ar (z + 80))) args s 0 0 (Ar (z + 80))) (F0 m 9 ls []) := by
  have hx := C.1.1
  have hb := C.1.2.1
  intro n
  induction n with
  | zero =>
    intro σ v3 v4 H locs ls  hW hS hl h
    cases h
  | succ n ih =>
    intro σ v3 v4 H locs ls  hW hS hl h
    rw [f_X9_unlike_b9.eq_2] at h
    refine lv_iload (pc := 9) hx hb dX9_unlike_9 (lv_at hl 4 rfl) ?_
    refine lv_aload_n (pc := 11) hx hb dX9_unlike_11 rfl (lv_at hl 0 rfl) ?_
    refine gf_X9_20 (pc := 12) C hW fl_X9_37 dX9_unlike_12 ?_
    refine lv_iload_n (pc := 15) hx hb dX9_unlike_15 rfl (lv_at hl 1 rfl) ?_
    obtain ⟨hc2, h⟩ := o_chk h
    refine ir_ld (pc := 16) (k := 10) C hW (by decide) (by decide) rfl rfl (inb_in hc2) dX9_unlike_16 ?_
    refine lv_icmp_ge (pc := 17) (tgt := 76) hx hb dX9_unlike_17 (by decide) (fun hc3 => ?_) (fun hc3 => ?_)
    · replace h := o_pos hc3 h
      refine lv_aload_n (pc := 76) hx hb dX9_unlike_76 rfl (lv_at hl 0 rfl) ?_
      obtain ⟨σ6, hc4, h⟩ := o_b h
      refine g_virt (pc := 77) (st2 := []) (rest := []) C hW hS (c_X9_laysBack (K := K - 1) (by omega) hc4) mw_X9_234 inR0 Er_0 rfl (hRoom (by omega) (by decide)) rfl rfl rfl (Nat.le_of_ble_eq_true rfl) hl.1 dX9_unlike_77 (fun H locs hW hS => ?_)
      refine lv_iload_n (pc := 80) hx hb dX9_unlike_80 rfl (lv_at hl 3 rfl) ?_
      exact g_ret (pc := 81) C hW hS rfl dX9_unlike_81 (congrArg (fun q => some (Value.int q)) (o_r h).1) (o_r h).2
    · replace h := o_neg hc3 h
      refine lv_iload_n (pc := 20) hx hb dX9_unlike_20 rfl (lv_at hl 3 rfl) ?_
      refine lv_iconst (pc := 21) (v := -1) hx hb dX9_unlike_21 (by decide) ?_
      refine lv_icmp_ne (pc := 22) (tgt := 76) hx hb dX9_unlike_22 (by decide) (fun hc6 => ?_) (fun hc6 => ?_)
      · replace h := o_neg hc6 h
        refine lv_aload_n (pc := 76) hx hb dX9_unlike_76 rfl (lv_at hl 0 rfl) ?_
        obtain ⟨σ9, hc7, h⟩ := o_b h
        refine g_virt (pc := 77) (st2 := []) (rest := []) C hW hS (c_X9_laysBack (K := K - 1) (by omega) hc7) mw_X9_234 inR0 Er_0 rfl (hRoom (by omega) (by decide)) rfl rfl rfl (Nat.le_of_ble_eq_true rfl) hl.1 dX9_unlike_77 (fun H locs hW hS => ?_)
        refine lv_iload_n (pc := 80) hx hb dX9_unlike_80 rfl (lv_at hl 3 rfl) ?_
        exact g_ret (pc := 81) C hW hS rfl dX9_unlike_81 (congrArg (fun q => some (Value.int q)) (o_r h).1) (o_r h).2
      · replace h := o_pos hc6 h
        refine lv_aload_n (pc := 25) hx hb dX9_unlike_25 rfl (lv_at hl 0 rfl) ?_
        refine lv_iload_n (pc := 26) hx hb dX9_unlike_26 rfl (lv_at hl 2 rfl) ?_
        obtain ⟨σ11, hc9, h⟩ := o_b h
        refine g_virt (pc := 27) (st2 := []) (rest := []) C hW hS (c_X9_grow (K := K - 1) (by omega) hc9) mw_X9_216 inR0 Er_0 rfl (hRoom (by omega) (by decide)) rfl rfl rfl (Nat.le_of_ble_eq_true rfl) hl.1 dX9_unlike_27 (fun H locs hW hS => ?_)
        refine lv_aload_n (pc := 30) hx hb dX9_unlike_30 rfl (lv_at hl 0 rfl) ?_
        refine lv_dup (pc := 31) hx hb dX9_unlike_31 rfl ?_
        refine gf_X9_6 (pc := 32) C hW fl_X9_91 dX9_unlike_32 ?_
        refine lv_iconst (pc := 35) (v := 1) hx hb dX9_unlike_35 (by decide) ?_
        refine lv_iadd (pc := 36) hx hb dX9_unlike_36 ?_
        refine pf_X9_6 (pc := 37) C hW hS fl_X9_91 dX9_unlike_37 (fun H locs hW hS => ?_)
        refine lv_aload_n (pc := 40) hx hb dX9_unlike_40 rfl (lv_at hl 0 rfl) ?_
        refine gf_X9_21 (pc := 41) C hW fl_X9_40 dX9_unlike_41 ?_
        refine lv_bipush (pc := 44) (v := 40) hx hb dX9_unlike_44 (by decide) ?_
        refine lv_iload_n (pc := 46) hx hb dX9_unlike_46 rfl (lv_at hl 1 rfl) ?_
        refine lv_imul (pc := 47) hx hb dX9_unlike_47 ?_
        refine lv_iload (pc := 48) hx hb dX9_unlike_48 (lv_at hl 4 rfl) ?_
        refine lv_iadd (pc := 50) hx hb dX9_unlike_50 ?_
        obtain ⟨hc11, h⟩ := o_chk h
        refine ir_ld (pc := 51) (k := 11) C hW (by decide) (by decide) rfl rfl (inb_in hc11) dX9_unlike_51 ?_
        refine lv_aload_n (pc := 52) hx hb dX9_unlike_52 rfl (lv_at hl 0 rfl) ?_
        refine gf_X9_3 (pc := 53) C hW fl_X9_16 dX9_unlike_53 ?_
        refine lv_iconst (pc := 56) (v := 4) hx hb dX9_unlike_56 (by decide) ?_
        refine lv_iload_n (pc := 57) hx hb dX9_unlike_57 rfl (lv_at hl 2 rfl) ?_
        refine lv_imul (pc := 58) hx hb dX9_unlike_58 ?_
        obtain ⟨hc12, h⟩ := o_chk h
        refine ir_ld (pc := 59) (k := 3) C hW (by decide) (by decide) rfl rfl (inb_in hc12) dX9_unlike_59 ?_
        refine lv_icmp_ne (pc := 60) (tgt := 67) hx hb dX9_unlike_60 (by decide) (fun hc13 => ?_) (fun hc13 => ?_)
        · replace h := o_neg hc13 h
          refine lv_iload (pc := 67) hx hb dX9_unlike_67 (lv_at hl 4 rfl) ?_
          exact w_X9_unlike_b69 C hK (ms σ11 0 6 ((σ11 0 6) + (1 : Int32))) v1 v2 v4 v4 (f_X9_unlike_b9 v1 v2 n) (fun σ v3 v4 {H : Heap} {locs : List Loc} {ls : Array Slot}  hW hS hl h => ih σ v3 v4 hW hS hl h) hW hS (lv_sub hl [0, 1, 2, 4] rfl) h
        · replace h := o_pos hc13 h
          refine lv_iconst (pc := 63) (v := -1) hx hb dX9_unlike_63 (by decide) ?_
          refine lv_goto (pc := 64) (tgt := 69) hx hb dX9_unlike_64 (by decide) ?_
          exact w_X9_unlike_b69 C hK (ms σ11 0 6 ((σ11 0 6) + (1 : Int32))) v1 v2 v4 (-1 : Int32) (f_X9_unlike_b9 v1 v2 n) (fun σ v3 v4 {H : Heap} {locs : List Loc} {ls : Array Slot}  hW hS hl h => ih σ v3 v4 hW hS hl h) hW hS (lv_sub hl [0, 1, 2, 4] rfl) h

theorem c_X9_unlike {K : Nat}  (hK : 5 ≤ K) {σ : Mem} {σf : Mem} {v1 : Int32} {v2 : Int32} {r : Int32} (h : f_X9_unlike σ v1 v2 = some (r, σf)) : MC l D (Er ac (z + 80)) inR (z + 80) ac (z, aK, aV) (Ar (z + 80)) yX9_unlike cX9_unlike 5 (some .int) K [.ref (z + 80 + 0), .int v1, .int v2] σ (some (.int r)) σf := by
  refine MC.of (fun q hq => by have := hq.1; show z ≤ q; omega) (plainFor_of_name (by decide)) (Nat.le_of_ble_eq_true rfl) ?_
  intro p e s m below meth c args C hW ls hl
  replace hl : lv_has ls 5 [(0, .ref (z + 80 + 0)), (1, .int v1), (2, .int v2)] := hl
  have hS : va_S (Ar (z + 80)) s.heap s.heap [] := va_S.rf
  have hx := C.1.1
  have hb := C.1.2.1
  unfold f_X9_unlike at h
  refine lv_iconst (pc := 0) (v := -1) hx hb dX9_unlike_0 (by decide) ?_
  refine lv_istore_n (pc := 1) (lv' := [(3, .int (-1 : Int32)), (0, .ref (z + 80 + 0)), (1, .int v1), (2, .int v2)]) hx hb dX9_unlike_1 rfl hl (by decide) rfl (fun ls hl => ?_)
  refine lv_aload_n (pc := 2) hx hb dX9_unlike_2 rfl (lv_at hl 1 rfl) ?_
  obtain ⟨σ2, hc0, h⟩ := o_b h
  refine g_virt (pc := 3) (st2 := []) (rest := []) C hW hS (c_X9_keeps (K := K - 1) (by omega) hc0) mw_X9_231 inR0 Er_0 rfl (hRoom (by omega) (by decide)) rfl rfl rfl (Nat.le_of_ble_eq_true rfl) hl.1 dX9_unlike_3 (fun H locs hW hS => ?_)
  refine lv_iconst (pc := 6) (v := 0) hx hb dX9_unlike_6 (by decide) ?_
  refine lv_istore (pc := 7) (lv' := [(4, .int (0 : Int32)), (3, .int (-1 : Int32)), (0, .ref (z + 80 + 0)), (1, .int v1), (2, .int v2)]) hx hb dX9_unlike_7 hl (by decide) rfl (fun ls hl => ?_)
  exact w_X9_unlike_b9 C hK v1 v2 FU σ2 (-1 : Int32) (0 : Int32) hW hS (lv_sub hl [2, 3, 4, 1, 0] rfl) h

theorem c_X9_judge {K : Nat}  (hK : 6 ≤ K) {σ : Mem} {σf : Mem} {v1 : Int32} {v2 : Int32} {r : Int32} (h : f_X9_judge σ v1 v2 = some (r, σf)) : MC l D (Er ac (z + 80)) inR (z + 80) ac (z, aK, aV) (Ar (z + 80)) yX9_judge cX9_judge 4 (some .int) K [.ref (z + 80 + 0), .int v1, .int v2] σ (some (.int r)) σf := by
  refine MC.of (fun q hq => by have := hq.1; show z ≤ q; omega) (plainFor_of_name (by decide)) (Nat.le_of_ble_eq_true rfl) ?_
  intro p e s m below meth c args C hW ls hl
  replace hl : lv_has ls 4 [(0, .ref (z + 80 + 0)), (1, .int v1), (2, .int v2)] := hl
  have hS : va_S (Ar (z + 80)) s.heap s.heap [] := va_S.rf
  have hx := C.1.1
  have hb := C.1.2.1
  unfold f_X9_judge at h
  refine lv_aload_n (pc := 0) hx hb dX9_judge_0 rfl (lv_at hl 0 rfl) ?_
  refine lv_iload_n (pc := 1) hx hb dX9_judge_1 rfl (lv_at hl 1 rfl) ?_
  refine lv_iload_n (pc := 2) hx hb dX9_judge_2 rfl (lv_at hl 2 rfl) ?_
  obtain ⟨r2, hc0, h⟩ := o_b h
  refine g_virt (pc := 3) (st2 := [.int r2]) (rest := []) C hW hS (c_X9_toldWrong (K := K - 1) (by omega) hc0) mw_X9_293 inR0 Er_0 rfl (hRoom (by omega) (by decide)) rfl rfl rfl (Nat.le_of_ble_eq_true rfl) hl.1 dX9_judge_3 (fun H locs hW hS => ?_)
  refine lv_istore_n (pc := 6) (lv' := [(3, .int r2), (0, .ref (z + 80 + 0)), (1, .int v1), (2, .int v2)]) hx hb dX9_judge_6 rfl hl (by decide) rfl (fun ls hl => ?_)
  refine lv_iload_n (pc := 7) hx hb dX9_judge_7 rfl (lv_at hl 0 rfl) ?_
  refine lv_if_ne (pc := 8) (tgt := 20) hx hb dX9_judge_8 (by decide) (fun hc2 => ?_) (fun hc2 => ?_)
  · replace h := o_neg hc2 h
    refine lv_iload_n (pc := 20) hx hb dX9_judge_20 rfl (lv_at hl 0 rfl) ?_
    exact g_ret (pc := 21) C hW hS rfl dX9_judge_21 (congrArg (fun q => some (Value.int q)) (o_r h).1) (o_r h).2
  · replace h := o_pos hc2 h
    refine lv_aload_n (pc := 11) hx hb dX9_judge_11 rfl (lv_at hl 1 rfl) ?_
    refine lv_iload_n (pc := 12) hx hb dX9_judge_12 rfl (lv_at hl 2 rfl) ?_
    refine lv_iload_n (pc := 13) hx hb dX9_judge_13 rfl (lv_at hl 3 rfl) ?_
    obtain ⟨r5, σ6, hc3, h⟩ := o_b2 h
    refine g_virt (pc := 14) (st2 := [.int r5]) (rest := []) C hW hS (c_X9_unlike (K := K - 1) (by omega) hc3) mw_X9_296 inR0 Er_0 rfl (hRoom (by omega) (by decide)) rfl rfl rfl (Nat.le_of_ble_eq_true rfl) hl.1 dX9_judge_14 (fun H locs hW hS => ?_)
    refine lv_goto (pc := 17) (tgt := 21) hx hb dX9_judge_17 (by decide) ?_
    exact g_ret (pc := 21) C hW hS rfl dX9_judge_21 (congrArg (fun q => some (Value.int q)) (o_r h).1) (o_r h).2

theorem w_X9_kinds_b155 (C : CX cX9_kinds 10 RX9 (some .int) D ac p m c s args meth (z, aK, aV) (Ar (z + 80))) (hK : 6 ≤ K) {r : Int32} {σf : Mem}   (σ : Mem) (v1 : Int32) (v2 : Int32) (v3 : Int32) (v5 : Int32) (v6 : Int32) (v7 : Int32) (v9 : Int32) (k0 : Int32) (k1 : Int32) (s62 : Mem → Int32 → Int32 → Option (Int32 × Mem)) (hs62 : ∀ (σ : Mem) (v8 : Int32) (v9 : Int32) {H : Heap} {locs : List Loc} {ls : Array Slot} (_ : WR D ac (z + 80) σ H) (_ : va_S (Ar (z + 80)) s.heap H locs) (_ : lv_has ls 10 [(0, .ref (z + 80 + 0)), (1, .int v1), (2, .int v2), (3, .int v3), (5, .int v5), (6, .int v6), (7, .int v7), (8, .int v8), (9, .int v9)]) (_ : s62 σ v8 v9 = some (r, σf)), W p l e (rma K 0 0) s m args below meth c H locs 0 0 (MQ below (QV D (Er ac (z + 80)) inR (z + 80) (some (.int r)) σf (Ar (z + 80))) args s 0 0 (Ar (z + 80))) (F0 m 62 ls [])) {H : Heap} {locs : List Loc} {ls : Array Slot} (hW : WR D ac (z + 80) σ H) (hS : va_S (Ar (z + 80)) s.heap H locs) (hl : lv_has ls 10 [(0, .ref (z + 80 + 0)), (1, .int v1), (2, .int v2), (3, .int v3), (5, .int v5), (6, .int v6), (7, .int v7), (9, .int v9)]) (h : f_X9_kinds_b155 s62 σ v1 v2 v3 v5 v6 v7 v9 k0 k1 = some (r, σf)) : W p l e (rma K 0 0) s m args below meth c H locs 0 0 (MQ below (QV D (Er ac (z + 80)) inR (z + 80) (some (.int r)) σf (Ar (z + 80))) args s 0 0 (Ar (z + 80))) (F0 m 155 ls [.int k1, .int k0]) := by
  have hx := C.1.1
  have hb := C.1.2.1
  unfold f_X9_kinds_b155 at h
  refine lv_ior (pc := 155) hx hb dX9_kinds_155 ?_
  refine lv_istore (pc := 156) (lv' := [(8, .int (k0 ||| k1)), (0, .ref (z + 80 + 0)), (1, .int v1), (2, .int v2), (3, .int v3), (5, .int v5), (6, .int v6), (7, .int v7), (9, .int v9)]) hx hb dX9_kinds_156 hl (by decide) rfl (fun ls hl => ?_)
  refine lv_iinc (pc := 158) (v := (v9 + 1)) (lv' := [(9, .int (v9 + 1)), (8, .int (k0 ||| k1)), (0, .ref (z + 80 + 0)), (1, .int v1), (2, .int v2), (3, .int v3), (5, .int v5), (6, .int v6), (7, .int v7)]) hx hb dX9_kinds_158 hl (k := 8) rfl rfl (by decide) rfl (fun ls hl => ?_)
  refine lv_goto (pc := 161) (tgt := 62) hx hb dX9_kinds_161 (by decide) ?_
  exact hs62 σ (k0 ||| k1) (v9 + 1) hW hS (lv_sub hl [2, 3, 4, 5, 6, 7, 8, 1, 0] rfl) h

theorem w_X9_kinds_b134 (C : CX cX9_kinds 10 RX9 (some .int) D ac p m c s args meth (z, aK, aV) (Ar (z + 80))) (hK : 6 ≤ K) {r : Int32} {σf : Mem}   (σ : Mem) (v1 : Int32) (v2 : Int32) (v3 : Int32) (v5 : Int32) (v6 : Int32) (v7 : Int32) (v8 : Int32) (v9 : Int32) (k1 : Int32) (k2 : Int32) (s62 : Mem → Int32 → Int32 → Option (Int32 × Mem)) (hs62 : ∀ (σ : Mem) (v8 : Int32) (v9 : Int32) {H : Heap} {locs : List Loc} {ls : Array Slot} (_ : WR D ac (z + 80) σ H) (_ : va_S (Ar (z + 80)) s.heap H locs) (_ : lv_has ls 10 [(0, .ref (z + 80 + 0)), (1, .int v1), (2, .int v2), (3, .int v3), (5, .int v5), (6, .int v6), (7, .int v7), (8, .int v8), (9, .int v9)]) (_ : s62 σ v8 v9 = some (r, σf)), W p l e (rma K 0 0) s m args below meth c H locs 0 0 (MQ below (QV D (Er ac (z + 80)) inR (z + 80) (some (.int r)) σf (Ar (z + 80))) args s 0 0 (Ar (z + 80))) (F0 m 62 ls [])) {H : Heap} {locs : List Loc} {ls : Array Slot} (hW : WR D ac (z + 80) σ H) (hS : va_S (Ar (z + 80)) s.heap H locs) (hl : lv_has ls 10 [(0, .ref (z + 80 + 0)), (1, .int v1), (2, .int v2), (3, .int v3), (5, .int v5), (6, .int v6), (7, .int v7), (8, .int v8), (9, .int v9)]) (h : f_X9_kinds_b134 s62 σ v1 v2 v3 v5 v6 v7 v8 v9 k1 k2 = some (r, σf)) : W p l e (rma K 0 0) s m args below meth c H locs 0 0 (MQ below (QV D (Er ac (z + 80)) inR (z + 80) (some (.int r)) σf (Ar (z + 80))) args s 0 0 (Ar (z + 80))) (F0 m 134 ls [.int k2, .int k1, .ref (z + 80 + 3)]) := by
  have hx := C.1.1
  have hb := C.1.2.1
  unfold f_X9_kinds_b134 at h
  obtain ⟨hc20, h⟩ := o_chk h
  refine ir_st (pc := 134) (k := 3) C hW hS (by decide) (by decide) rfl rfl (inb_in hc20) dX9_kinds_134 (fun H locs hW hS => ?_)
  refine lv_iload (pc := 135) hx hb dX9_kinds_135 (lv_at hl 7 rfl) ?_
  refine lv_aload_n (pc := 137) hx hb dX9_kinds_137 rfl (lv_at hl 0 rfl) ?_
  refine lv_iload_n (pc := 138) hx hb dX9_kinds_138 rfl (lv_at hl 1 rfl) ?_
  refine lv_iload_n (pc := 139) hx hb dX9_kinds_139 rfl (lv_at hl 2 rfl) ?_
  obtain ⟨r23, σ24, hc21, h⟩ := o_b2 h
  refine g_virt (pc := 140) (st2 := [.int r23, .int v8]) (rest := [.int v8]) C hW hS (c_X9_unlike (K := K - 1) (by omega) hc21) mw_X9_296 inR0 Er_0 rfl (hRoom (by omega) (by decide)) rfl rfl rfl (Nat.le_of_ble_eq_true rfl) hl.1 dX9_kinds_140 (fun H locs hW hS => ?_)
  refine lv_iconst (pc := 143) (v := -1) hx hb dX9_kinds_143 (by decide) ?_
  refine lv_icmp_ne (pc := 144) (tgt := 154) hx hb dX9_kinds_144 (by decide) (fun hc24 => ?_) (fun hc24 => ?_)
  · replace h := o_neg hc24 h
    refine lv_iconst (pc := 154) (v := 0) hx hb dX9_kinds_154 (by decide) ?_
    exact w_X9_kinds_b155 C hK σ24 v1 v2 v3 v5 v6 v7 v9 v8 (0 : Int32) s62 hs62 hW hS (lv_sub hl [0, 1, 2, 3, 4, 5, 6, 8] rfl) h
  · replace h := o_pos hc24 h
    refine lv_iconst (pc := 147) (v := 1) hx hb dX9_kinds_147 (by decide) ?_
    refine lv_iload (pc := 148) hx hb dX9_kinds_148 (lv_at hl 8 rfl) ?_
    refine lv_ishl (pc := 150) hx hb dX9_kinds_150 ?_
    refine lv_goto (pc := 151) (tgt := 155) hx hb dX9_kinds_151 (by decide) ?_
    exact w_X9_kinds_b155 C hK σ24 v1 v2 v3 v5 v6 v7 v9 v8 ((1 : Int32) <<< (v9 &&& 31)) s62 hs62 hW hS (lv_sub hl [0, 1, 2, 3, 4, 5, 6, 8] rfl) h

theorem w_X9_kinds_b112 (C : CX cX9_kinds 10 RX9 (some .int) D ac p m c s args meth (z, aK, aV) (Ar (z + 80))) (hK : 6 ≤ K) {r : Int32} {σf : Mem}   (σ : Mem) (v1 : Int32) (v2 : Int32) (v3 : Int32) (v5 : Int32) (v6 : Int32) (v7 : Int32) (v8 : Int32) (v9 : Int32) (k1 : Int32) (k2 : Int32) (s62 : Mem → Int32 → Int32 → Option (Int32 × Mem)) (hs62 : ∀ (σ : Mem) (v8 : Int32) (v9 : Int32) {H : Heap} {locs : List Loc} {ls : Array Slot} (_ : WR D ac (z + 80) σ H) (_ : va_S (Ar (z + 80)) s.heap H locs) (_ : lv_has ls 10 [(0, .ref (z + 80 + 0)), (1, .int v1), (2, .int v2), (3, .int v3), (5, .int v5), (6, .int v6), (7, .int v7), (8, .int v8), (9, .int v9)]) (_ : s62 σ v8 v9 = some (r, σf)), W p l e (rma K 0 0) s m args below meth c H locs 0 0 (MQ below (QV D (Er ac (z + 80)) inR (z + 80) (some (.int r)) σf (Ar (z + 80))) args s 0 0 (Ar (z + 80))) (F0 m 62 ls [])) {H : Heap} {locs : List Loc} {ls : Array Slot} (hW : WR D ac (z + 80) σ H) (hS : va_S (Ar (z + 80)) s.heap H locs) (hl : lv_has ls 10 [(0, .ref (z + 80 + 0)), (1, .int v1), (2, .int v2), (3, .int v3), (5, .int v5), (6, .int v6), (7, .int v7), (8, .int v8), (9, .int v9)]) (h : f_X9_kinds_b112 s62 σ v1 v2 v3 v5 v6 v7 v8 v9 k1 k2 = some (r, σf)) : W p l e (rma K 0 0) s m args below meth c H locs 0 0 (MQ below (QV D (Er ac (z + 80)) inR (z + 80) (some (.int r)) σf (Ar (z + 80))) args s 0 0 (Ar (z + 80))) (F0 m 112 ls [.int k2, .int k1, .ref (z + 80 + 2)]) := by
  have hx := C.1.1
  have hb := C.1.2.1
  unfold f_X9_kinds_b112 at h
  obtain ⟨hc18, h⟩ := o_chk h
  refine ir_st (pc := 112) (k := 2) C hW hS (by decide) (by decide) rfl rfl (inb_in hc18) dX9_kinds_112 (fun H locs hW hS => ?_)
  refine lv_aload_n (pc := 113) hx hb dX9_kinds_113 rfl (lv_at hl 0 rfl) ?_
  refine gf_X9_3 (pc := 114) C hW fl_X9_16 dX9_kinds_114 ?_
  refine lv_iconst (pc := 117) (v := 4) hx hb dX9_kinds_117 (by decide) ?_
  refine lv_iload_n (pc := 118) hx hb dX9_kinds_118 rfl (lv_at hl 2 rfl) ?_
  refine lv_imul (pc := 119) hx hb dX9_kinds_119 ?_
  refine lv_iconst (pc := 120) (v := 1) hx hb dX9_kinds_120 (by decide) ?_
  refine lv_iadd (pc := 121) hx hb dX9_kinds_121 ?_
  refine lv_iload_n (pc := 122) hx hb dX9_kinds_122 rfl (lv_at hl 3 rfl) ?_
  refine lv_iconst (pc := 123) (v := 2) hx hb dX9_kinds_123 (by decide) ?_
  refine lv_icmp_ne (pc := 124) (tgt := 132) hx hb dX9_kinds_124 (by decide) (fun hc19 => ?_) (fun hc19 => ?_)
  · replace h := o_neg hc19 h
    refine lv_iload (pc := 132) hx hb dX9_kinds_132 (lv_at hl 6 rfl) ?_
    exact w_X9_kinds_b134 C hK (ms σ 2 (k1.toNatClampNeg) k2) v1 v2 v3 v5 v6 v7 v8 v9 (((4 : Int32) * v2) + (1 : Int32)) v7 s62 hs62 hW hS (lv_sub hl [0, 1, 2, 3, 4, 5, 6, 7, 8] rfl) h
  · replace h := o_pos hc19 h
    refine lv_iload (pc := 127) hx hb dX9_kinds_127 (lv_at hl 8 rfl) ?_
    refine lv_goto (pc := 129) (tgt := 134) hx hb dX9_kinds_129 (by decide) ?_
    exact w_X9_kinds_b134 C hK (ms σ 2 (k1.toNatClampNeg) k2) v1 v2 v3 v5 v6 v7 v8 v9 (((4 : Int32) * v2) + (1 : Int32)) v9 s62 hs62 hW hS (lv_sub hl [0, 1, 2, 3, 4, 5, 6, 7, 8] rfl) h

theorem w_X9_kinds_b94 (C : CX cX9_kinds 10 RX9 (some .int) D ac p m c s args meth (z, aK, aV) (Ar (z + 80))) (hK : 6 ≤ K) {r : Int32} {σf : Mem}   (σ : Mem) (v1 : Int32) (v2 : Int32) (v3 : Int32) (v5 : Int32) (v6 : Int32) (v7 : Int32) (v8 : Int32) (v9 : Int32) (k1 : Int32) (k2 : Int32) (s62 : Mem → Int32 → Int32 → Option (Int32 × Mem)) (hs62 : ∀ (σ : Mem) (v8 : Int32) (v9 : Int32) {H : Heap} {locs : List Loc} {ls : Array Slot} (_ : WR D ac (z + 80) σ H) (_ : va_S (Ar (z + 80)) s.heap H locs) (_ : lv_has ls 10 [(0, .ref (z + 80 + 0)), (1, .int v1), (2, .int v2), (3, .int v3), (5, .int v5), (6, .int v6), (7, .int v7), (8, .int v8), (9, .int v9)]) (_ : s62 σ v8 v9 = some (r, σf)), W p l e (rma K 0 0) s m args below meth c H locs 0 0 (MQ below (QV D (Er ac (z + 80)) inR (z + 80) (some (.int r)) σf (Ar (z + 80))) args s 0 0 (Ar (z + 80))) (F0 m 62 ls [])) {H : Heap} {locs : List Loc} {ls : Array Slot} (hW : WR D ac (z + 80) σ H) (hS : va_S (Ar (z + 80)) s.heap H locs) (hl : lv_has ls 10 [(0, .ref (z + 80 + 0)), (1, .int v1), (2, .int v2), (3, .int v3), (5, .int v5), (6, .int v6), (7, .int v7), (8, .int v8), (9, .int v9)]) (h : f_X9_kinds_b94 s62 σ v1 v2 v3 v5 v6 v7 v8 v9 k1 k2 = some (r, σf)) : W p l e (rma K 0 0) s m args below meth c H locs 0 0 (MQ below (QV D (Er ac (z + 80)) inR (z + 80) (some (.int r)) σf (Ar (z + 80))) args s 0 0 (Ar (z + 80))) (F0 m 94 ls [.int k2, .int k1, .ref (z + 80 + 1)]) := by
  have hx := C.1.1
  have hb := C.1.2.1
  unfold f_X9_kinds_b94 at h
  obtain ⟨hc16, h⟩ := o_chk h
  refine ir_st (pc := 94) (k := 1) C hW hS (by decide) (by decide) rfl rfl (inb_in hc16) dX9_kinds_94 (fun H locs hW hS => ?_)
  refine lv_aload_n (pc := 95) hx hb dX9_kinds_95 rfl (lv_at hl 0 rfl) ?_
  refine gf_X9_2 (pc := 96) C hW fl_X9_13 dX9_kinds_96 ?_
  refine lv_iload_n (pc := 99) hx hb dX9_kinds_99 rfl (lv_at hl 2 rfl) ?_
  refine lv_iload_n (pc := 100) hx hb dX9_kinds_100 rfl (lv_at hl 3 rfl) ?_
  refine lv_iconst (pc := 101) (v := 1) hx hb dX9_kinds_101 (by decide) ?_
  refine lv_icmp_ne (pc := 102) (tgt := 110) hx hb dX9_kinds_102 (by decide) (fun hc17 => ?_) (fun hc17 => ?_)
  · replace h := o_neg hc17 h
    refine lv_iload (pc := 110) hx hb dX9_kinds_110 (lv_at hl 5 rfl) ?_
    exact w_X9_kinds_b112 C hK (ms σ 1 (k1.toNatClampNeg) k2) v1 v2 v3 v5 v6 v7 v8 v9 v2 v6 s62 hs62 hW hS (lv_sub hl [0, 1, 2, 3, 4, 5, 6, 7, 8] rfl) h
  · replace h := o_pos hc17 h
    refine lv_iload (pc := 105) hx hb dX9_kinds_105 (lv_at hl 8 rfl) ?_
    refine lv_goto (pc := 107) (tgt := 112) hx hb dX9_kinds_107 (by decide) ?_
    exact w_X9_kinds_b112 C hK (ms σ 1 (k1.toNatClampNeg) k2) v1 v2 v3 v5 v6 v7 v8 v9 v2 v9 s62 hs62 hW hS (lv_sub hl [0, 1, 2, 3, 4, 5, 6, 7, 8] rfl) h

theorem w_X9_kinds_b75 (C : CX cX9_kinds 10 RX9 (some .int) D ac p m c s args meth (z, aK, aV) (Ar (z + 80))) (hK : 6 ≤ K) {r : Int32} {σf : Mem}   (σ : Mem) (v1 : Int32) (v2 : Int32) (v3 : Int32) (v5 : Int32) (v6 : Int32) (v7 : Int32) (v8 : Int32) (v9 : Int32) (k0 : Int32) (k1 : Int32) (s62 : Mem → Int32 → Int32 → Option (Int32 × Mem)) (hs62 : ∀ (σ : Mem) (v8 : Int32) (v9 : Int32) {H : Heap} {locs : List Loc} {ls : Array Slot} (_ : WR D ac (z + 80) σ H) (_ : va_S (Ar (z + 80)) s.heap H locs) (_ : lv_has ls 10 [(0, .ref (z + 80 + 0)), (1, .int v1), (2, .int v2), (3, .int v3), (5, .int v5), (6, .int v6), (7, .int v7), (8, .int v8), (9, .int v9)]) (_ : s62 σ v8 v9 = some (r, σf)), W p l e (rma K 0 0) s m args below meth c H locs 0 0 (MQ below (QV D (Er ac (z + 80)) inR (z + 80) (some (.int r)) σf (Ar (z + 80))) args s 0 0 (Ar (z + 80))) (F0 m 62 ls [])) {H : Heap} {locs : List Loc} {ls : Array Slot} (hW : WR D ac (z + 80) σ H) (hS : va_S (Ar (z + 80)) s.heap H locs) (hl : lv_has ls 10 [(0, .ref (z + 80 + 0)), (1, .int v1), (2, .int v2), (3, .int v3), (5, .int v5), (6, .int v6), (7, .int v7), (8, .int v8), (9, .int v9)]) (h : f_X9_kinds_b75 s62 σ v1 v2 v3 v5 v6 v7 v8 v9 k0 k1 = some (r, σf)) : W p l e (rma K 0 0) s m args below meth c H locs 0 0 (MQ below (QV D (Er ac (z + 80)) inR (z + 80) (some (.int r)) σf (Ar (z + 80))) args s 0 0 (Ar (z + 80))) (F0 m 75 ls [.int k1, .int k0]) := by
  have hx := C.1.1
  have hb := C.1.2.1
  unfold f_X9_kinds_b75 at h
  refine lv_icmp_ge (pc := 75) (tgt := 164) hx hb dX9_kinds_75 (by decide) (fun hc9 => ?_) (fun hc9 => ?_)
  · replace h := o_pos hc9 h
    refine lv_aload_n (pc := 164) hx hb dX9_kinds_164 rfl (lv_at hl 0 rfl) ?_
    refine gf_X9_1 (pc := 165) C hW fl_X9_7 dX9_kinds_165 ?_
    refine lv_iload_n (pc := 168) hx hb dX9_kinds_168 rfl (lv_at hl 2 rfl) ?_
    refine lv_iload (pc := 169) hx hb dX9_kinds_169 (lv_at hl 4 rfl) ?_
    obtain ⟨hc10, h⟩ := o_chk h
    refine ir_st (pc := 171) (k := 1) C hW hS (by decide) (by decide) rfl rfl (inb_in hc10) dX9_kinds_171 (fun H locs hW hS => ?_)
    refine lv_aload_n (pc := 172) hx hb dX9_kinds_172 rfl (lv_at hl 0 rfl) ?_
    refine gf_X9_2 (pc := 173) C hW fl_X9_13 dX9_kinds_173 ?_
    refine lv_iload_n (pc := 176) hx hb dX9_kinds_176 rfl (lv_at hl 2 rfl) ?_
    refine lv_iload (pc := 177) hx hb dX9_kinds_177 (lv_at hl 5 rfl) ?_
    obtain ⟨hc11, h⟩ := o_chk h
    refine ir_st (pc := 179) (k := 2) C hW hS (by decide) (by decide) rfl rfl (inb_in hc11) dX9_kinds_179 (fun H locs hW hS => ?_)
    obtain ⟨σ13, hσ13, h⟩ := o_d h
    replace hW : WR D ac (z + 80) σ13 H := by rw [← hσ13]; exact hW
    refine lv_aload_n (pc := 180) hx hb dX9_kinds_180 rfl (lv_at hl 0 rfl) ?_
    refine gf_X9_3 (pc := 181) C hW fl_X9_16 dX9_kinds_181 ?_
    refine lv_iconst (pc := 184) (v := 4) hx hb dX9_kinds_184 (by decide) ?_
    refine lv_iload_n (pc := 185) hx hb dX9_kinds_185 rfl (lv_at hl 2 rfl) ?_
    refine lv_imul (pc := 186) hx hb dX9_kinds_186 ?_
    refine lv_iconst (pc := 187) (v := 1) hx hb dX9_kinds_187 (by decide) ?_
    refine lv_iadd (pc := 188) hx hb dX9_kinds_188 ?_
    refine lv_iload (pc := 189) hx hb dX9_kinds_189 (lv_at hl 6 rfl) ?_
    obtain ⟨hc13, h⟩ := o_chk h
    refine ir_st (pc := 191) (k := 3) C hW hS (by decide) (by decide) rfl rfl (inb_in hc13) dX9_kinds_191 (fun H locs hW hS => ?_)
    obtain ⟨σ15, hσ15, h⟩ := o_d h
    replace hW : WR D ac (z + 80) σ15 H := by rw [← hσ15]; exact hW
    refine lv_iload (pc := 192) hx hb dX9_kinds_192 (lv_at hl 7 rfl) ?_
    exact g_ret (pc := 194) C hW hS rfl dX9_kinds_194 (congrArg (fun q => some (Value.int q)) (o_r h).1) (o_r h).2
  · replace h := o_neg hc9 h
    refine lv_aload_n (pc := 78) hx hb dX9_kinds_78 rfl (lv_at hl 0 rfl) ?_
    refine gf_X9_1 (pc := 79) C hW fl_X9_7 dX9_kinds_79 ?_
    refine lv_iload_n (pc := 82) hx hb dX9_kinds_82 rfl (lv_at hl 2 rfl) ?_
    refine lv_iload_n (pc := 83) hx hb dX9_kinds_83 rfl (lv_at hl 3 rfl) ?_
    refine lv_if_ne (pc := 84) (tgt := 92) hx hb dX9_kinds_84 (by decide) (fun hc15 => ?_) (fun hc15 => ?_)
    · replace h := o_neg hc15 h
      refine lv_iload (pc := 92) hx hb dX9_kinds_92 (lv_at hl 4 rfl) ?_
      exact w_X9_kinds_b94 C hK σ v1 v2 v3 v5 v6 v7 v8 v9 v2 v5 s62 hs62 hW hS (lv_sub hl [0, 1, 2, 3, 4, 5, 6, 7, 8] rfl) h
    · replace h := o_pos hc15 h
      refine lv_iload (pc := 87) hx hb dX9_kinds_87 (lv_at hl 8 rfl) ?_
      refine lv_goto (pc := 89) (tgt := 94) hx hb dX9_kinds_89 (by decide) ?_
      exact w_X9_kinds_b94 C hK σ v1 v2 v3 v5 v6 v7 v8 v9 v2 v9 s62 hs62 hW hS (lv_sub hl [0, 1, 2, 3, 4, 5, 6, 7, 8] rfl) h

theorem w_X9_kinds_b62 (C : CX cX9_kinds 10 RX9 (some .int) D ac p m c s args meth (z, aK, aV) (Ar (z + 80))) (hK : 6 ≤ K) {r : Int32} {σf : Mem}   (v1 : Int32) (v2 : Int32) (v3 : Int32) (v5 : Int32) (v6 : Int32) (v7 : Int32)  : ∀ (n : Nat) (σ : Mem) (v8 : Int32) (v9 : Int32) {H : Heap} {locs : List Loc} {ls : Array Slot} (hW : WR D ac (z + 80) σ H) (hS : va_S (Ar (z + 80)) s.heap H locs) (hl : lv_has ls 10 [(0, .ref (z + 80 + 0)), (1, .int v1), (2, .int v2), (3, .int v3), (5, .int v5), (6, .int v6), (7, .int v7), (8, .int v8), (9, .int v9)]) (h : f_X9_kinds_b62 v1 v2 v3 v5 v6 v7 n σ v8 v9 = some (r, σf)), W p l e (rma K 0 0) s m args below meth c H locs 0 0 (MQ below (QV D (Er ac (z + 80)) inR (z + 80) (some (.int r)) σf (Ar (z + 80))) args s 0 0 (Ar (z + 80))) (F0 m 62 ls []) := by
  have hx := C.1.1
  have hb := C.1.2.1
  intro n
  induction n with
  | zero =>
    intro σ v8 v9 H locs ls  hW hS hl h
    cases h
  | succ n ih =>
    intro σ v8 v9 H locs ls  hW hS hl h
    rw [f_X9_kinds_b62.eq_2] at h
    refine lv_iload (pc := 62) hx hb dX9_kinds_62 (lv_at hl 8 rfl) ?_
    refine lv_iload_n (pc := 64) hx hb dX9_kinds_64 rfl (lv_at hl 3 rfl) ?_
    refine lv_if_ne (pc := 65) (tgt := 73) hx hb dX9_kinds_65 (by decide) (fun hc8 => ?_) (fun hc8 => ?_)
    · replace h := o_neg hc8 h
      refine lv_bipush (pc := 73) (v := 10) hx hb dX9_kinds_73 (by decide) ?_
      exact w_X9_kinds_b75 C hK σ v1 v2 v3 v5 v6 v7 v8 v9 v9 (10 : Int32) (f_X9_kinds_b62 v1 v2 v3 v5 v6 v7 n) (fun σ v8 v9 {H : Heap} {locs : List Loc} {ls : Array Slot}  hW hS hl h => ih σ v8 v9 hW hS hl h) hW hS (lv_sub hl [0, 1, 2, 3, 4, 5, 6, 7, 8] rfl) h
    · replace h := o_pos hc8 h
      refine lv_bipush (pc := 68) (v := 6) hx hb dX9_kinds_68 (by decide) ?_
      refine lv_goto (pc := 70) (tgt := 75) hx hb dX9_kinds_70 (by decide) ?_
      exact w_X9_kinds_b75 C hK σ v1 v2 v3 v5 v6 v7 v8 v9 v9 (6 : Int32) (f_X9_kinds_b62 v1 v2 v3 v5 v6 v7 n) (fun σ v8 v9 {H : Heap} {locs : List Loc} {ls : Array Slot}  hW hS hl h => ih σ v8 v9 hW hS hl h) hW hS (lv_sub hl [0, 1, 2, 3, 4, 5, 6, 7, 8] rfl) h

theorem c_X9_kinds {K : Nat}  (hK : 6 ≤ K) {σ : Mem} {σf : Mem} {v1 : Int32} {v2 : Int32} {v3 : Int32} {r : Int32} (h : f_X9_kinds σ v1 v2 v3 = some (r, σf)) : MC l D (Er ac (z + 80)) inR (z + 80) ac (z, aK, aV) (Ar (z + 80)) yX9_kinds cX9_kinds 10 (some .int) K [.ref (z + 80 + 0), .int v1, .int v2, .int v3] σ (some (.int r)) σf := by
  refine MC.of (fun q hq => by have := hq.1; show z ≤ q; omega) (plainFor_of_name (by decide)) (Nat.le_of_ble_eq_true rfl) ?_
  intro p e s m below meth c args C hW ls hl
  replace hl : lv_has ls 10 [(0, .ref (z + 80 + 0)), (1, .int v1), (2, .int v2), (3, .int v3)] := hl
  have hS : va_S (Ar (z + 80)) s.heap s.heap [] := va_S.rf
  have hx := C.1.1
  have hb := C.1.2.1
  unfold f_X9_kinds at h
  refine lv_aload_n (pc := 0) hx hb dX9_kinds_0 rfl (lv_at hl 0 rfl) ?_
  refine lv_iload_n (pc := 1) hx hb dX9_kinds_1 rfl (lv_at hl 1 rfl) ?_
  refine lv_iload_n (pc := 2) hx hb dX9_kinds_2 rfl (lv_at hl 2 rfl) ?_
  obtain ⟨r2, hc0, h⟩ := o_b h
  refine g_virt (pc := 3) (st2 := [.int r2]) (rest := []) C hW hS (c_X9_toldWrong (K := K - 1) (by omega) hc0) mw_X9_293 inR0 Er_0 rfl (hRoom (by omega) (by decide)) rfl rfl rfl (Nat.le_of_ble_eq_true rfl) hl.1 dX9_kinds_3 (fun H locs hW hS => ?_)
  refine lv_istore (pc := 6) (lv' := [(4, .int r2), (0, .ref (z + 80 + 0)), (1, .int v1), (2, .int v2), (3, .int v3)]) hx hb dX9_kinds_6 hl (by decide) rfl (fun ls hl => ?_)
  refine lv_iload (pc := 8) hx hb dX9_kinds_8 (lv_at hl 0 rfl) ?_
  refine lv_if_eq (pc := 10) (tgt := 16) hx hb dX9_kinds_10 (by decide) (fun hc2 => ?_) (fun hc2 => ?_)
  · replace h := o_pos hc2 h
    refine lv_iload_n (pc := 16) hx hb dX9_kinds_16 rfl (lv_at hl 4 rfl) ?_
    refine lv_iconst (pc := 17) (v := 0) hx hb dX9_kinds_17 (by decide) ?_
    refine lv_iconst (pc := 18) (v := 2) hx hb dX9_kinds_18 (by decide) ?_
    refine g_stat (pc := 19) (st2 := [.int (f_X9_in v3 (0 : Int32) (2 : Int32))]) (rest := []) C hW hS (c_X9_in (K := K - 1) (by omega) rfl) mw_X9_84 (hRoom (by omega) (by decide)) rfl rfl rfl (Nat.le_of_ble_eq_true rfl) hl.1 dX9_kinds_19 (fun H locs hW hS => ?_)
    refine lv_if_ne (pc := 22) (tgt := 28) hx hb dX9_kinds_22 (by decide) (fun hc3 => ?_) (fun hc3 => ?_)
    · replace h := o_neg hc3 h
      refine lv_aload_n (pc := 28) hx hb dX9_kinds_28 rfl (lv_at hl 1 rfl) ?_
      refine gf_X9_1 (pc := 29) C hW fl_X9_7 dX9_kinds_29 ?_
      refine lv_iload_n (pc := 32) hx hb dX9_kinds_32 rfl (lv_at hl 3 rfl) ?_
      obtain ⟨hc4, h⟩ := o_chk h
      refine ir_ld (pc := 33) (k := 1) C hW (by decide) (by decide) rfl rfl (inb_in hc4) dX9_kinds_33 ?_
      refine lv_istore (pc := 34) (lv' := [(5, .int (σ 1 (v2.toNatClampNeg))), (4, .int r2), (0, .ref (z + 80 + 0)), (1, .int v1), (2, .int v2), (3, .int v3)]) hx hb dX9_kinds_34 hl (by decide) rfl (fun ls hl => ?_)
      refine lv_aload_n (pc := 36) hx hb dX9_kinds_36 rfl (lv_at hl 2 rfl) ?_
      refine gf_X9_2 (pc := 37) C hW fl_X9_13 dX9_kinds_37 ?_
      refine lv_iload_n (pc := 40) hx hb dX9_kinds_40 rfl (lv_at hl 4 rfl) ?_
      obtain ⟨hc5, h⟩ := o_chk h
      refine ir_ld (pc := 41) (k := 2) C hW (by decide) (by decide) rfl rfl (inb_in hc5) dX9_kinds_41 ?_
      refine lv_istore (pc := 42) (lv' := [(6, .int (σ 2 (v2.toNatClampNeg))), (5, .int (σ 1 (v2.toNatClampNeg))), (4, .int r2), (0, .ref (z + 80 + 0)), (1, .int v1), (2, .int v2), (3, .int v3)]) hx hb dX9_kinds_42 hl (by decide) rfl (fun ls hl => ?_)
      refine lv_aload_n (pc := 44) hx hb dX9_kinds_44 rfl (lv_at hl 3 rfl) ?_
      refine gf_X9_3 (pc := 45) C hW fl_X9_16 dX9_kinds_45 ?_
      refine lv_iconst (pc := 48) (v := 4) hx hb dX9_kinds_48 (by decide) ?_
      refine lv_iload_n (pc := 49) hx hb dX9_kinds_49 rfl (lv_at hl 5 rfl) ?_
      refine lv_imul (pc := 50) hx hb dX9_kinds_50 ?_
      refine lv_iconst (pc := 51) (v := 1) hx hb dX9_kinds_51 (by decide) ?_
      refine lv_iadd (pc := 52) hx hb dX9_kinds_52 ?_
      obtain ⟨hc6, h⟩ := o_chk h
      refine ir_ld (pc := 53) (k := 3) C hW (by decide) (by decide) rfl rfl (inb_in hc6) dX9_kinds_53 ?_
      obtain ⟨x8, hxx8, h⟩ := o_d h
      refine g_top hxx8 ?_
      refine lv_istore (pc := 54) (lv' := [(7, .int x8), (6, .int (σ 2 (v2.toNatClampNeg))), (5, .int (σ 1 (v2.toNatClampNeg))), (4, .int r2), (0, .ref (z + 80 + 0)), (1, .int v1), (2, .int v2), (3, .int v3)]) hx hb dX9_kinds_54 hl (by decide) rfl (fun ls hl => ?_)
      refine lv_iconst (pc := 56) (v := 0) hx hb dX9_kinds_56 (by decide) ?_
      refine lv_istore (pc := 57) (lv' := [(8, .int (0 : Int32)), (7, .int x8), (6, .int (σ 2 (v2.toNatClampNeg))), (5, .int (σ 1 (v2.toNatClampNeg))), (4, .int r2), (0, .ref (z + 80 + 0)), (1, .int v1), (2, .int v2), (3, .int v3)]) hx hb dX9_kinds_57 hl (by decide) rfl (fun ls hl => ?_)
      refine lv_iconst (pc := 59) (v := 0) hx hb dX9_kinds_59 (by decide) ?_
      refine lv_istore (pc := 60) (lv' := [(9, .int (0 : Int32)), (8, .int (0 : Int32)), (7, .int x8), (6, .int (σ 2 (v2.toNatClampNeg))), (5, .int (σ 1 (v2.toNatClampNeg))), (4, .int r2), (0, .ref (z + 80 + 0)), (1, .int v1), (2, .int v2), (3, .int v3)]) hx hb dX9_kinds_60 hl (by decide) rfl (fun ls hl => ?_)
      exact w_X9_kinds_b62 C hK v1 v2 v3 (σ 1 (v2.toNatClampNeg)) (σ 2 (v2.toNatClampNeg)) x8 FU σ (0 : Int32) (0 : Int32) hW hS (lv_sub hl [6, 7, 8, 9, 4, 3, 2, 1, 0] rfl) h
    · replace h := o_pos hc3 h
      refine lv_bipush (pc := 25) (v := -7) hx hb dX9_kinds_25 (by decide) ?_
      exact g_ret (pc := 27) C hW hS rfl dX9_kinds_27 (congrArg (fun q => some (Value.int q)) (o_r h).1) (o_r h).2
  · replace h := o_neg hc2 h
    refine lv_iload (pc := 13) hx hb dX9_kinds_13 (lv_at hl 0 rfl) ?_
    exact g_ret (pc := 15) C hW hS rfl dX9_kinds_15 (congrArg (fun q => some (Value.int q)) (o_r h).1) (o_r h).2

theorem w_X9_since_b57 (C : CX cX9_since 7 RX9 (some .long) D ac p m c s args meth (z, aK, aV) (Ar (z + 80))) (hK : 6 ≤ K) {r : Int64} {σf : Mem}   (σ : Mem) (v1 : Int32) (v2 : Int32) (v3 : Int32) (v6 : Int32) (k0 : Int64) (k1 : Int64) (s24 : Mem → Int64 → Int32 → Option (Int64 × Mem)) (hs24 : ∀ (σ : Mem) (v4 : Int64) (v6 : Int32) {H : Heap} {locs : List Loc} {ls : Array Slot} (_ : WR D ac (z + 80) σ H) (_ : va_S (Ar (z + 80)) s.heap H locs) (_ : lv_has ls 7 [(0, .ref (z + 80 + 0)), (1, .int v1), (2, .int v2), (3, .int v3), (4, .long v4), (6, .int v6)]) (_ : s24 σ v4 v6 = some (r, σf)), W p l e (rma K 0 0) s m args below meth c H locs 0 0 (MQ below (QV D (Er ac (z + 80)) inR (z + 80) (some (.long r)) σf (Ar (z + 80))) args s 0 0 (Ar (z + 80))) (F0 m 24 ls [])) {H : Heap} {locs : List Loc} {ls : Array Slot} (hW : WR D ac (z + 80) σ H) (hS : va_S (Ar (z + 80)) s.heap H locs) (hl : lv_has ls 7 [(0, .ref (z + 80 + 0)), (1, .int v1), (2, .int v2), (3, .int v3), (6, .int v6)]) (h : f_X9_since_b57 s24 σ v1 v2 v3 v6 k0 k1 = some (r, σf)) : W p l e (rma K 0 0) s m args below meth c H locs 0 0 (MQ below (QV D (Er ac (z + 80)) inR (z + 80) (some (.long r)) σf (Ar (z + 80))) args s 0 0 (Ar (z + 80))) (F0 m 57 ls [.long k1, .long k0]) := by
  have hx := C.1.1
  have hb := C.1.2.1
  unfold f_X9_since_b57 at h
  refine lv_lor (pc := 57) hx hb dX9_since_57 ?_
  refine lv_lstore (pc := 58) (lv' := [(4, .long (k0 ||| k1)), (0, .ref (z + 80 + 0)), (1, .int v1), (2, .int v2), (3, .int v3), (6, .int v6)]) hx hb dX9_since_58 hl (by decide) rfl (fun ls hl => ?_)
  refine lv_iinc (pc := 60) (v := (v6 + 1)) (lv' := [(6, .int (v6 + 1)), (4, .long (k0 ||| k1)), (0, .ref (z + 80 + 0)), (1, .int v1), (2, .int v2), (3, .int v3)]) hx hb dX9_since_60 hl (k := 5) rfl rfl (by decide) rfl (fun ls hl => ?_)
  refine lv_goto (pc := 63) (tgt := 24) hx hb dX9_since_63 (by decide) ?_
  exact hs24 σ (k0 ||| k1) (v6 + 1) hW hS (lv_sub hl [2, 3, 4, 5, 1, 0] rfl) h

theorem w_X9_since_b24 (C : CX cX9_since 7 RX9 (some .long) D ac p m c s args meth (z, aK, aV) (Ar (z + 80))) (hK : 6 ≤ K) {r : Int64} {σf : Mem}   (v1 : Int32) (v2 : Int32) (v3 : Int32)  : ∀ (n : Nat) (σ : Mem) (v4 : Int64) (v6 : Int32) {H : Heap} {locs : List Loc} {ls : Array Slot} (hW : WR D ac (z + 80) σ H) (hS : va_S (Ar (z + 80)) s.heap H locs) (hl : lv_has ls 7 [(0, .ref (z + 80 + 0)), (1, .int v1), (2, .int v2), (3, .int v3), (4, .long v4), (6, .int v6)]) (h : f_X9_since_b24 v1 v2 v3 n σ v4 v6 = some (r, σf)), W p l e (rma K 0 0) s m args below meth c H locs 0 0 (MQ below (QV D (Er ac (z + 80)) inR (z + 80) (some (.long r)) σf (Ar (z + 80))) args s 0 0 (Ar (z + 80))) (F0 m 24 ls []) := by
  have hx := C.1.1
  have hb := C.1.2.1
  intro n
  induction n with
  | zero =>
    intro σ v4 v6 H locs ls  hW hS hl h
    cases h
  | succ n ih =>
    intro σ v4 v6 H locs ls  hW hS hl h
    rw [f_X9_since_b24.eq_2] at h
    refine lv_iload (pc := 24) hx hb dX9_since_24 (lv_at hl 5 rfl) ?_
    refine lv_bipush (pc := 26) (v := 52) hx hb dX9_since_26 (by decide) ?_
    refine lv_icmp_ge (pc := 28) (tgt := 66) hx hb dX9_since_28 (by decide) (fun hc3 => ?_) (fun hc3 => ?_)
    · replace h := o_pos hc3 h
      refine lv_aload_n (pc := 66) hx hb dX9_since_66 rfl (lv_at hl 0 rfl) ?_
      refine lv_iload_n (pc := 67) hx hb dX9_since_67 rfl (lv_at hl 3 rfl) ?_
      refine pf_X9_6 (pc := 68) C hW hS fl_X9_91 dX9_since_68 (fun H locs hW hS => ?_)
      refine lv_lload (pc := 71) hx hb dX9_since_71 (lv_at hl 4 rfl) ?_
      exact g_lret (pc := 73) C hW hS dX9_since_73 (congrArg (fun q => some (Value.long q)) (o_r h).1) (o_r h).2
    · replace h := o_neg hc3 h
      refine lv_aload_n (pc := 31) hx hb dX9_since_31 rfl (lv_at hl 0 rfl) ?_
      refine lv_iload (pc := 32) hx hb dX9_since_32 (lv_at hl 5 rfl) ?_
      refine pf_X9_6 (pc := 34) C hW hS fl_X9_91 dX9_since_34 (fun H locs hW hS => ?_)
      refine lv_lload (pc := 37) hx hb dX9_since_37 (lv_at hl 4 rfl) ?_
      refine lv_aload_n (pc := 39) hx hb dX9_since_39 rfl (lv_at hl 0 rfl) ?_
      refine lv_iload_n (pc := 40) hx hb dX9_since_40 rfl (lv_at hl 1 rfl) ?_
      refine lv_iload_n (pc := 41) hx hb dX9_since_41 rfl (lv_at hl 2 rfl) ?_
      obtain ⟨r6, σ7, hc4, h⟩ := o_b2 h
      refine g_virt (pc := 42) (st2 := [.int r6, .long v4]) (rest := [.long v4]) C hW hS (c_X9_unlike (K := K - 1) (by omega) hc4) mw_X9_296 inR0 Er_0 rfl (hRoom (by omega) (by decide)) rfl rfl rfl (Nat.le_of_ble_eq_true rfl) hl.1 dX9_since_42 (fun H locs hW hS => ?_)
      refine lv_iconst (pc := 45) (v := -1) hx hb dX9_since_45 (by decide) ?_
      refine lv_icmp_ne (pc := 46) (tgt := 56) hx hb dX9_since_46 (by decide) (fun hc7 => ?_) (fun hc7 => ?_)
      · replace h := o_neg hc7 h
        refine lv_lconst (pc := 56) (v := 0) hx hb dX9_since_56 (by decide) ?_
        exact w_X9_since_b57 C hK σ7 v1 v2 v3 v6 v4 (0 : Int64) (f_X9_since_b24 v1 v2 v3 n) (fun σ v4 v6 {H : Heap} {locs : List Loc} {ls : Array Slot}  hW hS hl h => ih σ v4 v6 hW hS hl h) hW hS (lv_sub hl [0, 1, 2, 3, 5] rfl) h
      · replace h := o_pos hc7 h
        refine lv_lconst (pc := 49) (v := 1) hx hb dX9_since_49 (by decide) ?_
        refine lv_iload (pc := 50) hx hb dX9_since_50 (lv_at hl 5 rfl) ?_
        refine lv_lshl (pc := 52) (v := ((1 : Int64) <<< (v6.toInt64 &&& 63))) hx hb dX9_since_52 rfl ?_
        refine lv_goto (pc := 53) (tgt := 57) hx hb dX9_since_53 (by decide) ?_
        exact w_X9_since_b57 C hK σ7 v1 v2 v3 v6 v4 ((1 : Int64) <<< (v6.toInt64 &&& 63)) (f_X9_since_b24 v1 v2 v3 n) (fun σ v4 v6 {H : Heap} {locs : List Loc} {ls : Array Slot}  hW hS hl h => ih σ v4 v6 hW hS hl h) hW hS (lv_sub hl [0, 1, 2, 3, 5] rfl) h

theorem c_X9_since {K : Nat}  (hK : 6 ≤ K) {σ : Mem} {σf : Mem} {v1 : Int32} {v2 : Int32} {r : Int64} (h : f_X9_since σ v1 v2 = some (r, σf)) : MC l D (Er ac (z + 80)) inR (z + 80) ac (z, aK, aV) (Ar (z + 80)) yX9_since cX9_since 7 (some .long) K [.ref (z + 80 + 0), .int v1, .int v2] σ (some (.long r)) σf := by
  refine MC.of (fun q hq => by have := hq.1; show z ≤ q; omega) (plainFor_of_name (by decide)) (Nat.le_of_ble_eq_true rfl) ?_
  intro p e s m below meth c args C hW ls hl
  replace hl : lv_has ls 7 [(0, .ref (z + 80 + 0)), (1, .int v1), (2, .int v2)] := hl
  have hS : va_S (Ar (z + 80)) s.heap s.heap [] := va_S.rf
  have hx := C.1.1
  have hb := C.1.2.1
  unfold f_X9_since at h
  refine lv_aload_n (pc := 0) hx hb dX9_since_0 rfl (lv_at hl 0 rfl) ?_
  refine lv_iload_n (pc := 1) hx hb dX9_since_1 rfl (lv_at hl 1 rfl) ?_
  refine lv_iload_n (pc := 2) hx hb dX9_since_2 rfl (lv_at hl 2 rfl) ?_
  obtain ⟨r2, hc0, h⟩ := o_b h
  refine g_virt (pc := 3) (st2 := [.int r2]) (rest := []) C hW hS (c_X9_toldWrong (K := K - 1) (by omega) hc0) mw_X9_293 inR0 Er_0 rfl (hRoom (by omega) (by decide)) rfl rfl rfl (Nat.le_of_ble_eq_true rfl) hl.1 dX9_since_3 (fun H locs hW hS => ?_)
  refine lv_if_eq (pc := 6) (tgt := 13) hx hb dX9_since_6 (by decide) (fun hc2 => ?_) (fun hc2 => ?_)
  · replace h := o_pos hc2 h
    refine lv_aload_n (pc := 13) hx hb dX9_since_13 rfl (lv_at hl 0 rfl) ?_
    refine gf_X9_6 (pc := 14) C hW fl_X9_91 dX9_since_14 ?_
    refine lv_istore_n (pc := 17) (lv' := [(3, .int (σ 0 6)), (0, .ref (z + 80 + 0)), (1, .int v1), (2, .int v2)]) hx hb dX9_since_17 rfl hl (by decide) rfl (fun ls hl => ?_)
    refine lv_lconst (pc := 18) (v := 0) hx hb dX9_since_18 (by decide) ?_
    refine lv_lstore (pc := 19) (lv' := [(4, .long (0 : Int64)), (3, .int (σ 0 6)), (0, .ref (z + 80 + 0)), (1, .int v1), (2, .int v2)]) hx hb dX9_since_19 hl (by decide) rfl (fun ls hl => ?_)
    refine lv_iconst (pc := 21) (v := 0) hx hb dX9_since_21 (by decide) ?_
    refine lv_istore (pc := 22) (lv' := [(6, .int (0 : Int32)), (4, .long (0 : Int64)), (3, .int (σ 0 6)), (0, .ref (z + 80 + 0)), (1, .int v1), (2, .int v2)]) hx hb dX9_since_22 hl (by decide) rfl (fun ls hl => ?_)
    exact w_X9_since_b24 C hK v1 v2 (σ 0 6) FU σ (0 : Int64) (0 : Int32) hW hS (lv_sub hl [3, 4, 5, 2, 1, 0] rfl) h
  · replace h := o_neg hc2 h
    refine lv_ldc2 (pc := 9) hx hb C.1.2.2.2.1 (C.1.2.2.2.2 _ cn_X9_299) dX9_since_9 ?_
    exact g_lret (pc := 12) C hW hS dX9_since_12 (congrArg (fun q => some (Value.long q)) (o_r h).1) (o_r h).2

theorem w_X9_laws_b60 (C : CX cX9_laws 7 RX9 (some .int) D ac p m c s args meth (z, aK, aV) (Ar (z + 80))) (hK : 6 ≤ K) {r : Int32} {σf : Mem}   (σ : Mem) (v1 : Int32) (v2 : Int32) (v4 : Int32) (v6 : Int32) (k0 : Int32) (k1 : Int32) (s25 : Mem → Int32 → Int32 → Option (Int32 × Mem)) (hs25 : ∀ (σ : Mem) (v5 : Int32) (v6 : Int32) {H : Heap} {locs : List Loc} {ls : Array Slot} (_ : WR D ac (z + 80) σ H) (_ : va_S (Ar (z + 80)) s.heap H locs) (_ : lv_has ls 7 [(0, .ref (z + 80 + 0)), (1, .int v1), (2, .int v2), (4, .int v4), (5, .int v5), (6, .int v6)]) (_ : s25 σ v5 v6 = some (r, σf)), W p l e (rma K 0 0) s m args below meth c H locs 0 0 (MQ below (QV D (Er ac (z + 80)) inR (z + 80) (some (.int r)) σf (Ar (z + 80))) args s 0 0 (Ar (z + 80))) (F0 m 25 ls [])) {H : Heap} {locs : List Loc} {ls : Array Slot} (hW : WR D ac (z + 80) σ H) (hS : va_S (Ar (z + 80)) s.heap H locs) (hl : lv_has ls 7 [(0, .ref (z + 80 + 0)), (1, .int v1), (2, .int v2), (4, .int v4), (6, .int v6)]) (h : f_X9_laws_b60 s25 σ v1 v2 v4 v6 k0 k1 = some (r, σf)) : W p l e (rma K 0 0) s m args below meth c H locs 0 0 (MQ below (QV D (Er ac (z + 80)) inR (z + 80) (some (.int r)) σf (Ar (z + 80))) args s 0 0 (Ar (z + 80))) (F0 m 60 ls [.int k1, .int k0]) := by
  have hx := C.1.1
  have hb := C.1.2.1
  unfold f_X9_laws_b60 at h
  refine lv_ior (pc := 60) hx hb dX9_laws_60 ?_
  refine lv_istore (pc := 61) (lv' := [(5, .int (k0 ||| k1)), (0, .ref (z + 80 + 0)), (1, .int v1), (2, .int v2), (4, .int v4), (6, .int v6)]) hx hb dX9_laws_61 hl (by decide) rfl (fun ls hl => ?_)
  refine lv_iinc (pc := 63) (v := (v6 + 1)) (lv' := [(6, .int (v6 + 1)), (5, .int (k0 ||| k1)), (0, .ref (z + 80 + 0)), (1, .int v1), (2, .int v2), (4, .int v4)]) hx hb dX9_laws_63 hl (k := 5) rfl rfl (by decide) rfl (fun ls hl => ?_)
  refine lv_goto (pc := 66) (tgt := 25) hx hb dX9_laws_66 (by decide) ?_
  exact hs25 σ (k0 ||| k1) (v6 + 1) hW hS (lv_sub hl [2, 3, 4, 5, 1, 0] rfl) h

theorem w_X9_laws_b25 (C : CX cX9_laws 7 RX9 (some .int) D ac p m c s args meth (z, aK, aV) (Ar (z + 80))) (hK : 6 ≤ K) {r : Int32} {σf : Mem}   (v1 : Int32) (v2 : Int32) (v4 : Int32)  : ∀ (n : Nat) (σ : Mem) (v5 : Int32) (v6 : Int32) {H : Heap} {locs : List Loc} {ls : Array Slot} (hW : WR D ac (z + 80) σ H) (hS : va_S (Ar (z + 80)) s.heap H locs) (hl : lv_has ls 7 [(0, .ref (z + 80 + 0)), (1, .int v1), (2, .int v2), (4, .int v4), (5, .int v5), (6, .int v6)]) (h : f_X9_laws_b25 v1 v2 v4 n σ v5 v6 = some (r, σf)), W p l e (rma K 0 0) s m args below meth c H locs 0 0 (MQ below (QV D (Er ac (z + 80)) inR (z + 80) (some (.int r)) σf (Ar (z + 80))) args s 0 0 (Ar (z + 80))) (F0 m 25 ls []) := by
  have hx := C.1.1
  have hb := C.1.2.1
  intro n
  induction n with
  | zero =>
    intro σ v5 v6 H locs ls  hW hS hl h
    cases h
  | succ n ih =>
    intro σ v5 v6 H locs ls  hW hS hl h
    rw [f_X9_laws_b25.eq_2] at h
    refine lv_iload (pc := 25) hx hb dX9_laws_25 (lv_at hl 5 rfl) ?_
    refine lv_aload_n (pc := 27) hx hb dX9_laws_27 rfl (lv_at hl 0 rfl) ?_
    refine gf_X9_11 (pc := 28) C hW fl_X9_94 dX9_laws_28 ?_
    refine lv_icmp_ge (pc := 31) (tgt := 69) hx hb dX9_laws_31 (by decide) (fun hc3 => ?_) (fun hc3 => ?_)
    · replace h := o_pos hc3 h
      refine lv_aload_n (pc := 69) hx hb dX9_laws_69 rfl (lv_at hl 0 rfl) ?_
      refine lv_iload (pc := 70) hx hb dX9_laws_70 (lv_at hl 3 rfl) ?_
      refine pf_X9_12 (pc := 72) C hW hS fl_X9_97 dX9_laws_72 (fun H locs hW hS => ?_)
      refine lv_iload (pc := 75) hx hb dX9_laws_75 (lv_at hl 4 rfl) ?_
      exact g_ret (pc := 77) C hW hS rfl dX9_laws_77 (congrArg (fun q => some (Value.int q)) (o_r h).1) (o_r h).2
    · replace h := o_neg hc3 h
      refine lv_aload_n (pc := 34) hx hb dX9_laws_34 rfl (lv_at hl 0 rfl) ?_
      refine lv_iload (pc := 35) hx hb dX9_laws_35 (lv_at hl 5 rfl) ?_
      refine pf_X9_12 (pc := 37) C hW hS fl_X9_97 dX9_laws_37 (fun H locs hW hS => ?_)
      refine lv_iload (pc := 40) hx hb dX9_laws_40 (lv_at hl 4 rfl) ?_
      refine lv_aload_n (pc := 42) hx hb dX9_laws_42 rfl (lv_at hl 0 rfl) ?_
      refine lv_iload_n (pc := 43) hx hb dX9_laws_43 rfl (lv_at hl 1 rfl) ?_
      refine lv_iload_n (pc := 44) hx hb dX9_laws_44 rfl (lv_at hl 2 rfl) ?_
      obtain ⟨r6, σ7, hc4, h⟩ := o_b2 h
      refine g_virt (pc := 45) (st2 := [.int r6, .int v5]) (rest := [.int v5]) C hW hS (c_X9_unlike (K := K - 1) (by omega) hc4) mw_X9_296 inR0 Er_0 rfl (hRoom (by omega) (by decide)) rfl rfl rfl (Nat.le_of_ble_eq_true rfl) hl.1 dX9_laws_45 (fun H locs hW hS => ?_)
      refine lv_iconst (pc := 48) (v := -1) hx hb dX9_laws_48 (by decide) ?_
      refine lv_icmp_ne (pc := 49) (tgt := 59) hx hb dX9_laws_49 (by decide) (fun hc7 => ?_) (fun hc7 => ?_)
      · replace h := o_neg hc7 h
        refine lv_iconst (pc := 59) (v := 0) hx hb dX9_laws_59 (by decide) ?_
        exact w_X9_laws_b60 C hK σ7 v1 v2 v4 v6 v5 (0 : Int32) (f_X9_laws_b25 v1 v2 v4 n) (fun σ v5 v6 {H : Heap} {locs : List Loc} {ls : Array Slot}  hW hS hl h => ih σ v5 v6 hW hS hl h) hW hS (lv_sub hl [0, 1, 2, 3, 5] rfl) h
      · replace h := o_pos hc7 h
        refine lv_iconst (pc := 52) (v := 1) hx hb dX9_laws_52 (by decide) ?_
        refine lv_iload (pc := 53) hx hb dX9_laws_53 (lv_at hl 5 rfl) ?_
        refine lv_ishl (pc := 55) hx hb dX9_laws_55 ?_
        refine lv_goto (pc := 56) (tgt := 60) hx hb dX9_laws_56 (by decide) ?_
        exact w_X9_laws_b60 C hK σ7 v1 v2 v4 v6 v5 ((1 : Int32) <<< (v6 &&& 31)) (f_X9_laws_b25 v1 v2 v4 n) (fun σ v5 v6 {H : Heap} {locs : List Loc} {ls : Array Slot}  hW hS hl h => ih σ v5 v6 hW hS hl h) hW hS (lv_sub hl [0, 1, 2, 3, 5] rfl) h

theorem c_X9_laws {K : Nat}  (hK : 6 ≤ K) {σ : Mem} {σf : Mem} {v1 : Int32} {v2 : Int32} {r : Int32} (h : f_X9_laws σ v1 v2 = some (r, σf)) : MC l D (Er ac (z + 80)) inR (z + 80) ac (z, aK, aV) (Ar (z + 80)) yX9_laws cX9_laws 7 (some .int) K [.ref (z + 80 + 0), .int v1, .int v2] σ (some (.int r)) σf := by
  refine MC.of (fun q hq => by have := hq.1; show z ≤ q; omega) (plainFor_of_name (by decide)) (Nat.le_of_ble_eq_true rfl) ?_
  intro p e s m below meth c args C hW ls hl
  replace hl : lv_has ls 7 [(0, .ref (z + 80 + 0)), (1, .int v1), (2, .int v2)] := hl
  have hS : va_S (Ar (z + 80)) s.heap s.heap [] := va_S.rf
  have hx := C.1.1
  have hb := C.1.2.1
  unfold f_X9_laws at h
  refine lv_aload_n (pc := 0) hx hb dX9_laws_0 rfl (lv_at hl 0 rfl) ?_
  refine lv_iload_n (pc := 1) hx hb dX9_laws_1 rfl (lv_at hl 1 rfl) ?_
  refine lv_iload_n (pc := 2) hx hb dX9_laws_2 rfl (lv_at hl 2 rfl) ?_
  obtain ⟨r2, hc0, h⟩ := o_b h
  refine g_virt (pc := 3) (st2 := [.int r2]) (rest := []) C hW hS (c_X9_toldWrong (K := K - 1) (by omega) hc0) mw_X9_293 inR0 Er_0 rfl (hRoom (by omega) (by decide)) rfl rfl rfl (Nat.le_of_ble_eq_true rfl) hl.1 dX9_laws_3 (fun H locs hW hS => ?_)
  refine lv_istore_n (pc := 6) (lv' := [(3, .int r2), (0, .ref (z + 80 + 0)), (1, .int v1), (2, .int v2)]) hx hb dX9_laws_6 rfl hl (by decide) rfl (fun ls hl => ?_)
  refine lv_iload_n (pc := 7) hx hb dX9_laws_7 rfl (lv_at hl 0 rfl) ?_
  refine lv_if_eq (pc := 8) (tgt := 13) hx hb dX9_laws_8 (by decide) (fun hc2 => ?_) (fun hc2 => ?_)
  · replace h := o_pos hc2 h
    refine lv_aload_n (pc := 13) hx hb dX9_laws_13 rfl (lv_at hl 1 rfl) ?_
    refine gf_X9_12 (pc := 14) C hW fl_X9_97 dX9_laws_14 ?_
    refine lv_istore (pc := 17) (lv' := [(4, .int (σ 0 12)), (3, .int r2), (0, .ref (z + 80 + 0)), (1, .int v1), (2, .int v2)]) hx hb dX9_laws_17 hl (by decide) rfl (fun ls hl => ?_)
    refine lv_iconst (pc := 19) (v := 0) hx hb dX9_laws_19 (by decide) ?_
    refine lv_istore (pc := 20) (lv' := [(5, .int (0 : Int32)), (4, .int (σ 0 12)), (3, .int r2), (0, .ref (z + 80 + 0)), (1, .int v1), (2, .int v2)]) hx hb dX9_laws_20 hl (by decide) rfl (fun ls hl => ?_)
    refine lv_iconst (pc := 22) (v := 0) hx hb dX9_laws_22 (by decide) ?_
    refine lv_istore (pc := 23) (lv' := [(6, .int (0 : Int32)), (5, .int (0 : Int32)), (4, .int (σ 0 12)), (3, .int r2), (0, .ref (z + 80 + 0)), (1, .int v1), (2, .int v2)]) hx hb dX9_laws_23 hl (by decide) rfl (fun ls hl => ?_)
    exact w_X9_laws_b25 C hK v1 v2 (σ 0 12) FU σ (0 : Int32) (0 : Int32) hW hS (lv_sub hl [4, 5, 6, 2, 1, 0] rfl) h
  · replace h := o_neg hc2 h
    refine lv_iload_n (pc := 11) hx hb dX9_laws_11 rfl (lv_at hl 0 rfl) ?_
    exact g_ret (pc := 12) C hW hS rfl dX9_laws_12 (congrArg (fun q => some (Value.int q)) (o_r h).1) (o_r h).2

theorem w_X9_whose_b55 (C : CX cX9_whose 4 RX9 (some .int) D ac p m c s args meth (z, aK, aV) (Ar (z + 80))) (hK : 6 ≤ K) {r : Int32} {σf : Mem}   (σ : Mem) (v1 : Int32) (v3 : Int32) (k0 : Int32) (k1 : Int32) (s29 : Mem → Int32 → Int32 → Option (Int32 × Mem)) (hs29 : ∀ (σ : Mem) (v2 : Int32) (v3 : Int32) {H : Heap} {locs : List Loc} {ls : Array Slot} (_ : WR D ac (z + 80) σ H) (_ : va_S (Ar (z + 80)) s.heap H locs) (_ : lv_has ls 4 [(0, .ref (z + 80 + 0)), (1, .int v1), (2, .int v2), (3, .int v3)]) (_ : s29 σ v2 v3 = some (r, σf)), W p l e (rma K 0 0) s m args below meth c H locs 0 0 (MQ below (QV D (Er ac (z + 80)) inR (z + 80) (some (.int r)) σf (Ar (z + 80))) args s 0 0 (Ar (z + 80))) (F0 m 29 ls [])) {H : Heap} {locs : List Loc} {ls : Array Slot} (hW : WR D ac (z + 80) σ H) (hS : va_S (Ar (z + 80)) s.heap H locs) (hl : lv_has ls 4 [(0, .ref (z + 80 + 0)), (1, .int v1), (3, .int v3)]) (h : f_X9_whose_b55 s29 σ v1 v3 k0 k1 = some (r, σf)) : W p l e (rma K 0 0) s m args below meth c H locs 0 0 (MQ below (QV D (Er ac (z + 80)) inR (z + 80) (some (.int r)) σf (Ar (z + 80))) args s 0 0 (Ar (z + 80))) (F0 m 55 ls [.int k1, .int k0]) := by
  have hx := C.1.1
  have hb := C.1.2.1
  unfold f_X9_whose_b55 at h
  refine lv_ior (pc := 55) hx hb dX9_whose_55 ?_
  refine lv_istore_n (pc := 56) (lv' := [(2, .int (k0 ||| k1)), (0, .ref (z + 80 + 0)), (1, .int v1), (3, .int v3)]) hx hb dX9_whose_56 rfl hl (by decide) rfl (fun ls hl => ?_)
  refine lv_iinc (pc := 57) (v := (v3 + 1)) (lv' := [(3, .int (v3 + 1)), (2, .int (k0 ||| k1)), (0, .ref (z + 80 + 0)), (1, .int v1)]) hx hb dX9_whose_57 hl (k := 3) rfl rfl (by decide) rfl (fun ls hl => ?_)
  refine lv_goto (pc := 60) (tgt := 29) hx hb dX9_whose_60 (by decide) ?_
  exact hs29 σ (k0 ||| k1) (v3 + 1) hW hS (lv_sub hl [2, 3, 1, 0] rfl) h

theorem w_X9_whose_b29 (C : CX cX9_whose 4 RX9 (some .int) D ac p m c s args meth (z, aK, aV) (Ar (z + 80))) (hK : 6 ≤ K) {r : Int32} {σf : Mem}   (v1 : Int32)  : ∀ (n : Nat) (σ : Mem) (v2 : Int32) (v3 : Int32) {H : Heap} {locs : List Loc} {ls : Array Slot} (hW : WR D ac (z + 80) σ H) (hS : va_S (Ar (z + 80)) s.heap H locs) (hl : lv_has ls 4 [(0, .ref (z + 80 + 0)), (1, .int v1), (2, .int v2), (3, .int v3)]) (h : f_X9_whose_b29 v1 n σ v2 v3 = some (r, σf)), W p l e (rma K 0 0) s m args below meth c H locs 0 0 (MQ below (QV D (Er ac (z + 80)) inR (z + 80) (some (.int r)) σf (Ar (z + 80))) args s 0 0 (Ar (z + 80))) (F0 m 29 ls []) := by
  have hx := C.1.1
  have hb := C.1.2.1
  intro n
  induction n with
  | zero =>
    intro σ v2 v3 H locs ls  hW hS hl h
    cases h
  | succ n ih =>
    intro σ v2 v3 H locs ls  hW hS hl h
    rw [f_X9_whose_b29.eq_2] at h
    refine lv_iload_n (pc := 29) hx hb dX9_whose_29 rfl (lv_at hl 3 rfl) ?_
    refine lv_aload_n (pc := 30) hx hb dX9_whose_30 rfl (lv_at hl 0 rfl) ?_
    refine gf_X9_0 (pc := 31) C hW fl_X9_81 dX9_whose_31 ?_
    refine lv_icmp_ge (pc := 34) (tgt := 63) hx hb dX9_whose_34 (by decide) (fun hc3 => ?_) (fun hc3 => ?_)
    · replace h := o_pos hc3 h
      refine lv_iload_n (pc := 63) hx hb dX9_whose_63 rfl (lv_at hl 2 rfl) ?_
      exact g_ret (pc := 64) C hW hS rfl dX9_whose_64 (congrArg (fun q => some (Value.int q)) (o_r h).1) (o_r h).2
    · replace h := o_neg hc3 h
      refine lv_iload_n (pc := 37) hx hb dX9_whose_37 rfl (lv_at hl 2 rfl) ?_
      refine lv_aload_n (pc := 38) hx hb dX9_whose_38 rfl (lv_at hl 0 rfl) ?_
      refine lv_iload_n (pc := 39) hx hb dX9_whose_39 rfl (lv_at hl 1 rfl) ?_
      refine lv_iload_n (pc := 40) hx hb dX9_whose_40 rfl (lv_at hl 3 rfl) ?_
      obtain ⟨r6, σ7, hc4, h⟩ := o_b2 h
      refine g_virt (pc := 41) (st2 := [.int r6, .int v2]) (rest := [.int v2]) C hW hS (c_X9_unlike (K := K - 1) (by omega) hc4) mw_X9_296 inR0 Er_0 rfl (hRoom (by omega) (by decide)) rfl rfl rfl (Nat.le_of_ble_eq_true rfl) hl.1 dX9_whose_41 (fun H locs hW hS => ?_)
      refine lv_iconst (pc := 44) (v := -1) hx hb dX9_whose_44 (by decide) ?_
      refine lv_icmp_ne (pc := 45) (tgt := 54) hx hb dX9_whose_45 (by decide) (fun hc7 => ?_) (fun hc7 => ?_)
      · replace h := o_neg hc7 h
        refine lv_iconst (pc := 54) (v := 0) hx hb dX9_whose_54 (by decide) ?_
        exact w_X9_whose_b55 C hK σ7 v1 v3 v2 (0 : Int32) (f_X9_whose_b29 v1 n) (fun σ v2 v3 {H : Heap} {locs : List Loc} {ls : Array Slot}  hW hS hl h => ih σ v2 v3 hW hS hl h) hW hS (lv_sub hl [0, 1, 3] rfl) h
      · replace h := o_pos hc7 h
        refine lv_iconst (pc := 48) (v := 1) hx hb dX9_whose_48 (by decide) ?_
        refine lv_iload_n (pc := 49) hx hb dX9_whose_49 rfl (lv_at hl 3 rfl) ?_
        refine lv_ishl (pc := 50) hx hb dX9_whose_50 ?_
        refine lv_goto (pc := 51) (tgt := 55) hx hb dX9_whose_51 (by decide) ?_
        exact w_X9_whose_b55 C hK σ7 v1 v3 v2 ((1 : Int32) <<< (v3 &&& 31)) (f_X9_whose_b29 v1 n) (fun σ v2 v3 {H : Heap} {locs : List Loc} {ls : Array Slot}  hW hS hl h => ih σ v2 v3 hW hS hl h) hW hS (lv_sub hl [0, 1, 3] rfl) h

theorem c_X9_whose {K : Nat}  (hK : 6 ≤ K) {σ : Mem} {σf : Mem} {v1 : Int32} {r : Int32} (h : f_X9_whose σ v1 = some (r, σf)) : MC l D (Er ac (z + 80)) inR (z + 80) ac (z, aK, aV) (Ar (z + 80)) yX9_whose cX9_whose 4 (some .int) K [.ref (z + 80 + 0), .int v1] σ (some (.int r)) σf := by
  refine MC.of (fun q hq => by have := hq.1; show z ≤ q; omega) (plainFor_of_name (by decide)) (Nat.le_of_ble_eq_true rfl) ?_
  intro p e s m below meth c args C hW ls hl
  replace hl : lv_has ls 4 [(0, .ref (z + 80 + 0)), (1, .int v1)] := hl
  have hS : va_S (Ar (z + 80)) s.heap s.heap [] := va_S.rf
  have hx := C.1.1
  have hb := C.1.2.1
  unfold f_X9_whose at h
  refine lv_iload_n (pc := 0) hx hb dX9_whose_0 rfl (lv_at hl 1 rfl) ?_
  refine lv_iconst (pc := 1) (v := 0) hx hb dX9_whose_1 (by decide) ?_
  refine lv_iconst (pc := 2) (v := 3) hx hb dX9_whose_2 (by decide) ?_
  refine g_stat (pc := 3) (st2 := [.int (f_X9_in v1 (0 : Int32) (3 : Int32))]) (rest := []) C hW hS (c_X9_in (K := K - 1) (by omega) rfl) mw_X9_84 (hRoom (by omega) (by decide)) rfl rfl rfl (Nat.le_of_ble_eq_true rfl) hl.1 dX9_whose_3 (fun H locs hW hS => ?_)
  refine lv_if_ne (pc := 6) (tgt := 12) hx hb dX9_whose_6 (by decide) (fun hc0 => ?_) (fun hc0 => ?_)
  · replace h := o_neg hc0 h
    refine lv_aload_n (pc := 12) hx hb dX9_whose_12 rfl (lv_at hl 0 rfl) ?_
    refine gf_X9_19 (pc := 13) C hW fl_X9_34 dX9_whose_13 ?_
    refine lv_iload_n (pc := 16) hx hb dX9_whose_16 rfl (lv_at hl 1 rfl) ?_
    obtain ⟨hc1, h⟩ := o_chk h
    refine ir_ld (pc := 17) (k := 9) C hW (by decide) (by decide) rfl rfl (inb_in hc1) dX9_whose_17 ?_
    refine lv_iconst (pc := 18) (v := -1) hx hb dX9_whose_18 (by decide) ?_
    refine lv_icmp_ne (pc := 19) (tgt := 25) hx hb dX9_whose_19 (by decide) (fun hc2 => ?_) (fun hc2 => ?_)
    · replace h := o_neg hc2 h
      refine lv_iconst (pc := 25) (v := 0) hx hb dX9_whose_25 (by decide) ?_
      refine lv_istore_n (pc := 26) (lv' := [(2, .int (0 : Int32)), (0, .ref (z + 80 + 0)), (1, .int v1)]) hx hb dX9_whose_26 rfl hl (by decide) rfl (fun ls hl => ?_)
      refine lv_iconst (pc := 27) (v := 0) hx hb dX9_whose_27 (by decide) ?_
      refine lv_istore_n (pc := 28) (lv' := [(3, .int (0 : Int32)), (2, .int (0 : Int32)), (0, .ref (z + 80 + 0)), (1, .int v1)]) hx hb dX9_whose_28 rfl hl (by decide) rfl (fun ls hl => ?_)
      exact w_X9_whose_b29 C hK v1 FU σ (0 : Int32) (0 : Int32) hW hS (lv_sub hl [2, 3, 1, 0] rfl) h
    · replace h := o_pos hc2 h
      refine lv_bipush (pc := 22) (v := -11) hx hb dX9_whose_22 (by decide) ?_
      exact g_ret (pc := 24) C hW hS rfl dX9_whose_24 (congrArg (fun q => some (Value.int q)) (o_r h).1) (o_r h).2
  · replace h := o_pos hc0 h
    refine lv_bipush (pc := 9) (v := -2) hx hb dX9_whose_9 (by decide) ?_
    exact g_ret (pc := 11) C hW hS rfl dX9_whose_11 (congrArg (fun q => some (Value.int q)) (o_r h).1) (o_r h).2

end
