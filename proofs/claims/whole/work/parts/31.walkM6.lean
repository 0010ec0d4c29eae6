section
variable {p : Program} {l : Launch} {e : Env} {s : State} {m : MethodId} {args : Array Value} {below : List Frame} {meth : Method} {c : Code} {D : va_G} {ac : Nat → ClassId} {z : Nat} {aK aV : Nat → Nat} {K : Nat}

theorem w_X9_film_b108 (C : CX cX9_film 5 RX9 (some .int) D ac p m c s args meth (z, aK, aV) (Ar (z + 80))) (hK : 5 ≤ K) {r : Int32} {σf : Mem}   (σ : Mem) (v1 : Int32) (v2 : Int32) (v3 : Int32) (v4 : Int32) (k1 : Int32) (k2 : Int32) (s57 : Mem → Int32 → Option (Int32 × Mem)) (hs57 : ∀ (σ : Mem) (v4 : Int32) {H : Heap} {locs : List Loc} {ls : Array Slot} (_ : WR D ac (z + 80) σ H) (_ : va_S (Ar (z + 80)) s.heap H locs) (_ : lv_has ls 5 [(0, .ref (z + 80 + 0)), (1, .int v1), (2, .int v2), (3, .int v3), (4, .int v4)]) (_ : s57 σ v4 = some (r, σf)), W p l e (rma K 0 0) s m args below meth c H locs 0 0 (MQ below (QV D (Er ac (z + 80)) inR (z + 80) (some (.int r)) σf (Ar (z + 80))) args s 0 0 (Ar (z + 80))) (F0 m 57 ls [])) {H : Heap} {locs : List Loc} {ls : Array Slot} (hW : WR D ac (z + 80) σ H) (hS : va_S (Ar (z + 80)) s.heap H locs) (hl : lv_has ls 5 [(0, .ref (z + 80 + 0)), (1, .int v1), (2, .int v2), (3, .int v3), (4, .int v4)]) (h : f_X9_film_b108 s57 σ v1 v2 v3 v4 k1 k2 = some (r, σf)) : W p l e (rma K 0 0) s m args below meth c H locs 0 0 (MQ below (QV D (Er ac (z + 80)) inR (z + 80) (some (.int r)) σf (Ar (z + 80))) args s 0 0 (Ar (z + 80))) (F0 m 108 ls [.int k2, .int k1, .ref (z + 80 + 11)]) := by
  have hx := C.1.1
  have hb := C.1.2.1
  unfold f_X9_film_b108 at h
  obtain ⟨hc15, h⟩ := o_chk h
  refine ir_st (pc := 108) (k := 11) C hW hS (by decide) (by decide) rfl rfl (inb_in hc15) dX9_film_108 (fun H locs hW hS => ?_)
  refine lv_iinc (pc := 109) (v := (v4 + 1)) (lv' := [(4, .int (v4 + 1)), (0, .ref (z + 80 + 0)), (1, .int v1), (2, .int v2), (3, .int v3)]) hx hb dX9_film_109 hl (k := 4) rfl rfl (by decide) rfl (fun ls hl => ?_)
  refine lv_goto (pc := 112) (tgt := 57) hx hb dX9_film_112 (by decide) ?_
  exact hs57 (ms σ 11 (k1.toNatClampNeg) k2) (v4 + 1) hW hS (lv_sub hl [1, 2, 3, 4, 0] rfl) h

theorem w_X9_film_b57 (C : CX cX9_film 5 RX9 (some .int) D ac p m c s args meth (z, aK, aV) (Ar (z + 80))) (hK : 5 ≤ K) {r : Int32} {σf : Mem}   (v1 : Int32) (v2 : Int32) (v3 : Int32)  : ∀ (n : Nat) (σ : Mem) (v4 : Int32) {H : Heap} {locs : List Loc} {ls : Array Slot} (hW : WR D ac (z + 80) σ H) (hS : va_S (Ar (z + 80)) s.heap H locs) (hl : lv_has ls 5 [(0, .ref (z + 80 + 0)), (1, .int v1), (2, .int v2), (3, .int v3), (4, .int v4)]) (h : f_X9_film_b57 v1 v2 v3 n σ v4 = some (r, σf)), W p l e (rma K 0 0) s m args below meth c H locs 0 0 (MQ below (QV D (Er ac (z + 80)) inR (z + 80) (some (.int r)) σf (Ar (z + 80))) args s 0 0 (Ar (z + 80))) (F0 m 57 ls []) := by
  have hx := C.1.1
  have hb := C.1.2.1
  intro n
  induction n with
  | zero =>
    intro σ v4 H locs ls  hW hS hl h
    cases h
  | succ n ih =>
    intro σ v4 H locs ls  hW hS hl h
    rw [f_X9_film_b57.eq_2] at h
    refine lv_iload (pc := 57) hx hb dX9_film_57 (lv_at hl 4 rfl) ?_
    refine lv_bipush (pc := 59) (v := 40) hx hb dX9_film_59 (by decide) ?_
    refine lv_icmp_ge (pc := 61) (tgt := 115) hx hb dX9_film_61 (by decide) (fun hc8 => ?_) (fun hc8 => ?_)
    · replace h := o_pos hc8 h
      refine lv_aload_n (pc := 115) hx hb dX9_film_115 rfl (lv_at hl 0 rfl) ?_
      obtain ⟨σ11, hc9, h⟩ := o_b h
      refine g_virt (pc := 116) (st2 := []) (rest := []) C hW hS (c_X9_laysBack (K := K - 1) (by omega) hc9) mw_X9_234 inR0 Er_0 rfl (hRoom (by omega) (by decide)) rfl rfl rfl (Nat.le_of_ble_eq_true rfl) hl.1 dX9_film_116 (fun H locs hW hS => ?_)
      refine lv_iload_n (pc := 119) hx hb dX9_film_119 rfl (lv_at hl 3 rfl) ?_
      exact g_ret (pc := 120) C hW hS rfl dX9_film_120 (congrArg (fun q => some (Value.int q)) (o_r h).1) (o_r h).2
    · replace h := o_neg hc8 h
      refine lv_aload_n (pc := 64) hx hb dX9_film_64 rfl (lv_at hl 0 rfl) ?_
      refine lv_iload_n (pc := 65) hx hb dX9_film_65 rfl (lv_at hl 2 rfl) ?_
      obtain ⟨σ13, hc11, h⟩ := o_b h
      refine g_virt (pc := 66) (st2 := []) (rest := []) C hW hS (c_X9_grow (K := K - 1) (by omega) hc11) mw_X9_216 inR0 Er_0 rfl (hRoom (by omega) (by decide)) rfl rfl rfl (Nat.le_of_ble_eq_true rfl) hl.1 dX9_film_66 (fun H locs hW hS => ?_)
      refine lv_aload_n (pc := 69) hx hb dX9_film_69 rfl (lv_at hl 0 rfl) ?_
      refine lv_dup (pc := 70) hx hb dX9_film_70 rfl ?_
      refine gf_X9_6 (pc := 71) C hW fl_X9_91 dX9_film_71 ?_
      refine lv_iconst (pc := 74) (v := 1) hx hb dX9_film_74 (by decide) ?_
      refine lv_iadd (pc := 75) hx hb dX9_film_75 ?_
      refine pf_X9_6 (pc := 76) C hW hS fl_X9_91 dX9_film_76 (fun H locs hW hS => ?_)
      refine lv_aload_n (pc := 79) hx hb dX9_film_79 rfl (lv_at hl 0 rfl) ?_
      refine gf_X9_21 (pc := 80) C hW fl_X9_40 dX9_film_80 ?_
      refine lv_bipush (pc := 83) (v := 40) hx hb dX9_film_83 (by decide) ?_
      refine lv_iload_n (pc := 85) hx hb dX9_film_85 rfl (lv_at hl 1 rfl) ?_
      refine lv_imul (pc := 86) hx hb dX9_film_86 ?_
      refine lv_iload (pc := 87) hx hb dX9_film_87 (lv_at hl 4 rfl) ?_
      refine lv_iadd (pc := 89) hx hb dX9_film_89 ?_
      refine lv_iload (pc := 90) hx hb dX9_film_90 (lv_at hl 4 rfl) ?_
      refine lv_iload_n (pc := 92) hx hb dX9_film_92 rfl (lv_at hl 3 rfl) ?_
      refine lv_icmp_ge (pc := 93) (tgt := 107) hx hb dX9_film_93 (by decide) (fun hc13 => ?_) (fun hc13 => ?_)
      · replace h := o_pos hc13 h
        refine lv_iconst (pc := 107) (v := 0) hx hb dX9_film_107 (by decide) ?_
        exact w_X9_film_b108 C hK (ms σ13 0 6 ((σ13 0 6) + (1 : Int32))) v1 v2 v3 v4 (((40 : Int32) * v1) + v4) (0 : Int32) (f_X9_film_b57 v1 v2 v3 n) (fun σ v4 {H : Heap} {locs : List Loc} {ls : Array Slot}  hW hS hl h => ih σ v4 hW hS hl h) hW hS (lv_sub hl [0, 1, 2, 3, 4] rfl) h
      · replace h := o_neg hc13 h
        refine lv_aload_n (pc := 96) hx hb dX9_film_96 rfl (lv_at hl 0 rfl) ?_
        refine gf_X9_3 (pc := 97) C hW fl_X9_16 dX9_film_97 ?_
        refine lv_iconst (pc := 100) (v := 4) hx hb dX9_film_100 (by decide) ?_
        refine lv_iload_n (pc := 101) hx hb dX9_film_101 rfl (lv_at hl 2 rfl) ?_
        refine lv_imul (pc := 102) hx hb dX9_film_102 ?_
        obtain ⟨hc14, h⟩ := o_chk h
        refine ir_ld (pc := 103) (k := 3) C hW (by decide) (by decide) rfl rfl (inb_in hc14) dX9_film_103 ?_
        refine lv_goto (pc := 104) (tgt := 108) hx hb dX9_film_104 (by decide) ?_
        exact w_X9_film_b108 C hK (ms σ13 0 6 ((σ13 0 6) + (1 : Int32))) v1 v2 v3 v4 (((40 : Int32) * v1) + v4) ((ms σ13 0 6 ((σ13 0 6) + (1 : Int32))) 3 (((4 : Int32) * v2).toNatClampNeg)) (f_X9_film_b57 v1 v2 v3 n) (fun σ v4 {H : Heap} {locs : List Loc} {ls : Array Slot}  hW hS hl h => ih σ v4 hW hS hl h) hW hS (lv_sub hl [0, 1, 2, 3, 4] rfl) h

theorem c_X9_film {K : Nat}  (hK : 5 ≤ K) {σ : Mem} {σf : Mem} {v1 : Int32} {v2 : Int32} {v3 : Int32} {r : Int32} (h : f_X9_film σ v1 v2 v3 = some (r, σf)) : MC l D (Er ac (z + 80)) inR (z + 80) ac (z, aK, aV) (Ar (z + 80)) yX9_film cX9_film 5 (some .int) K [.ref (z + 80 + 0), .int v1, .int v2, .int v3] σ (some (.int r)) σf := by
  refine MC.of (fun q hq => by have := hq.1; show z ≤ q; omega) (plainFor_of_name (by decide)) (Nat.le_of_ble_eq_true rfl) ?_
  intro p e s m below meth c args C hW ls hl
  replace hl : lv_has ls 5 [(0, .ref (z + 80 + 0)), (1, .int v1), (2, .int v2), (3, .int v3)] := hl
  have hS : va_S (Ar (z + 80)) s.heap s.heap [] := va_S.rf
  have hx := C.1.1
  have hb := C.1.2.1
  unfold f_X9_film at h
  refine lv_iload_n (pc := 0) hx hb dX9_film_0 rfl (lv_at hl 1 rfl) ?_
  refine lv_iconst (pc := 1) (v := 0) hx hb dX9_film_1 (by decide) ?_
  refine lv_iconst (pc := 2) (v := 3) hx hb dX9_film_2 (by decide) ?_
  refine g_stat (pc := 3) (st2 := [.int (f_X9_in v1 (0 : Int32) (3 : Int32))]) (rest := []) C hW hS (c_X9_in (K := K - 1) (by omega) rfl) mw_X9_84 (hRoom (by omega) (by decide)) rfl rfl rfl (Nat.le_of_ble_eq_true rfl) hl.1 dX9_film_3 (fun H locs hW hS => ?_)
  refine lv_if_ne (pc := 6) (tgt := 12) hx hb dX9_film_6 (by decide) (fun hc0 => ?_) (fun hc0 => ?_)
  · replace h := o_neg hc0 h
    refine lv_aload_n (pc := 12) hx hb dX9_film_12 rfl (lv_at hl 0 rfl) ?_
    refine lv_iload_n (pc := 13) hx hb dX9_film_13 rfl (lv_at hl 2 rfl) ?_
    refine g_virt (pc := 14) (st2 := [.int (f_X9_isMan σ v2)]) (rest := []) C hW hS (c_X9_isMan (K := K - 1) (by omega) rfl) mw_X9_176 inR0 Er_0 rfl (hRoom (by omega) (by decide)) rfl rfl rfl (Nat.le_of_ble_eq_true rfl) hl.1 dX9_film_14 (fun H locs hW hS => ?_)
    refine lv_if_ne (pc := 17) (tgt := 23) hx hb dX9_film_17 (by decide) (fun hc1 => ?_) (fun hc1 => ?_)
    · replace h := o_neg hc1 h
      refine lv_iload_n (pc := 23) hx hb dX9_film_23 rfl (lv_at hl 3 rfl) ?_
      refine lv_iconst (pc := 24) (v := 0) hx hb dX9_film_24 (by decide) ?_
      refine lv_bipush (pc := 25) (v := 40) hx hb dX9_film_25 (by decide) ?_
      refine g_stat (pc := 27) (st2 := [.int (f_X9_in v3 (0 : Int32) (40 : Int32))]) (rest := []) C hW hS (c_X9_in (K := K - 1) (by omega) rfl) mw_X9_84 (hRoom (by omega) (by decide)) rfl rfl rfl (Nat.le_of_ble_eq_true rfl) hl.1 dX9_film_27 (fun H locs hW hS => ?_)
      refine lv_if_ne (pc := 30) (tgt := 36) hx hb dX9_film_30 (by decide) (fun hc2 => ?_) (fun hc2 => ?_)
      · replace h := o_neg hc2 h
        refine lv_aload_n (pc := 36) hx hb dX9_film_36 rfl (lv_at hl 0 rfl) ?_
        refine gf_X9_19 (pc := 37) C hW fl_X9_34 dX9_film_37 ?_
        refine lv_iload_n (pc := 40) hx hb dX9_film_40 rfl (lv_at hl 1 rfl) ?_
        refine lv_iconst (pc := 41) (v := 1) hx hb dX9_film_41 (by decide) ?_
        obtain ⟨hc3, h⟩ := o_chk h
        refine ir_st (pc := 42) (k := 9) C hW hS (by decide) (by decide) rfl rfl (inb_in hc3) dX9_film_42 (fun H locs hW hS => ?_)
        refine lv_aload_n (pc := 43) hx hb dX9_film_43 rfl (lv_at hl 0 rfl) ?_
        refine gf_X9_20 (pc := 44) C hW fl_X9_37 dX9_film_44 ?_
        refine lv_iload_n (pc := 47) hx hb dX9_film_47 rfl (lv_at hl 1 rfl) ?_
        refine lv_iload_n (pc := 48) hx hb dX9_film_48 rfl (lv_at hl 3 rfl) ?_
        obtain ⟨hc4, h⟩ := o_chk h
        refine ir_st (pc := 49) (k := 10) C hW hS (by decide) (by decide) rfl rfl (inb_in hc4) dX9_film_49 (fun H locs hW hS => ?_)
        obtain ⟨σ6, hσ6, h⟩ := o_d h
        replace hW : WR D ac (z + 80) σ6 H := by rw [← hσ6]; exact hW
        refine lv_aload_n (pc := 50) hx hb dX9_film_50 rfl (lv_at hl 0 rfl) ?_
        obtain ⟨σ8, hc6, h⟩ := o_b h
        refine g_virt (pc := 51) (st2 := []) (rest := []) C hW hS (c_X9_keeps (K := K - 1) (by omega) hc6) mw_X9_231 inR0 Er_0 rfl (hRoom (by omega) (by decide)) rfl rfl rfl (Nat.le_of_ble_eq_true rfl) hl.1 dX9_film_51 (fun H locs hW hS => ?_)
        refine lv_iconst (pc := 54) (v := 0) hx hb dX9_film_54 (by decide) ?_
        refine lv_istore (pc := 55) (lv' := [(4, .int (0 : Int32)), (0, .ref (z + 80 + 0)), (1, .int v1), (2, .int v2), (3, .int v3)]) hx hb dX9_film_55 hl (by decide) rfl (fun ls hl => ?_)
        exact w_X9_film_b57 C hK v1 v2 v3 FU σ8 (0 : Int32) hW hS (lv_sub hl [1, 2, 3, 4, 0] rfl) h
      · replace h := o_pos hc2 h
        refine lv_bipush (pc := 33) (v := -7) hx hb dX9_film_33 (by decide) ?_
        exact g_ret (pc := 35) C hW hS rfl dX9_film_35 (congrArg (fun q => some (Value.int q)) (o_r h).1) (o_r h).2
    · replace h := o_pos hc1 h
      refine lv_bipush (pc := 20) (v := -5) hx hb dX9_film_20 (by decide) ?_
      exact g_ret (pc := 22) C hW hS rfl dX9_film_22 (congrArg (fun q => some (Value.int q)) (o_r h).1) (o_r h).2
  · replace h := o_pos hc0 h
    refine lv_bipush (pc := 9) (v := -2) hx hb dX9_film_9 (by decide) ?_
    exact g_ret (pc := 11) C hW hS rfl dX9_film_11 (congrArg (fun q => some (Value.int q)) (o_r h).1) (o_r h).2

theorem w_X9_goesByLots_b21 (C : CX cX9_goesByLots 7 RX9 none D ac p m c s args meth (z, aK, aV) (Ar (z + 80))) (hK : 6 ≤ K) {σf : Mem}   (v2 : Int32) (v5 : Int32) (s12 : Mem → Int64 → Int32 → Option Mem) (hs12 : ∀ (σ : Mem) (v3 : Int64) (v5 : Int32) {H : Heap} {locs : List Loc} {ls : Array Slot} (_ : WR D ac (z + 80) σ H) (_ : va_S (Ar (z + 80)) s.heap H locs) (_ : lv_has ls 7 [(0, .ref (z + 80 + 0)), (2, .int v2), (3, .long v3), (5, .int v5)]) (_ : s12 σ v3 v5 = some σf), W p l e (rma K 0 0) s m args below meth c H locs 0 0 (MQ below (QV D (Er ac (z + 80)) inR (z + 80) none σf (Ar (z + 80))) args s 0 0 (Ar (z + 80))) (F0 m 12 ls [])) : ∀ (n : Nat) (σ : Mem) (v3 : Int64) (v6 : Int32) {H : Heap} {locs : List Loc} {ls : Array Slot} (hW : WR D ac (z + 80) σ H) (hS : va_S (Ar (z + 80)) s.heap H locs) (hl : lv_has ls 7 [(0, .ref (z + 80 + 0)), (2, .int v2), (3, .long v3), (5, .int v5), (6, .int v6)]) (h : f_X9_goesByLots_b21 s12 v2 v5 n σ v3 v6 = some σf), W p l e (rma K 0 0) s m args below meth c H locs 0 0 (MQ below (QV D (Er ac (z + 80)) inR (z + 80) none σf (Ar (z + 80))) args s 0 0 (Ar (z + 80))) (F0 m 21 ls []) := by
  have hx := C.1.1
  have hb := C.1.2.1
  intro n
  induction n with
  | zero =>
    intro σ v3 v6 H locs ls  hW hS hl h
    cases h
  | succ n ih =>
    intro σ v3 v6 H locs ls  hW hS hl h
    rw [f_X9_goesByLots_b21.eq_2] at h
    refine lv_iload (pc := 21) hx hb dX9_goesByLots_21 (lv_at hl 4 rfl) ?_
    refine lv_aload_n (pc := 23) hx hb dX9_goesByLots_23 rfl (lv_at hl 0 rfl) ?_
    refine gf_X9_0 (pc := 24) C hW fl_X9_81 dX9_goesByLots_24 ?_
    refine lv_icmp_ge (pc := 27) (tgt := 63) hx hb dX9_goesByLots_27 (by decide) (fun hc5 => ?_) (fun hc5 => ?_)
    · replace h := o_pos hc5 h
      refine lv_aload_n (pc := 63) hx hb dX9_goesByLots_63 rfl (lv_at hl 0 rfl) ?_
      refine lv_iload (pc := 64) hx hb dX9_goesByLots_64 (lv_at hl 3 rfl) ?_
      obtain ⟨σ8, hc6, h⟩ := o_b h
      refine g_virt (pc := 66) (st2 := []) (rest := []) C hW hS (c_X9_weekOf (K := K - 1) (by omega) hc6) mw_X9_225 inR0 Er_0 rfl (hRoom (by omega) (by decide)) rfl rfl rfl (Nat.le_of_ble_eq_true rfl) hl.1 dX9_goesByLots_66 (fun H locs hW hS => ?_)
      refine lv_iinc (pc := 69) (v := (v5 + 1)) (lv' := [(5, .int (v5 + 1)), (0, .ref (z + 80 + 0)), (2, .int v2), (3, .long v3), (6, .int v6)]) hx hb dX9_goesByLots_69 hl (k := 3) rfl rfl (by decide) rfl (fun ls hl => ?_)
      refine lv_goto (pc := 72) (tgt := 12) hx hb dX9_goesByLots_72 (by decide) ?_
      exact hs12 σ8 v3 (v5 + 1) hW hS (lv_sub hl [1, 2, 3, 0] rfl) h
    · replace h := o_neg hc5 h
      refine lv_lload_n (pc := 30) hx hb dX9_goesByLots_30 rfl (lv_at hl 2 rfl) ?_
      refine lv_ldc2 (pc := 31) hx hb C.1.2.2.2.1 (C.1.2.2.2.2 _ cn_X9_301) dX9_goesByLots_31 ?_
      refine lv_lmul (pc := 34) hx hb dX9_goesByLots_34 ?_
      refine lv_ldc2 (pc := 35) hx hb C.1.2.2.2.1 (C.1.2.2.2.2 _ cn_X9_303) dX9_goesByLots_35 ?_
      refine lv_lrem (pc := 38) hx hb dX9_goesByLots_38 (by decide) ?_
      obtain ⟨x9, hxx9, h⟩ := o_d h
      refine g_topl hxx9 ?_
      refine lv_lstore_n (pc := 39) (lv' := [(3, .long x9), (0, .ref (z + 80 + 0)), (2, .int v2), (5, .int v5), (6, .int v6)]) hx hb dX9_goesByLots_39 rfl hl (by decide) rfl (fun ls hl => ?_)
      refine lv_aload_n (pc := 40) hx hb dX9_goesByLots_40 rfl (lv_at hl 1 rfl) ?_
      refine gf_X9_3 (pc := 41) C hW fl_X9_16 dX9_goesByLots_41 ?_
      refine lv_iconst (pc := 44) (v := 4) hx hb dX9_goesByLots_44 (by decide) ?_
      refine lv_iload (pc := 45) hx hb dX9_goesByLots_45 (lv_at hl 4 rfl) ?_
      refine lv_imul (pc := 47) hx hb dX9_goesByLots_47 ?_
      refine lv_iconst (pc := 48) (v := 1) hx hb dX9_goesByLots_48 (by decide) ?_
      refine lv_iadd (pc := 49) hx hb dX9_goesByLots_49 ?_
      refine lv_lload_n (pc := 50) hx hb dX9_goesByLots_50 rfl (lv_at hl 0 rfl) ?_
      refine lv_ldc2 (pc := 51) hx hb C.1.2.2.2.1 (C.1.2.2.2.2 _ cn_X9_305) dX9_goesByLots_51 ?_
      refine lv_lrem (pc := 54) hx hb dX9_goesByLots_54 (by decide) ?_
      refine lv_l2i (pc := 55) (v := ((lrm x9 (10 : Int64)).toInt32)) hx hb dX9_goesByLots_55 rfl ?_
      obtain ⟨hc9, h⟩ := o_chk h
      refine ir_st (pc := 56) (k := 3) C hW hS (by decide) (by decide) rfl rfl (inb_in hc9) dX9_goesByLots_56 (fun H locs hW hS => ?_)
      obtain ⟨σ11, hσ11, h⟩ := o_d h
      replace hW : WR D ac (z + 80) σ11 H := by rw [← hσ11]; exact hW
      refine lv_iinc (pc := 57) (v := (v6 + 1)) (lv' := [(6, .int (v6 + 1)), (3, .long x9), (0, .ref (z + 80 + 0)), (2, .int v2), (5, .int v5)]) hx hb dX9_goesByLots_57 hl (k := 4) rfl rfl (by decide) rfl (fun ls hl => ?_)
      refine lv_goto (pc := 60) (tgt := 21) hx hb dX9_goesByLots_60 (by decide) ?_
      exact ih σ11 x9 (v6 + 1) hW hS (lv_sub hl [2, 3, 1, 4, 0] rfl) h

theorem w_X9_goesByLots_b12 (C : CX cX9_goesByLots 7 RX9 none D ac p m c s args meth (z, aK, aV) (Ar (z + 80))) (hK : 6 ≤ K) {σf : Mem}   (v2 : Int32)  : ∀ (n : Nat) (σ : Mem) (v3 : Int64) (v5 : Int32) {H : Heap} {locs : List Loc} {ls : Array Slot} (hW : WR D ac (z + 80) σ H) (hS : va_S (Ar (z + 80)) s.heap H locs) (hl : lv_has ls 7 [(0, .ref (z + 80 + 0)), (2, .int v2), (3, .long v3), (5, .int v5)]) (h : f_X9_goesByLots_b12 v2 n σ v3 v5 = some σf), W p l e (rma K 0 0) s m args below meth c H locs 0 0 (MQ below (QV D (Er ac (z + 80)) inR (z + 80) none σf (Ar (z + 80))) args s 0 0 (Ar (z + 80))) (F0 m 12 ls []) := by
  have hx := C.1.1
  have hb := C.1.2.1
  intro n
  induction n with
  | zero =>
    intro σ v3 v5 H locs ls  hW hS hl h
    cases h
  | succ n ih =>
    intro σ v3 v5 H locs ls  hW hS hl h
    rw [f_X9_goesByLots_b12.eq_2] at h
    refine lv_iload (pc := 12) hx hb dX9_goesByLots_12 (lv_at hl 3 rfl) ?_
    refine lv_iload_n (pc := 14) hx hb dX9_goesByLots_14 rfl (lv_at hl 1 rfl) ?_
    refine lv_icmp_ge (pc := 15) (tgt := 75) hx hb dX9_goesByLots_15 (by decide) (fun hc2 => ?_) (fun hc2 => ?_)
    · replace h := o_pos hc2 h
      refine lv_aload_n (pc := 75) hx hb dX9_goesByLots_75 rfl (lv_at hl 0 rfl) ?_
      obtain ⟨σ5, hc3, h⟩ := o_b h
      refine g_virt (pc := 76) (st2 := []) (rest := []) C hW hS (c_X9_laysBack (K := K - 1) (by omega) hc3) mw_X9_234 inR0 Er_0 rfl (hRoom (by omega) (by decide)) rfl rfl rfl (Nat.le_of_ble_eq_true rfl) hl.1 dX9_goesByLots_76 (fun H locs hW hS => ?_)
      exact g_vret (pc := 79) C hW hS dX9_goesByLots_79 rfl (Option.some.inj h).symm
    · replace h := o_neg hc2 h
      refine lv_iconst (pc := 18) (v := 0) hx hb dX9_goesByLots_18 (by decide) ?_
      refine lv_istore (pc := 19) (lv' := [(6, .int (0 : Int32)), (0, .ref (z + 80 + 0)), (2, .int v2), (3, .long v3), (5, .int v5)]) hx hb dX9_goesByLots_19 hl (by decide) rfl (fun ls hl => ?_)
      exact w_X9_goesByLots_b21 C hK v2 v5 (f_X9_goesByLots_b12 v2 n) (fun σ v3 v5 {H : Heap} {locs : List Loc} {ls : Array Slot}  hW hS hl h => ih σ v3 v5 hW hS hl h) FU σ v3 (0 : Int32) hW hS (lv_sub hl [1, 2, 3, 4, 0] rfl) h

theorem c_X9_goesByLots {K : Nat}  (hK : 6 ≤ K) {σ : Mem} {σf : Mem} {v1 : Int32} {v2 : Int32} (h : f_X9_goesByLots σ v1 v2 = some σf) : MC l D (Er ac (z + 80)) inR (z + 80) ac (z, aK, aV) (Ar (z + 80)) yX9_goesByLots cX9_goesByLots 7 none K [.ref (z + 80 + 0), .int v1, .int v2] σ none σf := by
  refine MC.of (fun q hq => by have := hq.1; show z ≤ q; omega) (plainFor_of_name (by decide)) (Nat.le_of_ble_eq_true rfl) ?_
  intro p e s m below meth c args C hW ls hl
  replace hl : lv_has ls 7 [(0, .ref (z + 80 + 0)), (1, .int v1), (2, .int v2)] := hl
  have hS : va_S (Ar (z + 80)) s.heap s.heap [] := va_S.rf
  have hx := C.1.1
  have hb := C.1.2.1
  unfold f_X9_goesByLots at h
  refine lv_iload_n (pc := 0) hx hb dX9_goesByLots_0 rfl (lv_at hl 1 rfl) ?_
  refine lv_i2l (pc := 1) (v := (v1.toInt64)) hx hb dX9_goesByLots_1 rfl ?_
  refine lv_lconst (pc := 2) (v := 1) hx hb dX9_goesByLots_2 (by decide) ?_
  refine lv_ladd (pc := 3) hx hb dX9_goesByLots_3 ?_
  refine lv_lstore_n (pc := 4) (lv' := [(3, .long ((v1.toInt64) + (1 : Int64))), (0, .ref (z + 80 + 0)), (1, .int v1), (2, .int v2)]) hx hb dX9_goesByLots_4 rfl hl (by decide) rfl (fun ls hl => ?_)
  refine lv_aload_n (pc := 5) hx hb dX9_goesByLots_5 rfl (lv_at hl 1 rfl) ?_
  obtain ⟨σ2, hc0, h⟩ := o_b h
  refine g_virt (pc := 6) (st2 := []) (rest := []) C hW hS (c_X9_keeps (K := K - 1) (by omega) hc0) mw_X9_231 inR0 Er_0 rfl (hRoom (by omega) (by decide)) rfl rfl rfl (Nat.le_of_ble_eq_true rfl) hl.1 dX9_goesByLots_6 (fun H locs hW hS => ?_)
  refine lv_iconst (pc := 9) (v := 0) hx hb dX9_goesByLots_9 (by decide) ?_
  refine lv_istore (pc := 10) (lv' := [(5, .int (0 : Int32)), (3, .long ((v1.toInt64) + (1 : Int64))), (0, .ref (z + 80 + 0)), (1, .int v1), (2, .int v2)]) hx hb dX9_goesByLots_10 hl (by decide) rfl (fun ls hl => ?_)
  exact w_X9_goesByLots_b12 C hK v2 FU σ2 ((v1.toInt64) + (1 : Int64)) (0 : Int32) hW hS (lv_sub hl [2, 4, 1, 0] rfl) h

theorem c_X9_drawn {K : Nat}  (hK : 7 ≤ K) {σ : Mem} {σf : Mem} {v1 : Int32} {v2 : Int32} {v3 : Int32} {r : Int32} (h : f_X9_drawn σ v1 v2 v3 = some (r, σf)) : MC l D (Er ac (z + 80)) inR (z + 80) ac (z, aK, aV) (Ar (z + 80)) yX9_drawn cX9_drawn 4 (some .int) K [.ref (z + 80 + 0), .int v1, .int v2, .int v3] σ (some (.int r)) σf := by
  refine MC.of (fun q hq => by have := hq.1; show z ≤ q; omega) (plainFor_of_name (by decide)) (Nat.le_of_ble_eq_true rfl) ?_
  intro p e s m below meth c args C hW ls hl
  replace hl : lv_has ls 4 [(0, .ref (z + 80 + 0)), (1, .int v1), (2, .int v2), (3, .int v3)] := hl
  have hS : va_S (Ar (z + 80)) s.heap s.heap [] := va_S.rf
  have hx := C.1.1
  have hb := C.1.2.1
  unfold f_X9_drawn at h
  refine lv_iload_n (pc := 0) hx hb dX9_drawn_0 rfl (lv_at hl 1 rfl) ?_
  refine lv_iconst (pc := 1) (v := 0) hx hb dX9_drawn_1 (by decide) ?_
  refine lv_ldcw (pc := 2) hx hb C.1.2.2.2.1 (C.1.2.2.2.2 _ cn_X9_307) dX9_drawn_2 ?_
  refine g_stat (pc := 5) (st2 := [.int (f_X9_in v1 (0 : Int32) (99999 : Int32))]) (rest := []) C hW hS (c_X9_in (K := K - 1) (by omega) rfl) mw_X9_84 (hRoom (by omega) (by decide)) rfl rfl rfl (Nat.le_of_ble_eq_true rfl) hl.1 dX9_drawn_5 (fun H locs hW hS => ?_)
  refine lv_if_eq (pc := 8) (tgt := 30) hx hb dX9_drawn_8 (by decide) (fun hc0 => ?_) (fun hc0 => ?_)
  · replace h := o_pos hc0 h
    refine lv_bipush (pc := 30) (v := -2) hx hb dX9_drawn_30 (by decide) ?_
    exact g_ret (pc := 32) C hW hS rfl dX9_drawn_32 (congrArg (fun q => some (Value.int q)) (o_r h).1) (o_r h).2
  · replace h := o_neg hc0 h
    refine lv_iload_n (pc := 11) hx hb dX9_drawn_11 rfl (lv_at hl 2 rfl) ?_
    refine lv_iconst (pc := 12) (v := 0) hx hb dX9_drawn_12 (by decide) ?_
    refine lv_bipush (pc := 13) (v := 60) hx hb dX9_drawn_13 (by decide) ?_
    refine g_stat (pc := 15) (st2 := [.int (f_X9_in v2 (0 : Int32) (60 : Int32))]) (rest := []) C hW hS (c_X9_in (K := K - 1) (by omega) rfl) mw_X9_84 (hRoom (by omega) (by decide)) rfl rfl rfl (Nat.le_of_ble_eq_true rfl) hl.1 dX9_drawn_15 (fun H locs hW hS => ?_)
    refine lv_if_eq (pc := 18) (tgt := 30) hx hb dX9_drawn_18 (by decide) (fun hc1 => ?_) (fun hc1 => ?_)
    · replace h := o_pos hc1 h
      refine lv_bipush (pc := 30) (v := -2) hx hb dX9_drawn_30 (by decide) ?_
      exact g_ret (pc := 32) C hW hS rfl dX9_drawn_32 (congrArg (fun q => some (Value.int q)) (o_r h).1) (o_r h).2
    · replace h := o_neg hc1 h
      refine lv_iload_n (pc := 21) hx hb dX9_drawn_21 rfl (lv_at hl 3 rfl) ?_
      refine lv_iconst (pc := 22) (v := 0) hx hb dX9_drawn_22 (by decide) ?_
      refine lv_iconst (pc := 23) (v := 2) hx hb dX9_drawn_23 (by decide) ?_
      refine g_stat (pc := 24) (st2 := [.int (f_X9_in v3 (0 : Int32) (2 : Int32))]) (rest := []) C hW hS (c_X9_in (K := K - 1) (by omega) rfl) mw_X9_84 (hRoom (by omega) (by decide)) rfl rfl rfl (Nat.le_of_ble_eq_true rfl) hl.1 dX9_drawn_24 (fun H locs hW hS => ?_)
      refine lv_if_ne (pc := 27) (tgt := 33) hx hb dX9_drawn_27 (by decide) (fun hc2 => ?_) (fun hc2 => ?_)
      · replace h := o_neg hc2 h
        refine lv_aload_n (pc := 33) hx hb dX9_drawn_33 rfl (lv_at hl 0 rfl) ?_
        refine lv_iload_n (pc := 34) hx hb dX9_drawn_34 rfl (lv_at hl 1 rfl) ?_
        refine lv_iload_n (pc := 35) hx hb dX9_drawn_35 rfl (lv_at hl 2 rfl) ?_
        obtain ⟨σ5, hc3, h⟩ := o_b h
        refine g_virt (pc := 36) (st2 := []) (rest := []) C hW hS (c_X9_goesByLots (K := K - 1) (by omega) hc3) mw_X9_308 inR0 Er_0 rfl (hRoom (by omega) (by decide)) rfl rfl rfl (Nat.le_of_ble_eq_true rfl) hl.1 dX9_drawn_36 (fun H locs hW hS => ?_)
        refine lv_iload_n (pc := 39) hx hb dX9_drawn_39 rfl (lv_at hl 3 rfl) ?_
        refine lv_if_ne (pc := 40) (tgt := 50) hx hb dX9_drawn_40 (by decide) (fun hc5 => ?_) (fun hc5 => ?_)
        · replace h := o_neg hc5 h
          refine lv_iload_n (pc := 50) hx hb dX9_drawn_50 rfl (lv_at hl 3 rfl) ?_
          refine lv_iconst (pc := 51) (v := 1) hx hb dX9_drawn_51 (by decide) ?_
          refine lv_icmp_ne (pc := 52) (tgt := 62) hx hb dX9_drawn_52 (by decide) (fun hc6 => ?_) (fun hc6 => ?_)
          · replace h := o_neg hc6 h
            refine lv_aload_n (pc := 62) hx hb dX9_drawn_62 rfl (lv_at hl 0 rfl) ?_
            refine gf_X9_38 (pc := 63) C hW fl_X9_206 dX9_drawn_63 ?_
            exact g_ret (pc := 66) C hW hS rfl dX9_drawn_66 (congrArg (fun q => some (Value.int q)) (o_r h).1) (o_r h).2
          · replace h := o_pos hc6 h
            refine lv_aload_n (pc := 55) hx hb dX9_drawn_55 rfl (lv_at hl 0 rfl) ?_
            refine gf_X9_37 (pc := 56) C hW fl_X9_203 dX9_drawn_56 ?_
            refine lv_goto (pc := 59) (tgt := 66) hx hb dX9_drawn_59 (by decide) ?_
            exact g_ret (pc := 66) C hW hS rfl dX9_drawn_66 (congrArg (fun q => some (Value.int q)) (o_r h).1) (o_r h).2
        · replace h := o_pos hc5 h
          refine lv_aload_n (pc := 43) hx hb dX9_drawn_43 rfl (lv_at hl 0 rfl) ?_
          refine gf_X9_34 (pc := 44) C hW fl_X9_194 dX9_drawn_44 ?_
          refine lv_goto (pc := 47) (tgt := 66) hx hb dX9_drawn_47 (by decide) ?_
          exact g_ret (pc := 66) C hW hS rfl dX9_drawn_66 (congrArg (fun q => some (Value.int q)) (o_r h).1) (o_r h).2
      · replace h := o_pos hc2 h
        refine lv_bipush (pc := 30) (v := -2) hx hb dX9_drawn_30 (by decide) ?_
        exact g_ret (pc := 32) C hW hS rfl dX9_drawn_32 (congrArg (fun q => some (Value.int q)) (o_r h).1) (o_r h).2

theorem w_X9_lowest_b16 (C : CX cX9_lowest 11 RX9 (some .long) D ac p m c s args meth (z, aK, aV) (Ar (z + 80))) (hK : 0 ≤ K) {r : Int64}   {σ : Mem} (v0 : Int64) (v2 : Int64) (v4 : Int32)  : ∀ (n : Nat) (v5 : Int64) (v7 : Int64) {H : Heap} {locs : List Loc} {ls : Array Slot} (hW : WR D ac (z + 80) σ H) (hS : va_S (Ar (z + 80)) s.heap H locs) (hl : lv_has ls 11 [(0, .long v0), (2, .long v2), (4, .int v4), (5, .long v5), (7, .long v7)]) (h : f_X9_lowest_b16 v0 v2 v4 n v5 v7 = some r), W p l e (rma K 0 0) s m args below meth c H locs 0 0 (MQ below (QV D (Er ac (z + 80)) inR (z + 80) (some (.long r)) σ (Ar (z + 80))) args s 0 0 (Ar (z + 80))) (F0 m 16 ls []) := by
  have hx := C.1.1
  have hb := C.1.2.1
  intro n
  induction n with
  | zero =>
    intro v5 v7 H locs ls  hW hS hl h
    cases h
  | succ n ih =>
    intro v5 v7 H locs ls  hW hS hl h
    rw [f_X9_lowest_b16.eq_2] at h
    refine lv_lload (pc := 16) hx hb dX9_lowest_16 (lv_at hl 4 rfl) ?_
    refine lv_lconst (pc := 18) (v := 0) hx hb dX9_lowest_18 (by decide) ?_
    refine W.lcmp (pc := 19) hx hb dX9_lowest_19 ?_
    refine lv_if_eq (pc := 20) (tgt := 41) hx hb dX9_lowest_20 (by decide) (fun hc1 => ?_) (fun hc1 => ?_)
    · replace h := o_pos hc1 h
      refine lv_iload (pc := 41) hx hb dX9_lowest_41 (lv_at hl 2 rfl) ?_
      refine lv_if_ne (pc := 43) (tgt := 50) hx hb dX9_lowest_43 (by decide) (fun hc2 => ?_) (fun hc2 => ?_)
      · replace h := o_neg hc2 h
        refine lv_lload_n (pc := 50) hx hb dX9_lowest_50 rfl (lv_at hl 1 rfl) ?_
        refine lv_lload (pc := 51) hx hb dX9_lowest_51 (lv_at hl 3 rfl) ?_
        obtain ⟨hc3, h⟩ := o_chk h
        refine lv_ldiv (pc := 53) hx hb dX9_lowest_53 hc3 ?_
        exact g_lret (pc := 54) C hW hS dX9_lowest_54 (congrArg (fun q => some (Value.long q)) (Option.some.inj h).symm) rfl
      · replace h := o_pos hc2 h
        refine lv_lload_n (pc := 46) hx hb dX9_lowest_46 rfl (lv_at hl 0 rfl) ?_
        refine lv_goto (pc := 47) (tgt := 51) hx hb dX9_lowest_47 (by decide) ?_
        refine lv_lload (pc := 51) hx hb dX9_lowest_51 (lv_at hl 3 rfl) ?_
        obtain ⟨hc4, h⟩ := o_chk h
        refine lv_ldiv (pc := 53) hx hb dX9_lowest_53 hc4 ?_
        exact g_lret (pc := 54) C hW hS dX9_lowest_54 (congrArg (fun q => some (Value.long q)) (Option.some.inj h).symm) rfl
    · replace h := o_neg hc1 h
      refine lv_lload (pc := 23) hx hb dX9_lowest_23 (lv_at hl 3 rfl) ?_
      refine lv_lload (pc := 25) hx hb dX9_lowest_25 (lv_at hl 4 rfl) ?_
      obtain ⟨hc5, h⟩ := o_chk h
      refine lv_lrem (pc := 27) hx hb dX9_lowest_27 hc5 ?_
      refine lv_lstore (pc := 28) (lv' := [(9, .long (lrm v5 v7)), (0, .long v0), (2, .long v2), (4, .int v4), (5, .long v5), (7, .long v7)]) hx hb dX9_lowest_28 hl (by decide) rfl (fun ls hl => ?_)
      refine lv_lload (pc := 30) hx hb dX9_lowest_30 (lv_at hl 5 rfl) ?_
      refine lv_lstore (pc := 32) (lv' := [(5, .long v7), (9, .long (lrm v5 v7)), (0, .long v0), (2, .long v2), (4, .int v4), (7, .long v7)]) hx hb dX9_lowest_32 hl (by decide) rfl (fun ls hl => ?_)
      refine lv_lload (pc := 34) hx hb dX9_lowest_34 (lv_at hl 1 rfl) ?_
      refine lv_lstore (pc := 36) (lv' := [(7, .long (lrm v5 v7)), (5, .long v7), (9, .long (lrm v5 v7)), (0, .long v0), (2, .long v2), (4, .int v4)]) hx hb dX9_lowest_36 hl (by decide) rfl (fun ls hl => ?_)
      refine lv_goto (pc := 38) (tgt := 16) hx hb dX9_lowest_38 (by decide) ?_
      exact ih v7 (lrm v5 v7) hW hS (lv_sub hl [3, 4, 5, 1, 0] rfl) h

theorem c_X9_lowest {K : Nat}  (hK : 0 ≤ K) {σ : Mem} {v0 : Int64} {v2 : Int64} {v4 : Int32} {r : Int64} (h : f_X9_lowest v0 v2 v4 = some r) : MC l D (Er ac (z + 80)) inR (z + 80) ac (z, aK, aV) (Ar (z + 80)) yX9_lowest cX9_lowest 11 (some .long) K [.long v0, .long v2, .int v4] σ (some (.long r)) σ := by
  refine MC.of (fun q hq => by have := hq.1; show z ≤ q; omega) (plainFor_of_name (by decide)) (Nat.le_of_ble_eq_true rfl) ?_
  intro p e s m below meth c args C hW ls hl
  replace hl : lv_has ls 11 [(0, .long v0), (2, .long v2), (4, .int v4)] := hl
  have hS : va_S (Ar (z + 80)) s.heap s.heap [] := va_S.rf
  have hx := C.1.1
  have hb := C.1.2.1
  unfold f_X9_lowest at h
  refine lv_lload_n (pc := 0) hx hb dX9_lowest_0 rfl (lv_at hl 0 rfl) ?_
  refine lv_lconst (pc := 1) (v := 0) hx hb dX9_lowest_1 (by decide) ?_
  refine W.lcmp (pc := 2) hx hb dX9_lowest_2 ?_
  refine lv_if_ne (pc := 3) (tgt := 10) hx hb dX9_lowest_3 (by decide) (fun hc0 => ?_) (fun hc0 => ?_)
  · replace h := o_neg hc0 h
    refine lv_lload_n (pc := 10) hx hb dX9_lowest_10 rfl (lv_at hl 0 rfl) ?_
    refine lv_lstore (pc := 11) (lv' := [(5, .long v0), (0, .long v0), (2, .long v2), (4, .int v4)]) hx hb dX9_lowest_11 hl (by decide) rfl (fun ls hl => ?_)
    refine lv_lload_n (pc := 13) hx hb dX9_lowest_13 rfl (lv_at hl 2 rfl) ?_
    refine lv_lstore (pc := 14) (lv' := [(7, .long v2), (5, .long v0), (0, .long v0), (2, .long v2), (4, .int v4)]) hx hb dX9_lowest_14 hl (by decide) rfl (fun ls hl => ?_)
    exact w_X9_lowest_b16 C hK v0 v2 v4 FU v0 v2 hW hS (lv_sub hl [2, 3, 4, 1, 0] rfl) h
  · replace h := o_pos hc0 h
    refine lv_iload (pc := 6) hx hb dX9_lowest_6 (lv_at hl 2 rfl) ?_
    refine lv_i2l (pc := 8) (v := (v4.toInt64)) hx hb dX9_lowest_8 rfl ?_
    exact g_lret (pc := 9) C hW hS dX9_lowest_9 (congrArg (fun q => some (Value.long q)) (Option.some.inj h).symm) rfl

theorem w_X9_odds_b80 (C : CX cX9_odds 8 RX9 (some .long) D ac p m c s args meth (z, aK, aV) (Ar (z + 80))) (hK : 7 ≤ K) {r : Int64} {σf : Mem}   (σ : Mem) (v1 : Int32) (v2 : Int32) (v3 : Int32) (v4 : Int32) (v7 : Int32) (k0 : Int64) (k1 : Int64) (s51 : Mem → Int64 → Int32 → Option (Int64 × Mem)) (hs51 : ∀ (σ : Mem) (v5 : Int64) (v7 : Int32) {H : Heap} {locs : List Loc} {ls : Array Slot} (_ : WR D ac (z + 80) σ H) (_ : va_S (Ar (z + 80)) s.heap H locs) (_ : lv_has ls 8 [(0, .ref (z + 80 + 0)), (1, .int v1), (2, .int v2), (3, .int v3), (4, .int v4), (5, .long v5), (7, .int v7)]) (_ : s51 σ v5 v7 = some (r, σf)), W p l e (rma K 0 0) s m args below meth c H locs 0 0 (MQ below (QV D (Er ac (z + 80)) inR (z + 80) (some (.long r)) σf (Ar (z + 80))) args s 0 0 (Ar (z + 80))) (F0 m 51 ls [])) {H : Heap} {locs : List Loc} {ls : Array Slot} (hW : WR D ac (z + 80) σ H) (hS : va_S (Ar (z + 80)) s.heap H locs) (hl : lv_has ls 8 [(0, .ref (z + 80 + 0)), (1, .int v1), (2, .int v2), (3, .int v3), (4, .int v4), (7, .int v7)]) (h : f_X9_odds_b80 s51 σ v1 v2 v3 v4 v7 k0 k1 = some (r, σf)) : W p l e (rma K 0 0) s m args below meth c H locs 0 0 (MQ below (QV D (Er ac (z + 80)) inR (z + 80) (some (.long r)) σf (Ar (z + 80))) args s 0 0 (Ar (z + 80))) (F0 m 80 ls [.long k1, .long k0]) := by
  have hx := C.1.1
  have hb := C.1.2.1
  unfold f_X9_odds_b80 at h
  refine lv_ladd (pc := 80) hx hb dX9_odds_80 ?_
  refine lv_lstore (pc := 81) (lv' := [(5, .long (k0 + k1)), (0, .ref (z + 80 + 0)), (1, .int v1), (2, .int v2), (3, .int v3), (4, .int v4), (7, .int v7)]) hx hb dX9_odds_81 hl (by decide) rfl (fun ls hl => ?_)
  refine lv_iinc (pc := 83) (v := (v7 + 1)) (lv' := [(7, .int (v7 + 1)), (5, .long (k0 + k1)), (0, .ref (z + 80 + 0)), (1, .int v1), (2, .int v2), (3, .int v3), (4, .int v4)]) hx hb dX9_odds_83 hl (k := 6) rfl rfl (by decide) rfl (fun ls hl => ?_)
  refine lv_goto (pc := 86) (tgt := 51) hx hb dX9_odds_86 (by decide) ?_
  exact hs51 σ (k0 + k1) (v7 + 1) hW hS (lv_sub hl [2, 3, 4, 5, 6, 1, 0] rfl) h

theorem w_X9_odds_b51 (C : CX cX9_odds 8 RX9 (some .long) D ac p m c s args meth (z, aK, aV) (Ar (z + 80))) (hK : 7 ≤ K) {r : Int64} {σf : Mem}   (v1 : Int32) (v2 : Int32) (v3 : Int32) (v4 : Int32)  : ∀ (n : Nat) (σ : Mem) (v5 : Int64) (v7 : Int32) {H : Heap} {locs : List Loc} {ls : Array Slot} (hW : WR D ac (z + 80) σ H) (hS : va_S (Ar (z + 80)) s.heap H locs) (hl : lv_has ls 8 [(0, .ref (z + 80 + 0)), (1, .int v1), (2, .int v2), (3, .int v3), (4, .int v4), (5, .long v5), (7, .int v7)]) (h : f_X9_odds_b51 v1 v2 v3 v4 n σ v5 v7 = some (r, σf)), W p l e (rma K 0 0) s m args below meth c H locs 0 0 (MQ below (QV D (Er ac (z + 80)) inR (z + 80) (some (.long r)) σf (Ar (z + 80))) args s 0 0 (Ar (z + 80))) (F0 m 51 ls []) := by
  have hx := C.1.1
  have hb := C.1.2.1
  intro n
  induction n with
  | zero =>
    intro σ v5 v7 H locs ls  hW hS hl h
    cases h
  | succ n ih =>
    intro σ v5 v7 H locs ls  hW hS hl h
    rw [f_X9_odds_b51.eq_2] at h
    refine lv_iload (pc := 51) hx hb dX9_odds_51 (lv_at hl 6 rfl) ?_
    refine lv_iload_n (pc := 53) hx hb dX9_odds_53 rfl (lv_at hl 2 rfl) ?_
    refine lv_icmp_ge (pc := 54) (tgt := 89) hx hb dX9_odds_54 (by decide) (fun hc4 => ?_) (fun hc4 => ?_)
    · replace h := o_pos hc4 h
      refine lv_lload (pc := 89) hx hb dX9_odds_89 (lv_at hl 5 rfl) ?_
      refine lv_iload_n (pc := 91) hx hb dX9_odds_91 rfl (lv_at hl 2 rfl) ?_
      refine lv_i2l (pc := 92) (v := (v2.toInt64)) hx hb dX9_odds_92 rfl ?_
      refine lv_iload (pc := 93) hx hb dX9_odds_93 (lv_at hl 4 rfl) ?_
      obtain ⟨r7, hc5, h⟩ := o_b h
      refine g_stat (pc := 95) (st2 := [.long r7]) (rest := []) C hW hS (c_X9_lowest (K := K - 1) (by omega) hc5) mw_X9_311 (hRoom (by omega) (by decide)) rfl rfl rfl (Nat.le_of_ble_eq_true rfl) hl.1 dX9_odds_95 (fun H locs hW hS => ?_)
      exact g_lret (pc := 98) C hW hS dX9_odds_98 (congrArg (fun q => some (Value.long q)) (o_r h).1) (o_r h).2
    · replace h := o_neg hc4 h
      refine lv_aload_n (pc := 57) hx hb dX9_odds_57 rfl (lv_at hl 0 rfl) ?_
      refine lv_iload_n (pc := 58) hx hb dX9_odds_58 rfl (lv_at hl 1 rfl) ?_
      refine lv_iload (pc := 59) hx hb dX9_odds_59 (lv_at hl 6 rfl) ?_
      refine lv_iadd (pc := 61) hx hb dX9_odds_61 ?_
      refine lv_iload_n (pc := 62) hx hb dX9_odds_62 rfl (lv_at hl 3 rfl) ?_
      obtain ⟨σ9, hc7, h⟩ := o_b h
      refine g_virt (pc := 63) (st2 := []) (rest := []) C hW hS (c_X9_goesByLots (K := K - 1) (by omega) hc7) mw_X9_308 inR0 Er_0 rfl (hRoom (by omega) (by decide)) rfl rfl rfl (Nat.le_of_ble_eq_true rfl) hl.1 dX9_odds_63 (fun H locs hW hS => ?_)
      refine lv_lload (pc := 66) hx hb dX9_odds_66 (lv_at hl 5 rfl) ?_
      refine lv_aload_n (pc := 68) hx hb dX9_odds_68 rfl (lv_at hl 0 rfl) ?_
      refine gf_X9_34 (pc := 69) C hW fl_X9_194 dX9_odds_69 ?_
      refine lv_if_ne (pc := 72) (tgt := 79) hx hb dX9_odds_72 (by decide) (fun hc9 => ?_) (fun hc9 => ?_)
      · replace h := o_neg hc9 h
        refine lv_lconst (pc := 79) (v := 0) hx hb dX9_odds_79 (by decide) ?_
        exact w_X9_odds_b80 C hK σ9 v1 v2 v3 v4 v7 v5 (0 : Int64) (f_X9_odds_b51 v1 v2 v3 v4 n) (fun σ v5 v7 {H : Heap} {locs : List Loc} {ls : Array Slot}  hW hS hl h => ih σ v5 v7 hW hS hl h) hW hS (lv_sub hl [0, 1, 2, 3, 4, 6] rfl) h
      · replace h := o_pos hc9 h
        refine lv_lconst (pc := 75) (v := 1) hx hb dX9_odds_75 (by decide) ?_
        refine lv_goto (pc := 76) (tgt := 80) hx hb dX9_odds_76 (by decide) ?_
        exact w_X9_odds_b80 C hK σ9 v1 v2 v3 v4 v7 v5 (1 : Int64) (f_X9_odds_b51 v1 v2 v3 v4 n) (fun σ v5 v7 {H : Heap} {locs : List Loc} {ls : Array Slot}  hW hS hl h => ih σ v5 v7 hW hS hl h) hW hS (lv_sub hl [0, 1, 2, 3, 4, 6] rfl) h

theorem c_X9_odds {K : Nat}  (hK : 7 ≤ K) {σ : Mem} {σf : Mem} {v1 : Int32} {v2 : Int32} {v3 : Int32} {v4 : Int32} {r : Int64} (h : f_X9_odds σ v1 v2 v3 v4 = some (r, σf)) : MC l D (Er ac (z + 80)) inR (z + 80) ac (z, aK, aV) (Ar (z + 80)) yX9_odds cX9_odds 8 (some .long) K [.ref (z + 80 + 0), .int v1, .int v2, .int v3, .int v4] σ (some (.long r)) σf := by
  refine MC.of (fun q hq => by have := hq.1; show z ≤ q; omega) (plainFor_of_name (by decide)) (Nat.le_of_ble_eq_true rfl) ?_
  intro p e s m below meth c args C hW ls hl
  replace hl : lv_has ls 8 [(0, .ref (z + 80 + 0)), (1, .int v1), (2, .int v2), (3, .int v3), (4, .int v4)] := hl
  have hS : va_S (Ar (z + 80)) s.heap s.heap [] := va_S.rf
  have hx := C.1.1
  have hb := C.1.2.1
  unfold f_X9_odds at h
  refine lv_iload_n (pc := 0) hx hb dX9_odds_0 rfl (lv_at hl 1 rfl) ?_
  refine lv_iconst (pc := 1) (v := 0) hx hb dX9_odds_1 (by decide) ?_
  refine lv_ldcw (pc := 2) hx hb C.1.2.2.2.1 (C.1.2.2.2.2 _ cn_X9_307) dX9_odds_2 ?_
  refine g_stat (pc := 5) (st2 := [.int (f_X9_in v1 (0 : Int32) (99999 : Int32))]) (rest := []) C hW hS (c_X9_in (K := K - 1) (by omega) rfl) mw_X9_84 (hRoom (by omega) (by decide)) rfl rfl rfl (Nat.le_of_ble_eq_true rfl) hl.1 dX9_odds_5 (fun H locs hW hS => ?_)
  refine lv_if_eq (pc := 8) (tgt := 41) hx hb dX9_odds_8 (by decide) (fun hc0 => ?_) (fun hc0 => ?_)
  · replace h := o_pos hc0 h
    refine lv_ldc2 (pc := 41) hx hb C.1.2.2.2.1 (C.1.2.2.2.2 _ cn_X9_299) dX9_odds_41 ?_
    exact g_lret (pc := 44) C hW hS dX9_odds_44 (congrArg (fun q => some (Value.long q)) (o_r h).1) (o_r h).2
  · replace h := o_neg hc0 h
    refine lv_iload_n (pc := 11) hx hb dX9_odds_11 rfl (lv_at hl 2 rfl) ?_
    refine lv_iconst (pc := 12) (v := 1) hx hb dX9_odds_12 (by decide) ?_
    refine lv_bipush (pc := 13) (v := 20) hx hb dX9_odds_13 (by decide) ?_
    refine g_stat (pc := 15) (st2 := [.int (f_X9_in v2 (1 : Int32) (20 : Int32))]) (rest := []) C hW hS (c_X9_in (K := K - 1) (by omega) rfl) mw_X9_84 (hRoom (by omega) (by decide)) rfl rfl rfl (Nat.le_of_ble_eq_true rfl) hl.1 dX9_odds_15 (fun H locs hW hS => ?_)
    refine lv_if_eq (pc := 18) (tgt := 41) hx hb dX9_odds_18 (by decide) (fun hc1 => ?_) (fun hc1 => ?_)
    · replace h := o_pos hc1 h
      refine lv_ldc2 (pc := 41) hx hb C.1.2.2.2.1 (C.1.2.2.2.2 _ cn_X9_299) dX9_odds_41 ?_
      exact g_lret (pc := 44) C hW hS dX9_odds_44 (congrArg (fun q => some (Value.long q)) (o_r h).1) (o_r h).2
    · replace h := o_neg hc1 h
      refine lv_iload_n (pc := 21) hx hb dX9_odds_21 rfl (lv_at hl 3 rfl) ?_
      refine lv_iconst (pc := 22) (v := 0) hx hb dX9_odds_22 (by decide) ?_
      refine lv_bipush (pc := 23) (v := 60) hx hb dX9_odds_23 (by decide) ?_
      refine g_stat (pc := 25) (st2 := [.int (f_X9_in v3 (0 : Int32) (60 : Int32))]) (rest := []) C hW hS (c_X9_in (K := K - 1) (by omega) rfl) mw_X9_84 (hRoom (by omega) (by decide)) rfl rfl rfl (Nat.le_of_ble_eq_true rfl) hl.1 dX9_odds_25 (fun H locs hW hS => ?_)
      refine lv_if_eq (pc := 28) (tgt := 41) hx hb dX9_odds_28 (by decide) (fun hc2 => ?_) (fun hc2 => ?_)
      · replace h := o_pos hc2 h
        refine lv_ldc2 (pc := 41) hx hb C.1.2.2.2.1 (C.1.2.2.2.2 _ cn_X9_299) dX9_odds_41 ?_
        exact g_lret (pc := 44) C hW hS dX9_odds_44 (congrArg (fun q => some (Value.long q)) (o_r h).1) (o_r h).2
      · replace h := o_neg hc2 h
        refine lv_iload (pc := 31) hx hb dX9_odds_31 (lv_at hl 4 rfl) ?_
        refine lv_iconst (pc := 33) (v := 0) hx hb dX9_odds_33 (by decide) ?_
        refine lv_iconst (pc := 34) (v := 1) hx hb dX9_odds_34 (by decide) ?_
        refine g_stat (pc := 35) (st2 := [.int (f_X9_in v4 (0 : Int32) (1 : Int32))]) (rest := []) C hW hS (c_X9_in (K := K - 1) (by omega) rfl) mw_X9_84 (hRoom (by omega) (by decide)) rfl rfl rfl (Nat.le_of_ble_eq_true rfl) hl.1 dX9_odds_35 (fun H locs hW hS => ?_)
        refine lv_if_ne (pc := 38) (tgt := 45) hx hb dX9_odds_38 (by decide) (fun hc3 => ?_) (fun hc3 => ?_)
        · replace h := o_neg hc3 h
          refine lv_lconst (pc := 45) (v := 0) hx hb dX9_odds_45 (by decide) ?_
          refine lv_lstore (pc := 46) (lv' := [(5, .long (0 : Int64)), (0, .ref (z + 80 + 0)), (1, .int v1), (2, .int v2), (3, .int v3), (4, .int v4)]) hx hb dX9_odds_46 hl (by decide) rfl (fun ls hl => ?_)
          refine lv_iconst (pc := 48) (v := 0) hx hb dX9_odds_48 (by decide) ?_
          refine lv_istore (pc := 49) (lv' := [(7, .int (0 : Int32)), (5, .long (0 : Int64)), (0, .ref (z + 80 + 0)), (1, .int v1), (2, .int v2), (3, .int v3), (4, .int v4)]) hx hb dX9_odds_49 hl (by decide) rfl (fun ls hl => ?_)
          exact w_X9_odds_b51 C hK v1 v2 v3 v4 FU σ (0 : Int64) (0 : Int32) hW hS (lv_sub hl [2, 3, 4, 5, 6, 1, 0] rfl) h
        · replace h := o_pos hc3 h
          refine lv_ldc2 (pc := 41) hx hb C.1.2.2.2.1 (C.1.2.2.2.2 _ cn_X9_299) dX9_odds_41 ?_
          exact g_lret (pc := 44) C hW hS dX9_odds_44 (congrArg (fun q => some (Value.long q)) (o_r h).1) (o_r h).2

theorem w_X9_image_b65 (C : CX cX9_image 2 RX9 (some .int) D ac p m c s args meth (z, aK, aV) (Ar (z + 80))) (hK : 0 ≤ K) {r : Int32} {σf : Mem}    : ∀ (n : Nat) (σ : Mem) (v1 : Int32) {H : Heap} {locs : List Loc} {ls : Array Slot} (hW : WR D ac (z + 80) σ H) (hS : va_S (Ar (z + 80)) s.heap H locs) (hl : lv_has ls 2 [(0, .ref (z + 80 + 0)), (1, .int v1)]) (h : f_X9_image_b65 n σ v1 = some (r, σf)), W p l e (rma K 0 0) s m args below meth c H locs 0 0 (MQ below (QV D (Er ac (z + 80)) inR (z + 80) (some (.int r)) σf (Ar (z + 80))) args s 0 0 (Ar (z + 80))) (F0 m 65 ls []) := by
  have hx := C.1.1
  have hb := C.1.2.1
  intro n
  induction n with
  | zero =>
    intro σ v1 H locs ls  hW hS hl h
    cases h
  | succ n ih =>
    intro σ v1 H locs ls  hW hS hl h
    rw [f_X9_image_b65.eq_2] at h
    refine lv_iload_n (pc := 65) hx hb dX9_image_65 rfl (lv_at hl 1 rfl) ?_
    refine lv_bipush (pc := 66) (v := 48) hx hb dX9_image_66 (by decide) ?_
    refine lv_icmp_ge (pc := 68) (tgt := 92) hx hb dX9_image_68 (by decide) (fun hc6 => ?_) (fun hc6 => ?_)
    · replace h := o_pos hc6 h
      refine lv_aload_n (pc := 92) hx hb dX9_image_92 rfl (lv_at hl 0 rfl) ?_
      refine gf_X9_0 (pc := 93) C hW fl_X9_81 dX9_image_93 ?_
      exact g_ret (pc := 96) C hW hS rfl dX9_image_96 (congrArg (fun q => some (Value.int q)) (o_r h).1) (o_r h).2
    · replace h := o_neg hc6 h
      refine lv_aload_n (pc := 71) hx hb dX9_image_71 rfl (lv_at hl 0 rfl) ?_
      refine gf_X9_18 (pc := 72) C hW fl_X9_31 dX9_image_72 ?_
      refine lv_bipush (pc := 75) (v := 24) hx hb dX9_image_75 (by decide) ?_
      refine lv_iload_n (pc := 77) hx hb dX9_image_77 rfl (lv_at hl 1 rfl) ?_
      refine lv_iadd (pc := 78) hx hb dX9_image_78 ?_
      refine lv_aload_n (pc := 79) hx hb dX9_image_79 rfl (lv_at hl 0 rfl) ?_
      refine gf_X9_5 (pc := 80) C hW fl_X9_19 dX9_image_80 ?_
      refine lv_iload_n (pc := 83) hx hb dX9_image_83 rfl (lv_at hl 1 rfl) ?_
      obtain ⟨hc7, h⟩ := o_chk h
      refine ir_ld (pc := 84) (k := 4) C hW (by decide) (by decide) rfl rfl (inb_in hc7) dX9_image_84 ?_
      obtain ⟨hc8, h⟩ := o_chk h
      refine ir_st (pc := 85) (k := 8) C hW hS (by decide) (by decide) rfl rfl (inb_in hc8) dX9_image_85 (fun H locs hW hS => ?_)
      obtain ⟨σ10, hσ10, h⟩ := o_d h
      replace hW : WR D ac (z + 80) σ10 H := by rw [← hσ10]; exact hW
      refine lv_iinc (pc := 86) (v := (v1 + 1)) (lv' := [(1, .int (v1 + 1)), (0, .ref (z + 80 + 0))]) hx hb dX9_image_86 hl (k := 1) rfl rfl (by decide) rfl (fun ls hl => ?_)
      refine lv_goto (pc := 89) (tgt := 65) hx hb dX9_image_89 (by decide) ?_
      exact ih σ10 (v1 + 1) hW hS (lv_sub hl [1, 0] rfl) h

theorem w_X9_image_b39 (C : CX cX9_image 2 RX9 (some .int) D ac p m c s args meth (z, aK, aV) (Ar (z + 80))) (hK : 0 ≤ K) {r : Int32} {σf : Mem}    : ∀ (n : Nat) (σ : Mem) (v1 : Int32) {H : Heap} {locs : List Loc} {ls : Array Slot} (hW : WR D ac (z + 80) σ H) (hS : va_S (Ar (z + 80)) s.heap H locs) (hl : lv_has ls 2 [(0, .ref (z + 80 + 0)), (1, .int v1)]) (h : f_X9_image_b39 n σ v1 = some (r, σf)), W p l e (rma K 0 0) s m args below meth c H locs 0 0 (MQ below (QV D (Er ac (z + 80)) inR (z + 80) (some (.int r)) σf (Ar (z + 80))) args s 0 0 (Ar (z + 80))) (F0 m 39 ls []) := by
  have hx := C.1.1
  have hb := C.1.2.1
  intro n
  induction n with
  | zero =>
    intro σ v1 H locs ls  hW hS hl h
    cases h
  | succ n ih =>
    intro σ v1 H locs ls  hW hS hl h
    rw [f_X9_image_b39.eq_2] at h
    refine lv_iload_n (pc := 39) hx hb dX9_image_39 rfl (lv_at hl 1 rfl) ?_
    refine lv_bipush (pc := 40) (v := 24) hx hb dX9_image_40 (by decide) ?_
    refine lv_icmp_ge (pc := 42) (tgt := 63) hx hb dX9_image_42 (by decide) (fun hc2 => ?_) (fun hc2 => ?_)
    · replace h := o_pos hc2 h
      refine lv_iconst (pc := 63) (v := 0) hx hb dX9_image_63 (by decide) ?_
      refine lv_istore_n (pc := 64) (lv' := [(1, .int (0 : Int32)), (0, .ref (z + 80 + 0))]) hx hb dX9_image_64 rfl hl (by decide) rfl (fun ls hl => ?_)
      exact w_X9_image_b65 C hK FU σ (0 : Int32) hW hS (lv_sub hl [1, 0] rfl) h
    · replace h := o_neg hc2 h
      refine lv_aload_n (pc := 45) hx hb dX9_image_45 rfl (lv_at hl 0 rfl) ?_
      refine gf_X9_18 (pc := 46) C hW fl_X9_31 dX9_image_46 ?_
      refine lv_iload_n (pc := 49) hx hb dX9_image_49 rfl (lv_at hl 1 rfl) ?_
      refine lv_aload_n (pc := 50) hx hb dX9_image_50 rfl (lv_at hl 0 rfl) ?_
      refine gf_X9_3 (pc := 51) C hW fl_X9_16 dX9_image_51 ?_
      refine lv_iload_n (pc := 54) hx hb dX9_image_54 rfl (lv_at hl 1 rfl) ?_
      obtain ⟨hc3, h⟩ := o_chk h
      refine ir_ld (pc := 55) (k := 3) C hW (by decide) (by decide) rfl rfl (inb_in hc3) dX9_image_55 ?_
      obtain ⟨hc4, h⟩ := o_chk h
      refine ir_st (pc := 56) (k := 8) C hW hS (by decide) (by decide) rfl rfl (inb_in hc4) dX9_image_56 (fun H locs hW hS => ?_)
      obtain ⟨σ6, hσ6, h⟩ := o_d h
      replace hW : WR D ac (z + 80) σ6 H := by rw [← hσ6]; exact hW
      refine lv_iinc (pc := 57) (v := (v1 + 1)) (lv' := [(1, .int (v1 + 1)), (0, .ref (z + 80 + 0))]) hx hb dX9_image_57 hl (k := 1) rfl rfl (by decide) rfl (fun ls hl => ?_)
      refine lv_goto (pc := 60) (tgt := 39) hx hb dX9_image_60 (by decide) ?_
      exact ih σ6 (v1 + 1) hW hS (lv_sub hl [1, 0] rfl) h

theorem c_X9_image {K : Nat}  (hK : 0 ≤ K) {σ : Mem} {σf : Mem} {r : Int32} (h : f_X9_image σ = some (r, σf)) : MC l D (Er ac (z + 80)) inR (z + 80) ac (z, aK, aV) (Ar (z + 80)) yX9_image cX9_image 2 (some .int) K [.ref (z + 80 + 0)] σ (some (.int r)) σf := by
  refine MC.of (fun q hq => by have := hq.1; show z ≤ q; omega) (plainFor_of_name (by decide)) (Nat.le_of_ble_eq_true rfl) ?_
  intro p e s m below meth c args C hW ls hl
  replace hl : lv_has ls 2 [(0, .ref (z + 80 + 0))] := hl
  have hS : va_S (Ar (z + 80)) s.heap s.heap [] := va_S.rf
  have hx := C.1.1
  have hb := C.1.2.1
  unfold f_X9_image at h
  refine lv_aload_n (pc := 0) hx hb dX9_image_0 rfl (lv_at hl 0 rfl) ?_
  refine lv_iconst (pc := 1) (v := 1) hx hb dX9_image_1 (by decide) ?_
  refine pf_X9_13 (pc := 2) C hW hS fl_X9_315 dX9_image_2 (by decide) (fun H locs hW hS => ?_)
  refine lv_aload_n (pc := 5) hx hb dX9_image_5 rfl (lv_at hl 0 rfl) ?_
  refine lv_aload_n (pc := 6) hx hb dX9_image_6 rfl (lv_at hl 0 rfl) ?_
  refine gf_X9_0 (pc := 7) C hW fl_X9_81 dX9_image_7 ?_
  refine pf_X9_14 (pc := 10) C hW hS fl_X9_319 dX9_image_10 (fun H locs hW hS => ?_)
  obtain ⟨σ1, hσ1, h⟩ := o_d h
  replace hW : WR D ac (z + 80) σ1 H := by rw [← hσ1]; exact hW
  refine lv_aload_n (pc := 13) hx hb dX9_image_13 rfl (lv_at hl 0 rfl) ?_
  refine lv_aload_n (pc := 14) hx hb dX9_image_14 rfl (lv_at hl 0 rfl) ?_
  refine gf_X9_4 (pc := 15) C hW fl_X9_88 dX9_image_15 ?_
  refine pf_X9_15 (pc := 18) C hW hS fl_X9_322 dX9_image_18 (fun H locs hW hS => ?_)
  refine lv_aload_n (pc := 21) hx hb dX9_image_21 rfl (lv_at hl 0 rfl) ?_
  refine lv_aload_n (pc := 22) hx hb dX9_image_22 rfl (lv_at hl 0 rfl) ?_
  refine gf_X9_6 (pc := 23) C hW fl_X9_91 dX9_image_23 ?_
  refine pf_X9_16 (pc := 26) C hW hS fl_X9_325 dX9_image_26 (fun H locs hW hS => ?_)
  obtain ⟨σ2, hσ2, h⟩ := o_d h
  replace hW : WR D ac (z + 80) σ2 H := by rw [← hσ2]; exact hW
  refine lv_aload_n (pc := 29) hx hb dX9_image_29 rfl (lv_at hl 0 rfl) ?_
  refine lv_aload_n (pc := 30) hx hb dX9_image_30 rfl (lv_at hl 0 rfl) ?_
  refine gf_X9_12 (pc := 31) C hW fl_X9_97 dX9_image_31 ?_
  refine pf_X9_17 (pc := 34) C hW hS fl_X9_328 dX9_image_34 (fun H locs hW hS => ?_)
  refine lv_iconst (pc := 37) (v := 0) hx hb dX9_image_37 (by decide) ?_
  refine lv_istore_n (pc := 38) (lv' := [(1, .int (0 : Int32)), (0, .ref (z + 80 + 0))]) hx hb dX9_image_38 rfl hl (by decide) rfl (fun ls hl => ?_)
  exact w_X9_image_b39 C hK FU (ms σ2 0 17 (σ2 0 12)) (0 : Int32) hW hS (lv_sub hl [1, 0] rfl) h

theorem w_X9_back_b70 (C : CX cX9_back 2 RX9 (some .int) D ac p m c s args meth (z, aK, aV) (Ar (z + 80))) (hK : 0 ≤ K) {r : Int32} {σf : Mem}    : ∀ (n : Nat) (σ : Mem) (v1 : Int32) {H : Heap} {locs : List Loc} {ls : Array Slot} (hW : WR D ac (z + 80) σ H) (hS : va_S (Ar (z + 80)) s.heap H locs) (hl : lv_has ls 2 [(0, .ref (z + 80 + 0)), (1, .int v1)]) (h : f_X9_back_b70 n σ v1 = some (r, σf)), W p l e (rma K 0 0) s m args below meth c H locs 0 0 (MQ below (QV D (Er ac (z + 80)) inR (z + 80) (some (.int r)) σf (Ar (z + 80))) args s 0 0 (Ar (z + 80))) (F0 m 70 ls []) := by
  have hx := C.1.1
  have hb := C.1.2.1
  intro n
  induction n with
  | zero =>
    intro σ v1 H locs ls  hW hS hl h
    cases h
  | succ n ih =>
    intro σ v1 H locs ls  hW hS hl h
    rw [f_X9_back_b70.eq_2] at h
    refine lv_iload_n (pc := 70) hx hb dX9_back_70 rfl (lv_at hl 1 rfl) ?_
    refine lv_bipush (pc := 71) (v := 48) hx hb dX9_back_71 (by decide) ?_
    refine lv_icmp_ge (pc := 73) (tgt := 97) hx hb dX9_back_73 (by decide) (fun hc7 => ?_) (fun hc7 => ?_)
    · replace h := o_pos hc7 h
      refine lv_aload_n (pc := 97) hx hb dX9_back_97 rfl (lv_at hl 0 rfl) ?_
      refine gf_X9_0 (pc := 98) C hW fl_X9_81 dX9_back_98 ?_
      exact g_ret (pc := 101) C hW hS rfl dX9_back_101 (congrArg (fun q => some (Value.int q)) (o_r h).1) (o_r h).2
    · replace h := o_neg hc7 h
      refine lv_aload_n (pc := 76) hx hb dX9_back_76 rfl (lv_at hl 0 rfl) ?_
      refine gf_X9_5 (pc := 77) C hW fl_X9_19 dX9_back_77 ?_
      refine lv_iload_n (pc := 80) hx hb dX9_back_80 rfl (lv_at hl 1 rfl) ?_
      refine lv_aload_n (pc := 81) hx hb dX9_back_81 rfl (lv_at hl 0 rfl) ?_
      refine gf_X9_18 (pc := 82) C hW fl_X9_31 dX9_back_82 ?_
      refine lv_bipush (pc := 85) (v := 24) hx hb dX9_back_85 (by decide) ?_
      refine lv_iload_n (pc := 87) hx hb dX9_back_87 rfl (lv_at hl 1 rfl) ?_
      refine lv_iadd (pc := 88) hx hb dX9_back_88 ?_
      obtain ⟨hc8, h⟩ := o_chk h
      refine ir_ld (pc := 89) (k := 8) C hW (by decide) (by decide) rfl rfl (inb_in hc8) dX9_back_89 ?_
      obtain ⟨hc9, h⟩ := o_chk h
      refine ir_st (pc := 90) (k := 4) C hW hS (by decide) (by decide) rfl rfl (inb_in hc9) dX9_back_90 (fun H locs hW hS => ?_)
      obtain ⟨σ11, hσ11, h⟩ := o_d h
      replace hW : WR D ac (z + 80) σ11 H := by rw [← hσ11]; exact hW
      refine lv_iinc (pc := 91) (v := (v1 + 1)) (lv' := [(1, .int (v1 + 1)), (0, .ref (z + 80 + 0))]) hx hb dX9_back_91 hl (k := 1) rfl rfl (by decide) rfl (fun ls hl => ?_)
      refine lv_goto (pc := 94) (tgt := 70) hx hb dX9_back_94 (by decide) ?_
      exact ih σ11 (v1 + 1) hW hS (lv_sub hl [1, 0] rfl) h

theorem w_X9_back_b44 (C : CX cX9_back 2 RX9 (some .int) D ac p m c s args meth (z, aK, aV) (Ar (z + 80))) (hK : 0 ≤ K) {r : Int32} {σf : Mem}    : ∀ (n : Nat) (σ : Mem) (v1 : Int32) {H : Heap} {locs : List Loc} {ls : Array Slot} (hW : WR D ac (z + 80) σ H) (hS : va_S (Ar (z + 80)) s.heap H locs) (hl : lv_has ls 2 [(0, .ref (z + 80 + 0)), (1, .int v1)]) (h : f_X9_back_b44 n σ v1 = some (r, σf)), W p l e (rma K 0 0) s m args below meth c H locs 0 0 (MQ below (QV D (Er ac (z + 80)) inR (z + 80) (some (.int r)) σf (Ar (z + 80))) args s 0 0 (Ar (z + 80))) (F0 m 44 ls []) := by
  have hx := C.1.1
  have hb := C.1.2.1
  intro n
  induction n with
  | zero =>
    intro σ v1 H locs ls  hW hS hl h
    cases h
  | succ n ih =>
    intro σ v1 H locs ls  hW hS hl h
    rw [f_X9_back_b44.eq_2] at h
    refine lv_iload_n (pc := 44) hx hb dX9_back_44 rfl (lv_at hl 1 rfl) ?_
    refine lv_bipush (pc := 45) (v := 24) hx hb dX9_back_45 (by decide) ?_
    refine lv_icmp_ge (pc := 47) (tgt := 68) hx hb dX9_back_47 (by decide) (fun hc3 => ?_) (fun hc3 => ?_)
    · replace h := o_pos hc3 h
      refine lv_iconst (pc := 68) (v := 0) hx hb dX9_back_68 (by decide) ?_
      refine lv_istore_n (pc := 69) (lv' := [(1, .int (0 : Int32)), (0, .ref (z + 80 + 0))]) hx hb dX9_back_69 rfl hl (by decide) rfl (fun ls hl => ?_)
      exact w_X9_back_b70 C hK FU σ (0 : Int32) hW hS (lv_sub hl [1, 0] rfl) h
    · replace h := o_neg hc3 h
      refine lv_aload_n (pc := 50) hx hb dX9_back_50 rfl (lv_at hl 0 rfl) ?_
      refine gf_X9_3 (pc := 51) C hW fl_X9_16 dX9_back_51 ?_
      refine lv_iload_n (pc := 54) hx hb dX9_back_54 rfl (lv_at hl 1 rfl) ?_
      refine lv_aload_n (pc := 55) hx hb dX9_back_55 rfl (lv_at hl 0 rfl) ?_
      refine gf_X9_18 (pc := 56) C hW fl_X9_31 dX9_back_56 ?_
      refine lv_iload_n (pc := 59) hx hb dX9_back_59 rfl (lv_at hl 1 rfl) ?_
      obtain ⟨hc4, h⟩ := o_chk h
      refine ir_ld (pc := 60) (k := 8) C hW (by decide) (by decide) rfl rfl (inb_in hc4) dX9_back_60 ?_
      obtain ⟨hc5, h⟩ := o_chk h
      refine ir_st (pc := 61) (k := 3) C hW hS (by decide) (by decide) rfl rfl (inb_in hc5) dX9_back_61 (fun H locs hW hS => ?_)
      obtain ⟨σ7, hσ7, h⟩ := o_d h
      replace hW : WR D ac (z + 80) σ7 H := by rw [← hσ7]; exact hW
      refine lv_iinc (pc := 62) (v := (v1 + 1)) (lv' := [(1, .int (v1 + 1)), (0, .ref (z + 80 + 0))]) hx hb dX9_back_62 hl (k := 1) rfl rfl (by decide) rfl (fun ls hl => ?_)
      refine lv_goto (pc := 65) (tgt := 44) hx hb dX9_back_65 (by decide) ?_
      exact ih σ7 (v1 + 1) hW hS (lv_sub hl [1, 0] rfl) h

theorem c_X9_back {K : Nat}  (hK : 0 ≤ K) {σ : Mem} {σf : Mem} {r : Int32} (h : f_X9_back σ = some (r, σf)) : MC l D (Er ac (z + 80)) inR (z + 80) ac (z, aK, aV) (Ar (z + 80)) yX9_back cX9_back 2 (some .int) K [.ref (z + 80 + 0)] σ (some (.int r)) σf := by
  refine MC.of (fun q hq => by have := hq.1; show z ≤ q; omega) (plainFor_of_name (by decide)) (Nat.le_of_ble_eq_true rfl) ?_
  intro p e s m below meth c args C hW ls hl
  replace hl : lv_has ls 2 [(0, .ref (z + 80 + 0))] := hl
  have hS : va_S (Ar (z + 80)) s.heap s.heap [] := va_S.rf
  have hx := C.1.1
  have hb := C.1.2.1
  unfold f_X9_back at h
  refine lv_aload_n (pc := 0) hx hb dX9_back_0 rfl (lv_at hl 0 rfl) ?_
  refine gf_X9_13 (pc := 1) C hW fl_X9_315 dX9_back_1 ?_
  refine lv_if_ne (pc := 4) (tgt := 10) hx hb dX9_back_4 (by decide) (fun hc0 => ?_) (fun hc0 => ?_)
  · replace h := o_neg hc0 h
    refine lv_aload_n (pc := 10) hx hb dX9_back_10 rfl (lv_at hl 0 rfl) ?_
    refine lv_aload_n (pc := 11) hx hb dX9_back_11 rfl (lv_at hl 0 rfl) ?_
    refine gf_X9_14 (pc := 12) C hW fl_X9_319 dX9_back_12 ?_
    refine pf_X9_0 (pc := 15) C hW hS fl_X9_81 dX9_back_15 (fun H locs hW hS => ?_)
    refine lv_aload_n (pc := 18) hx hb dX9_back_18 rfl (lv_at hl 0 rfl) ?_
    refine lv_aload_n (pc := 19) hx hb dX9_back_19 rfl (lv_at hl 0 rfl) ?_
    refine gf_X9_15 (pc := 20) C hW fl_X9_322 dX9_back_20 ?_
    refine pf_X9_4 (pc := 23) C hW hS fl_X9_88 dX9_back_23 (fun H locs hW hS => ?_)
    obtain ⟨σ2, hσ2, h⟩ := o_d h
    replace hW : WR D ac (z + 80) σ2 H := by rw [← hσ2]; exact hW
    refine lv_aload_n (pc := 26) hx hb dX9_back_26 rfl (lv_at hl 0 rfl) ?_
    refine lv_aload_n (pc := 27) hx hb dX9_back_27 rfl (lv_at hl 0 rfl) ?_
    refine gf_X9_16 (pc := 28) C hW fl_X9_325 dX9_back_28 ?_
    refine pf_X9_6 (pc := 31) C hW hS fl_X9_91 dX9_back_31 (fun H locs hW hS => ?_)
    refine lv_aload_n (pc := 34) hx hb dX9_back_34 rfl (lv_at hl 0 rfl) ?_
    refine lv_aload_n (pc := 35) hx hb dX9_back_35 rfl (lv_at hl 0 rfl) ?_
    refine gf_X9_17 (pc := 36) C hW fl_X9_328 dX9_back_36 ?_
    refine pf_X9_12 (pc := 39) C hW hS fl_X9_97 dX9_back_39 (fun H locs hW hS => ?_)
    obtain ⟨σ3, hσ3, h⟩ := o_d h
    replace hW : WR D ac (z + 80) σ3 H := by rw [← hσ3]; exact hW
    refine lv_iconst (pc := 42) (v := 0) hx hb dX9_back_42 (by decide) ?_
    refine lv_istore_n (pc := 43) (lv' := [(1, .int (0 : Int32)), (0, .ref (z + 80 + 0))]) hx hb dX9_back_43 rfl hl (by decide) rfl (fun ls hl => ?_)
    exact w_X9_back_b44 C hK FU σ3 (0 : Int32) hW hS (lv_sub hl [1, 0] rfl) h
  · replace h := o_pos hc0 h
    refine lv_bipush (pc := 7) (v := -3) hx hb dX9_back_7 (by decide) ?_
    exact g_ret (pc := 9) C hW hS rfl dX9_back_9 (congrArg (fun q => some (Value.int q)) (o_r h).1) (o_r h).2

theorem w_X9_sheet_b70 (C : CX cX9_sheet 5 RX9 (some .int) D ac p m c s args meth (z, aK, aV) (Ar (z + 80))) (hK : 1 ≤ K) {r : Int32} {σf : Mem}   (v1 : Int32)  : ∀ (n : Nat) (σ : Mem) (v4 : Int32) {H : Heap} {locs : List Loc} {ls : Array Slot} (hW : WR D ac (z + 80) σ H) (hS : va_S (Ar (z + 80)) s.heap H locs) (hl : lv_has ls 5 [(0, .ref (z + 80 + 0)), (1, .int v1), (4, .int v4)]) (h : f_X9_sheet_b70 v1 n σ v4 = some (r, σf)), W p l e (rma K 0 0) s m args below meth c H locs 0 0 (MQ below (QV D (Er ac (z + 80)) inR (z + 80) (some (.int r)) σf (Ar (z + 80))) args s 0 0 (Ar (z + 80))) (F0 m 70 ls []) := by
  have hx := C.1.1
  have hb := C.1.2.1
  intro n
  induction n with
  | zero =>
    intro σ v4 H locs ls  hW hS hl h
    cases h
  | succ n ih =>
    intro σ v4 H locs ls  hW hS hl h
    rw [f_X9_sheet_b70.eq_2] at h
    refine lv_iload (pc := 70) hx hb dX9_sheet_70 (lv_at hl 2 rfl) ?_
    refine lv_bipush (pc := 72) (v := 40) hx hb dX9_sheet_72 (by decide) ?_
    refine lv_icmp_ge (pc := 74) (tgt := 96) hx hb dX9_sheet_74 (by decide) (fun hc9 => ?_) (fun hc9 => ?_)
    · replace h := o_pos hc9 h
      refine lv_iconst (pc := 96) (v := 1) hx hb dX9_sheet_96 (by decide) ?_
      exact g_ret (pc := 97) C hW hS rfl dX9_sheet_97 (congrArg (fun q => some (Value.int q)) (o_r h).1) (o_r h).2
    · replace h := o_neg hc9 h
      refine lv_aload_n (pc := 77) hx hb dX9_sheet_77 rfl (lv_at hl 0 rfl) ?_
      refine gf_X9_21 (pc := 78) C hW fl_X9_40 dX9_sheet_78 ?_
      refine lv_bipush (pc := 81) (v := 40) hx hb dX9_sheet_81 (by decide) ?_
      refine lv_iload_n (pc := 83) hx hb dX9_sheet_83 rfl (lv_at hl 1 rfl) ?_
      refine lv_imul (pc := 84) hx hb dX9_sheet_84 ?_
      refine lv_iload (pc := 85) hx hb dX9_sheet_85 (lv_at hl 2 rfl) ?_
      refine lv_iadd (pc := 87) hx hb dX9_sheet_87 ?_
      refine lv_iconst (pc := 88) (v := 0) hx hb dX9_sheet_88 (by decide) ?_
      obtain ⟨hc10, h⟩ := o_chk h
      refine ir_st (pc := 89) (k := 11) C hW hS (by decide) (by decide) rfl rfl (inb_in hc10) dX9_sheet_89 (fun H locs hW hS => ?_)
      obtain ⟨σ12, hσ12, h⟩ := o_d h
      replace hW : WR D ac (z + 80) σ12 H := by rw [← hσ12]; exact hW
      refine lv_iinc (pc := 90) (v := (v4 + 1)) (lv' := [(4, .int (v4 + 1)), (0, .ref (z + 80 + 0)), (1, .int v1)]) hx hb dX9_sheet_90 hl (k := 2) rfl rfl (by decide) rfl (fun ls hl => ?_)
      refine lv_goto (pc := 93) (tgt := 70) hx hb dX9_sheet_93 (by decide) ?_
      exact ih σ12 (v4 + 1) hW hS (lv_sub hl [1, 2, 0] rfl) h

theorem w_X9_sheet_b66 (C : CX cX9_sheet 5 RX9 (some .int) D ac p m c s args meth (z, aK, aV) (Ar (z + 80))) (hK : 1 ≤ K) {r : Int32} {σf : Mem}   (σ : Mem) (v1 : Int32) (k1 : Int32) (k2 : Int32)  {H : Heap} {locs : List Loc} {ls : Array Slot} (hW : WR D ac (z + 80) σ H) (hS : va_S (Ar (z + 80)) s.heap H locs) (hl : lv_has ls 5 [(0, .ref (z + 80 + 0)), (1, .int v1)]) (h : f_X9_sheet_b66 σ v1 k1 k2 = some (r, σf)) : W p l e (rma K 0 0) s m args below meth c H locs 0 0 (MQ below (QV D (Er ac (z + 80)) inR (z + 80) (some (.int r)) σf (Ar (z + 80))) args s 0 0 (Ar (z + 80))) (F0 m 66 ls [.int k2, .int k1, .ref (z + 80 + 10)]) := by
  have hx := C.1.1
  have hb := C.1.2.1
  unfold f_X9_sheet_b66 at h
  obtain ⟨hc8, h⟩ := o_chk h
  refine ir_st (pc := 66) (k := 10) C hW hS (by decide) (by decide) rfl rfl (inb_in hc8) dX9_sheet_66 (fun H locs hW hS => ?_)
  refine lv_iconst (pc := 67) (v := 0) hx hb dX9_sheet_67 (by decide) ?_
  refine lv_istore (pc := 68) (lv' := [(4, .int (0 : Int32)), (0, .ref (z + 80 + 0)), (1, .int v1)]) hx hb dX9_sheet_68 hl (by decide) rfl (fun ls hl => ?_)
  exact w_X9_sheet_b70 C hK v1 FU (ms σ 10 (k1.toNatClampNeg) k2) (0 : Int32) hW hS (lv_sub hl [1, 2, 0] rfl) h

theorem w_X9_sheet_b44 (C : CX cX9_sheet 5 RX9 (some .int) D ac p m c s args meth (z, aK, aV) (Ar (z + 80))) (hK : 1 ≤ K) {r : Int32} {σf : Mem}   (σ : Mem) (v1 : Int32) (v2 : Int32) (v3 : Int32)  {H : Heap} {locs : List Loc} {ls : Array Slot} (hW : WR D ac (z + 80) σ H) (hS : va_S (Ar (z + 80)) s.heap H locs) (hl : lv_has ls 5 [(0, .ref (z + 80 + 0)), (1, .int v1), (2, .int v2), (3, .int v3)]) (h : f_X9_sheet_b44 σ v1 v2 v3 = some (r, σf)) : W p l e (rma K 0 0) s m args below meth c H locs 0 0 (MQ below (QV D (Er ac (z + 80)) inR (z + 80) (some (.int r)) σf (Ar (z + 80))) args s 0 0 (Ar (z + 80))) (F0 m 44 ls []) := by
  have hx := C.1.1
  have hb := C.1.2.1
  unfold f_X9_sheet_b44 at h
  refine lv_aload_n (pc := 44) hx hb dX9_sheet_44 rfl (lv_at hl 0 rfl) ?_
  refine gf_X9_19 (pc := 45) C hW fl_X9_34 dX9_sheet_45 ?_
  refine lv_iload_n (pc := 48) hx hb dX9_sheet_48 rfl (lv_at hl 1 rfl) ?_
  refine lv_iload_n (pc := 49) hx hb dX9_sheet_49 rfl (lv_at hl 2 rfl) ?_
  obtain ⟨hc6, h⟩ := o_chk h
  refine ir_st (pc := 50) (k := 9) C hW hS (by decide) (by decide) rfl rfl (inb_in hc6) dX9_sheet_50 (fun H locs hW hS => ?_)
  refine lv_aload_n (pc := 51) hx hb dX9_sheet_51 rfl (lv_at hl 0 rfl) ?_
  refine gf_X9_20 (pc := 52) C hW fl_X9_37 dX9_sheet_52 ?_
  refine lv_iload_n (pc := 55) hx hb dX9_sheet_55 rfl (lv_at hl 1 rfl) ?_
  refine lv_iload_n (pc := 56) hx hb dX9_sheet_56 rfl (lv_at hl 2 rfl) ?_
  refine lv_iconst (pc := 57) (v := -1) hx hb dX9_sheet_57 (by decide) ?_
  refine lv_icmp_ne (pc := 58) (tgt := 65) hx hb dX9_sheet_58 (by decide) (fun hc7 => ?_) (fun hc7 => ?_)
  · replace h := o_neg hc7 h
    refine lv_iload_n (pc := 65) hx hb dX9_sheet_65 rfl (lv_at hl 3 rfl) ?_
    exact w_X9_sheet_b66 C hK (ms σ 9 (v1.toNatClampNeg) v2) v1 v1 v3 hW hS (lv_sub hl [0, 1] rfl) h
  · replace h := o_pos hc7 h
    refine lv_iconst (pc := 61) (v := 0) hx hb dX9_sheet_61 (by decide) ?_
    refine lv_goto (pc := 62) (tgt := 66) hx hb dX9_sheet_62 (by decide) ?_
    exact w_X9_sheet_b66 C hK (ms σ 9 (v1.toNatClampNeg) v2) v1 v1 (0 : Int32) hW hS (lv_sub hl [0, 1] rfl) h

theorem w_X9_sheet_b32 (C : CX cX9_sheet 5 RX9 (some .int) D ac p m c s args meth (z, aK, aV) (Ar (z + 80))) (hK : 1 ≤ K) {r : Int32} {σf : Mem}   (σ : Mem) (v1 : Int32) (v2 : Int32) (v3 : Int32)  {H : Heap} {locs : List Loc} {ls : Array Slot} (hW : WR D ac (z + 80) σ H) (hS : va_S (Ar (z + 80)) s.heap H locs) (hl : lv_has ls 5 [(0, .ref (z + 80 + 0)), (1, .int v1), (2, .int v2), (3, .int v3)]) (h : f_X9_sheet_b32 σ v1 v2 v3 = some (r, σf)) : W p l e (rma K 0 0) s m args below meth c H locs 0 0 (MQ below (QV D (Er ac (z + 80)) inR (z + 80) (some (.int r)) σf (Ar (z + 80))) args s 0 0 (Ar (z + 80))) (F0 m 32 ls []) := by
  have hx := C.1.1
  have hb := C.1.2.1
  unfold f_X9_sheet_b32 at h
  refine lv_iload_n (pc := 32) hx hb dX9_sheet_32 rfl (lv_at hl 2 rfl) ?_
  refine lv_iconst (pc := 33) (v := -1) hx hb dX9_sheet_33 (by decide) ?_
  refine lv_icmp_eq (pc := 34) (tgt := 44) hx hb dX9_sheet_34 (by decide) (fun hc4 => ?_) (fun hc4 => ?_)
  · replace h := o_pos hc4 h
    exact w_X9_sheet_b44 C hK σ v1 v2 v3 hW hS (lv_sub hl [0, 1, 2, 3] rfl) h
  · replace h := o_neg hc4 h
    refine lv_iload_n (pc := 37) hx hb dX9_sheet_37 rfl (lv_at hl 3 rfl) ?_
    refine lv_if_ge (pc := 38) (tgt := 44) hx hb dX9_sheet_38 (by decide) (fun hc5 => ?_) (fun hc5 => ?_)
    · replace h := o_pos hc5 h
      exact w_X9_sheet_b44 C hK σ v1 v2 v3 hW hS (lv_sub hl [0, 1, 2, 3] rfl) h
    · replace h := o_neg hc5 h
      refine lv_bipush (pc := 41) (v := -14) hx hb dX9_sheet_41 (by decide) ?_
      exact g_ret (pc := 43) C hW hS rfl dX9_sheet_43 (congrArg (fun q => some (Value.int q)) (o_r h).1) (o_r h).2

theorem c_X9_sheet {K : Nat}  (hK : 1 ≤ K) {σ : Mem} {σf : Mem} {v1 : Int32} {v2 : Int32} {v3 : Int32} {r : Int32} (h : f_X9_sheet σ v1 v2 v3 = some (r, σf)) : MC l D (Er ac (z + 80)) inR (z + 80) ac (z, aK, aV) (Ar (z + 80)) yX9_sheet cX9_sheet 5 (some .int) K [.ref (z + 80 + 0), .int v1, .int v2, .int v3] σ (some (.int r)) σf := by
  refine MC.of (fun q hq => by have := hq.1; show z ≤ q; omega) (plainFor_of_name (by decide)) (Nat.le_of_ble_eq_true rfl) ?_
  intro p e s m below meth c args C hW ls hl
  replace hl : lv_has ls 5 [(0, .ref (z + 80 + 0)), (1, .int v1), (2, .int v2), (3, .int v3)] := hl
  have hS : va_S (Ar (z + 80)) s.heap s.heap [] := va_S.rf
  have hx := C.1.1
  have hb := C.1.2.1
  unfold f_X9_sheet at h
  refine lv_iload_n (pc := 0) hx hb dX9_sheet_0 rfl (lv_at hl 1 rfl) ?_
  refine lv_iconst (pc := 1) (v := 0) hx hb dX9_sheet_1 (by decide) ?_
  refine lv_iconst (pc := 2) (v := 3) hx hb dX9_sheet_2 (by decide) ?_
  refine g_stat (pc := 3) (st2 := [.int (f_X9_in v1 (0 : Int32) (3 : Int32))]) (rest := []) C hW hS (c_X9_in (K := K - 1) (by omega) rfl) mw_X9_84 (hRoom (by omega) (by decide)) rfl rfl rfl (Nat.le_of_ble_eq_true rfl) hl.1 dX9_sheet_3 (fun H locs hW hS => ?_)
  refine lv_if_eq (pc := 6) (tgt := 29) hx hb dX9_sheet_6 (by decide) (fun hc0 => ?_) (fun hc0 => ?_)
  · replace h := o_pos hc0 h
    refine lv_bipush (pc := 29) (v := -2) hx hb dX9_sheet_29 (by decide) ?_
    exact g_ret (pc := 31) C hW hS rfl dX9_sheet_31 (congrArg (fun q => some (Value.int q)) (o_r h).1) (o_r h).2
  · replace h := o_neg hc0 h
    refine lv_iload_n (pc := 9) hx hb dX9_sheet_9 rfl (lv_at hl 2 rfl) ?_
    refine lv_iconst (pc := 10) (v := -1) hx hb dX9_sheet_10 (by decide) ?_
    refine lv_iconst (pc := 11) (v := 2) hx hb dX9_sheet_11 (by decide) ?_
    refine g_stat (pc := 12) (st2 := [.int (f_X9_in v2 (-1 : Int32) (2 : Int32))]) (rest := []) C hW hS (c_X9_in (K := K - 1) (by omega) rfl) mw_X9_84 (hRoom (by omega) (by decide)) rfl rfl rfl (Nat.le_of_ble_eq_true rfl) hl.1 dX9_sheet_12 (fun H locs hW hS => ?_)
    refine lv_if_eq (pc := 15) (tgt := 29) hx hb dX9_sheet_15 (by decide) (fun hc1 => ?_) (fun hc1 => ?_)
    · replace h := o_pos hc1 h
      refine lv_bipush (pc := 29) (v := -2) hx hb dX9_sheet_29 (by decide) ?_
      exact g_ret (pc := 31) C hW hS rfl dX9_sheet_31 (congrArg (fun q => some (Value.int q)) (o_r h).1) (o_r h).2
    · replace h := o_neg hc1 h
      refine lv_iload_n (pc := 18) hx hb dX9_sheet_18 rfl (lv_at hl 2 rfl) ?_
      refine lv_iconst (pc := 19) (v := -1) hx hb dX9_sheet_19 (by decide) ?_
      refine lv_icmp_eq (pc := 20) (tgt := 32) hx hb dX9_sheet_20 (by decide) (fun hc2 => ?_) (fun hc2 => ?_)
      · replace h := o_pos hc2 h
        exact w_X9_sheet_b32 C hK σ v1 v2 v3 hW hS (lv_sub hl [0, 1, 2, 3] rfl) h
      · replace h := o_neg hc2 h
        refine lv_iload_n (pc := 23) hx hb dX9_sheet_23 rfl (lv_at hl 3 rfl) ?_
        refine lv_bipush (pc := 24) (v := 40) hx hb dX9_sheet_24 (by decide) ?_
        refine lv_icmp_le (pc := 26) (tgt := 32) hx hb dX9_sheet_26 (by decide) (fun hc3 => ?_) (fun hc3 => ?_)
        · replace h := o_pos hc3 h
          exact w_X9_sheet_b32 C hK σ v1 v2 v3 hW hS (lv_sub hl [0, 1, 2, 3] rfl) h
        · replace h := o_neg hc3 h
          refine lv_bipush (pc := 29) (v := -2) hx hb dX9_sheet_29 (by decide) ?_
          exact g_ret (pc := 31) C hW hS rfl dX9_sheet_31 (congrArg (fun q => some (Value.int q)) (o_r h).1) (o_r h).2

theorem c_X9_cell {K : Nat}  (hK : 1 ≤ K) {σ : Mem} {σf : Mem} {v1 : Int32} {v2 : Int32} {v3 : Int32} {r : Int32} (h : f_X9_cell σ v1 v2 v3 = some (r, σf)) : MC l D (Er ac (z + 80)) inR (z + 80) ac (z, aK, aV) (Ar (z + 80)) yX9_cell cX9_cell 4 (some .int) K [.ref (z + 80 + 0), .int v1, .int v2, .int v3] σ (some (.int r)) σf := by
  refine MC.of (fun q hq => by have := hq.1; show z ≤ q; omega) (plainFor_of_name (by decide)) (Nat.le_of_ble_eq_true rfl) ?_
  intro p e s m below meth c args C hW ls hl
  replace hl : lv_has ls 4 [(0, .ref (z + 80 + 0)), (1, .int v1), (2, .int v2), (3, .int v3)] := hl
  have hS : va_S (Ar (z + 80)) s.heap s.heap [] := va_S.rf
  have hx := C.1.1
  have hb := C.1.2.1
  unfold f_X9_cell at h
  refine lv_iload_n (pc := 0) hx hb dX9_cell_0 rfl (lv_at hl 1 rfl) ?_
  refine lv_iconst (pc := 1) (v := 0) hx hb dX9_cell_1 (by decide) ?_
  refine lv_iconst (pc := 2) (v := 3) hx hb dX9_cell_2 (by decide) ?_
  refine g_stat (pc := 3) (st2 := [.int (f_X9_in v1 (0 : Int32) (3 : Int32))]) (rest := []) C hW hS (c_X9_in (K := K - 1) (by omega) rfl) mw_X9_84 (hRoom (by omega) (by decide)) rfl rfl rfl (Nat.le_of_ble_eq_true rfl) hl.1 dX9_cell_3 (fun H locs hW hS => ?_)
  refine lv_if_ne (pc := 6) (tgt := 12) hx hb dX9_cell_6 (by decide) (fun hc0 => ?_) (fun hc0 => ?_)
  · replace h := o_neg hc0 h
    refine lv_aload_n (pc := 12) hx hb dX9_cell_12 rfl (lv_at hl 0 rfl) ?_
    refine gf_X9_19 (pc := 13) C hW fl_X9_34 dX9_cell_13 ?_
    refine lv_iload_n (pc := 16) hx hb dX9_cell_16 rfl (lv_at hl 1 rfl) ?_
    obtain ⟨hc1, h⟩ := o_chk h
    refine ir_ld (pc := 17) (k := 9) C hW (by decide) (by decide) rfl rfl (inb_in hc1) dX9_cell_17 ?_
    refine lv_iconst (pc := 18) (v := -1) hx hb dX9_cell_18 (by decide) ?_
    refine lv_icmp_ne (pc := 19) (tgt := 25) hx hb dX9_cell_19 (by decide) (fun hc2 => ?_) (fun hc2 => ?_)
    · replace h := o_neg hc2 h
      refine lv_iload_n (pc := 25) hx hb dX9_cell_25 rfl (lv_at hl 2 rfl) ?_
      refine lv_iconst (pc := 26) (v := 0) hx hb dX9_cell_26 (by decide) ?_
      refine lv_aload_n (pc := 27) hx hb dX9_cell_27 rfl (lv_at hl 0 rfl) ?_
      refine gf_X9_20 (pc := 28) C hW fl_X9_37 dX9_cell_28 ?_
      refine lv_iload_n (pc := 31) hx hb dX9_cell_31 rfl (lv_at hl 1 rfl) ?_
      obtain ⟨hc3, h⟩ := o_chk h
      refine ir_ld (pc := 32) (k := 10) C hW (by decide) (by decide) rfl rfl (inb_in hc3) dX9_cell_32 ?_
      refine lv_iconst (pc := 33) (v := 1) hx hb dX9_cell_33 (by decide) ?_
      refine lv_isub (pc := 34) hx hb dX9_cell_34 ?_
      refine g_stat (pc := 35) (st2 := [.int (f_X9_in v2 (0 : Int32) ((σ 10 (v1.toNatClampNeg)) - (1 : Int32)))]) (rest := []) C hW hS (c_X9_in (K := K - 1) (by omega) rfl) mw_X9_84 (hRoom (by omega) (by decide)) rfl rfl rfl (Nat.le_of_ble_eq_true rfl) hl.1 dX9_cell_35 (fun H locs hW hS => ?_)
      refine lv_if_ne (pc := 38) (tgt := 44) hx hb dX9_cell_38 (by decide) (fun hc4 => ?_) (fun hc4 => ?_)
      · replace h := o_neg hc4 h
        refine lv_aload_n (pc := 44) hx hb dX9_cell_44 rfl (lv_at hl 0 rfl) ?_
        refine gf_X9_21 (pc := 45) C hW fl_X9_40 dX9_cell_45 ?_
        refine lv_bipush (pc := 48) (v := 40) hx hb dX9_cell_48 (by decide) ?_
        refine lv_iload_n (pc := 50) hx hb dX9_cell_50 rfl (lv_at hl 1 rfl) ?_
        refine lv_imul (pc := 51) hx hb dX9_cell_51 ?_
        refine lv_iload_n (pc := 52) hx hb dX9_cell_52 rfl (lv_at hl 2 rfl) ?_
        refine lv_iadd (pc := 53) hx hb dX9_cell_53 ?_
        refine lv_aload_n (pc := 54) hx hb dX9_cell_54 rfl (lv_at hl 0 rfl) ?_
        refine gf_X9_19 (pc := 55) C hW fl_X9_34 dX9_cell_55 ?_
        refine lv_iload_n (pc := 58) hx hb dX9_cell_58 rfl (lv_at hl 1 rfl) ?_
        obtain ⟨hc5, h⟩ := o_chk h
        refine ir_ld (pc := 59) (k := 9) C hW (by decide) (by decide) rfl rfl (inb_in hc5) dX9_cell_59 ?_
        refine lv_if_ne (pc := 60) (tgt := 68) hx hb dX9_cell_60 (by decide) (fun hc6 => ?_) (fun hc6 => ?_)
        · replace h := o_neg hc6 h
          refine lv_aload_n (pc := 68) hx hb dX9_cell_68 rfl (lv_at hl 0 rfl) ?_
          refine gf_X9_19 (pc := 69) C hW fl_X9_34 dX9_cell_69 ?_
          refine lv_iload_n (pc := 72) hx hb dX9_cell_72 rfl (lv_at hl 1 rfl) ?_
          obtain ⟨hc7, h⟩ := o_chk h
          refine ir_ld (pc := 73) (k := 9) C hW (by decide) (by decide) rfl rfl (inb_in hc7) dX9_cell_73 ?_
          refine lv_iconst (pc := 74) (v := 1) hx hb dX9_cell_74 (by decide) ?_
          refine lv_icmp_ne (pc := 75) (tgt := 83) hx hb dX9_cell_75 (by decide) (fun hc8 => ?_) (fun hc8 => ?_)
          · replace h := o_neg hc8 h
            refine lv_iload_n (pc := 83) hx hb dX9_cell_83 rfl (lv_at hl 3 rfl) ?_
            obtain ⟨hc9, h⟩ := o_chk h
            refine ir_st (pc := 84) (k := 11) C hW hS (by decide) (by decide) rfl rfl (inb_in hc9) dX9_cell_84 (fun H locs hW hS => ?_)
            obtain ⟨σ11, hσ11, h⟩ := o_d h
            replace hW : WR D ac (z + 80) σ11 H := by rw [← hσ11]; exact hW
            refine lv_iconst (pc := 85) (v := 1) hx hb dX9_cell_85 (by decide) ?_
            exact g_ret (pc := 86) C hW hS rfl dX9_cell_86 (congrArg (fun q => some (Value.int q)) (o_r h).1) (o_r h).2
          · replace h := o_pos hc8 h
            refine lv_iload_n (pc := 78) hx hb dX9_cell_78 rfl (lv_at hl 3 rfl) ?_
            refine lv_i2s (pc := 79) (v := (v3.toInt16.toInt32)) hx hb dX9_cell_79 rfl ?_
            refine lv_goto (pc := 80) (tgt := 84) hx hb dX9_cell_80 (by decide) ?_
            obtain ⟨hc11, h⟩ := o_chk h
            refine ir_st (pc := 84) (k := 11) C hW hS (by decide) (by decide) rfl rfl (inb_in hc11) dX9_cell_84 (fun H locs hW hS => ?_)
            obtain ⟨σ13, hσ13, h⟩ := o_d h
            replace hW : WR D ac (z + 80) σ13 H := by rw [← hσ13]; exact hW
            refine lv_iconst (pc := 85) (v := 1) hx hb dX9_cell_85 (by decide) ?_
            exact g_ret (pc := 86) C hW hS rfl dX9_cell_86 (congrArg (fun q => some (Value.int q)) (o_r h).1) (o_r h).2
        · replace h := o_pos hc6 h
          refine lv_iload_n (pc := 63) hx hb dX9_cell_63 rfl (lv_at hl 3 rfl) ?_
          refine lv_i2b (pc := 64) (v := (v3.toInt8.toInt32)) hx hb dX9_cell_64 rfl ?_
          refine lv_goto (pc := 65) (tgt := 84) hx hb dX9_cell_65 (by decide) ?_
          obtain ⟨hc13, h⟩ := o_chk h
          refine ir_st (pc := 84) (k := 11) C hW hS (by decide) (by decide) rfl rfl (inb_in hc13) dX9_cell_84 (fun H locs hW hS => ?_)
          obtain ⟨σ15, hσ15, h⟩ := o_d h
          replace hW : WR D ac (z + 80) σ15 H := by rw [← hσ15]; exact hW
          refine lv_iconst (pc := 85) (v := 1) hx hb dX9_cell_85 (by decide) ?_
          exact g_ret (pc := 86) C hW hS rfl dX9_cell_86 (congrArg (fun q => some (Value.int q)) (o_r h).1) (o_r h).2
      · replace h := o_pos hc4 h
        refine lv_bipush (pc := 41) (v := -12) hx hb dX9_cell_41 (by decide) ?_
        exact g_ret (pc := 43) C hW hS rfl dX9_cell_43 (congrArg (fun q => some (Value.int q)) (o_r h).1) (o_r h).2
    · replace h := o_pos hc2 h
      refine lv_bipush (pc := 22) (v := -11) hx hb dX9_cell_22 (by decide) ?_
      exact g_ret (pc := 24) C hW hS rfl dX9_cell_24 (congrArg (fun q => some (Value.int q)) (o_r h).1) (o_r h).2
  · replace h := o_pos hc0 h
    refine lv_bipush (pc := 9) (v := -2) hx hb dX9_cell_9 (by decide) ?_
    exact g_ret (pc := 11) C hW hS rfl dX9_cell_11 (congrArg (fun q => some (Value.int q)) (o_r h).1) (o_r h).2

theorem w_X9_copy_b173 (C : CX cX9_copy 10 RX9 (some .int) D ac p m c s args meth (z, aK, aV) (Ar (z + 80))) (hK : 1 ≤ K) {r : Int32} {σf : Mem}   (σ : Mem) (v5 : Int32) (v6 : Int32) (v7 : Int32) (v8 : Int32) (k0 : Int32) (s147 : Mem → Int32 → Option (Int32 × Mem)) (hs147 : ∀ (σ : Mem) (v8 : Int32) {H : Heap} {locs : List Loc} {ls : Array Slot} (_ : WR D ac (z + 80) σ H) (_ : va_S (Ar (z + 80)) s.heap H locs) (_ : lv_has ls 10 [(0, .ref (z + 80 + 0)), (5, .int v5), (6, .int v6), (7, .int v7), (8, .int v8)]) (_ : s147 σ v8 = some (r, σf)), W p l e (rma K 0 0) s m args below meth c H locs 0 0 (MQ below (QV D (Er ac (z + 80)) inR (z + 80) (some (.int r)) σf (Ar (z + 80))) args s 0 0 (Ar (z + 80))) (F0 m 147 ls [])) {H : Heap} {locs : List Loc} {ls : Array Slot} (hW : WR D ac (z + 80) σ H) (hS : va_S (Ar (z + 80)) s.heap H locs) (hl : lv_has ls 10 [(0, .ref (z + 80 + 0)), (5, .int v5), (6, .int v6), (7, .int v7), (8, .int v8)]) (h : f_X9_copy_b173 s147 σ v5 v6 v7 v8 k0 = some (r, σf)) : W p l e (rma K 0 0) s m args below meth c H locs 0 0 (MQ below (QV D (Er ac (z + 80)) inR (z + 80) (some (.int r)) σf (Ar (z + 80))) args s 0 0 (Ar (z + 80))) (F0 m 173 ls [.int k0]) := by
  have hx := C.1.1
  have hb := C.1.2.1
  unfold f_X9_copy_b173 at h
  refine lv_istore (pc := 173) (lv' := [(9, .int k0), (0, .ref (z + 80 + 0)), (5, .int v5), (6, .int v6), (7, .int v7), (8, .int v8)]) hx hb dX9_copy_173 hl (by decide) rfl (fun ls hl => ?_)
  refine lv_aload_n (pc := 175) hx hb dX9_copy_175 rfl (lv_at hl 1 rfl) ?_
  refine gf_X9_21 (pc := 176) C hW fl_X9_40 dX9_copy_176 ?_
  refine lv_iload (pc := 179) hx hb dX9_copy_179 (lv_at hl 4 rfl) ?_
  refine lv_iload (pc := 181) hx hb dX9_copy_181 (lv_at hl 0 rfl) ?_
  refine lv_iadd (pc := 183) hx hb dX9_copy_183 ?_
  refine lv_aload_n (pc := 184) hx hb dX9_copy_184 rfl (lv_at hl 1 rfl) ?_
  refine gf_X9_21 (pc := 185) C hW fl_X9_40 dX9_copy_185 ?_
  refine lv_iload (pc := 188) hx hb dX9_copy_188 (lv_at hl 3 rfl) ?_
  refine lv_iload (pc := 190) hx hb dX9_copy_190 (lv_at hl 0 rfl) ?_
  refine lv_iadd (pc := 192) hx hb dX9_copy_192 ?_
  obtain ⟨hc22, h⟩ := o_chk h
  refine ir_ld (pc := 193) (k := 11) C hW (by decide) (by decide) rfl rfl (inb_in hc22) dX9_copy_193 ?_
  obtain ⟨hc23, h⟩ := o_chk h
  refine ir_st (pc := 194) (k := 11) C hW hS (by decide) (by decide) rfl rfl (inb_in hc23) dX9_copy_194 (fun H locs hW hS => ?_)
  obtain ⟨σ25, hσ25, h⟩ := o_d h
  replace hW : WR D ac (z + 80) σ25 H := by rw [← hσ25]; exact hW
  refine lv_iinc (pc := 195) (v := (v8 + 1)) (lv' := [(8, .int (v8 + 1)), (9, .int k0), (0, .ref (z + 80 + 0)), (5, .int v5), (6, .int v6), (7, .int v7)]) hx hb dX9_copy_195 hl (k := 5) rfl rfl (by decide) rfl (fun ls hl => ?_)
  refine lv_goto (pc := 198) (tgt := 147) hx hb dX9_copy_198 (by decide) ?_
  exact hs147 σ25 (v8 + 1) hW hS (lv_sub hl [2, 3, 4, 5, 0] rfl) h

theorem w_X9_copy_b147 (C : CX cX9_copy 10 RX9 (some .int) D ac p m c s args meth (z, aK, aV) (Ar (z + 80))) (hK : 1 ≤ K) {r : Int32} {σf : Mem}   (v5 : Int32) (v6 : Int32) (v7 : Int32)  : ∀ (n : Nat) (σ : Mem) (v8 : Int32) {H : Heap} {locs : List Loc} {ls : Array Slot} (hW : WR D ac (z + 80) σ H) (hS : va_S (Ar (z + 80)) s.heap H locs) (hl : lv_has ls 10 [(0, .ref (z + 80 + 0)), (5, .int v5), (6, .int v6), (7, .int v7), (8, .int v8)]) (h : f_X9_copy_b147 v5 v6 v7 n σ v8 = some (r, σf)), W p l e (rma K 0 0) s m args below meth c H locs 0 0 (MQ below (QV D (Er ac (z + 80)) inR (z + 80) (some (.int r)) σf (Ar (z + 80))) args s 0 0 (Ar (z + 80))) (F0 m 147 ls []) := by
  have hx := C.1.1
  have hb := C.1.2.1
  intro n
  induction n with
  | zero =>
    intro σ v8 H locs ls  hW hS hl h
    cases h
  | succ n ih =>
    intro σ v8 H locs ls  hW hS hl h
    rw [f_X9_copy_b147.eq_2] at h
    refine lv_iload (pc := 147) hx hb dX9_copy_147 (lv_at hl 4 rfl) ?_
    refine lv_iload (pc := 149) hx hb dX9_copy_149 (lv_at hl 1 rfl) ?_
    refine lv_icmp_ge (pc := 151) (tgt := 201) hx hb dX9_copy_151 (by decide) (fun hc20 => ?_) (fun hc20 => ?_)
    · replace h := o_pos hc20 h
      refine lv_iload (pc := 201) hx hb dX9_copy_201 (lv_at hl 1 rfl) ?_
      exact g_ret (pc := 203) C hW hS rfl dX9_copy_203 (congrArg (fun q => some (Value.int q)) (o_r h).1) (o_r h).2
    · replace h := o_neg hc20 h
      refine lv_iload (pc := 154) hx hb dX9_copy_154 (lv_at hl 2 rfl) ?_
      refine lv_iload (pc := 156) hx hb dX9_copy_156 (lv_at hl 3 rfl) ?_
      refine lv_icmp_ge (pc := 158) (tgt := 171) hx hb dX9_copy_158 (by decide) (fun hc21 => ?_) (fun hc21 => ?_)
      · replace h := o_pos hc21 h
        refine lv_iload (pc := 171) hx hb dX9_copy_171 (lv_at hl 4 rfl) ?_
        exact w_X9_copy_b173 C hK σ v5 v6 v7 v8 v8 (f_X9_copy_b147 v5 v6 v7 n) (fun σ v8 {H : Heap} {locs : List Loc} {ls : Array Slot}  hW hS hl h => ih σ v8 hW hS hl h) hW hS (lv_sub hl [0, 1, 2, 3, 4] rfl) h
      · replace h := o_neg hc21 h
        refine lv_iload (pc := 161) hx hb dX9_copy_161 (lv_at hl 1 rfl) ?_
        refine lv_iconst (pc := 163) (v := 1) hx hb dX9_copy_163 (by decide) ?_
        refine lv_isub (pc := 164) hx hb dX9_copy_164 ?_
        refine lv_iload (pc := 165) hx hb dX9_copy_165 (lv_at hl 4 rfl) ?_
        refine lv_isub (pc := 167) hx hb dX9_copy_167 ?_
        refine lv_goto (pc := 168) (tgt := 173) hx hb dX9_copy_168 (by decide) ?_
        exact w_X9_copy_b173 C hK σ v5 v6 v7 v8 ((v5 - (1 : Int32)) - v8) (f_X9_copy_b147 v5 v6 v7 n) (fun σ v8 {H : Heap} {locs : List Loc} {ls : Array Slot}  hW hS hl h => ih σ v8 hW hS hl h) hW hS (lv_sub hl [0, 1, 2, 3, 4] rfl) h

theorem c_X9_copy {K : Nat}  (hK : 1 ≤ K) {σ : Mem} {σf : Mem} {v1 : Int32} {v2 : Int32} {v3 : Int32} {v4 : Int32} {v5 : Int32} {r : Int32} (h : f_X9_copy σ v1 v2 v3 v4 v5 = some (r, σf)) : MC l D (Er ac (z + 80)) inR (z + 80) ac (z, aK, aV) (Ar (z + 80)) yX9_copy cX9_copy 10 (some .int) K [.ref (z + 80 + 0), .int v1, .int v2, .int v3, .int v4, .int v5] σ (some (.int r)) σf := by
  refine MC.of (fun q hq => by have := hq.1; show z ≤ q; omega) (plainFor_of_name (by decide)) (Nat.le_of_ble_eq_true rfl) ?_
  intro p e s m below meth c args C hW ls hl
  replace hl : lv_has ls 10 [(0, .ref (z + 80 + 0)), (1, .int v1), (2, .int v2), (3, .int v3), (4, .int v4), (5, .int v5)] := hl
  have hS : va_S (Ar (z + 80)) s.heap s.heap [] := va_S.rf
  have hx := C.1.1
  have hb := C.1.2.1
  unfold f_X9_copy at h
  refine lv_iload_n (pc := 0) hx hb dX9_copy_0 rfl (lv_at hl 1 rfl) ?_
  refine lv_iconst (pc := 1) (v := 0) hx hb dX9_copy_1 (by decide) ?_
  refine lv_iconst (pc := 2) (v := 3) hx hb dX9_copy_2 (by decide) ?_
  refine g_stat (pc := 3) (st2 := [.int (f_X9_in v1 (0 : Int32) (3 : Int32))]) (rest := []) C hW hS (c_X9_in (K := K - 1) (by omega) rfl) mw_X9_84 (hRoom (by omega) (by decide)) rfl rfl rfl (Nat.le_of_ble_eq_true rfl) hl.1 dX9_copy_3 (fun H locs hW hS => ?_)
  refine lv_if_eq (pc := 6) (tgt := 18) hx hb dX9_copy_6 (by decide) (fun hc0 => ?_) (fun hc0 => ?_)
  · replace h := o_pos hc0 h
    refine lv_bipush (pc := 18) (v := -2) hx hb dX9_copy_18 (by decide) ?_
    exact g_ret (pc := 20) C hW hS rfl dX9_copy_20 (congrArg (fun q => some (Value.int q)) (o_r h).1) (o_r h).2
  · replace h := o_neg hc0 h
    refine lv_iload_n (pc := 9) hx hb dX9_copy_9 rfl (lv_at hl 3 rfl) ?_
    refine lv_iconst (pc := 10) (v := 0) hx hb dX9_copy_10 (by decide) ?_
    refine lv_iconst (pc := 11) (v := 3) hx hb dX9_copy_11 (by decide) ?_
    refine g_stat (pc := 12) (st2 := [.int (f_X9_in v3 (0 : Int32) (3 : Int32))]) (rest := []) C hW hS (c_X9_in (K := K - 1) (by omega) rfl) mw_X9_84 (hRoom (by omega) (by decide)) rfl rfl rfl (Nat.le_of_ble_eq_true rfl) hl.1 dX9_copy_12 (fun H locs hW hS => ?_)
    refine lv_if_ne (pc := 15) (tgt := 21) hx hb dX9_copy_15 (by decide) (fun hc1 => ?_) (fun hc1 => ?_)
    · replace h := o_neg hc1 h
      refine lv_aload_n (pc := 21) hx hb dX9_copy_21 rfl (lv_at hl 0 rfl) ?_
      refine gf_X9_19 (pc := 22) C hW fl_X9_34 dX9_copy_22 ?_
      refine lv_iload_n (pc := 25) hx hb dX9_copy_25 rfl (lv_at hl 1 rfl) ?_
      obtain ⟨hc2, h⟩ := o_chk h
      refine ir_ld (pc := 26) (k := 9) C hW (by decide) (by decide) rfl rfl (inb_in hc2) dX9_copy_26 ?_
      refine lv_iconst (pc := 27) (v := -1) hx hb dX9_copy_27 (by decide) ?_
      refine lv_icmp_eq (pc := 28) (tgt := 41) hx hb dX9_copy_28 (by decide) (fun hc3 => ?_) (fun hc3 => ?_)
      · replace h := o_pos hc3 h
        refine lv_bipush (pc := 41) (v := -11) hx hb dX9_copy_41 (by decide) ?_
        exact g_ret (pc := 43) C hW hS rfl dX9_copy_43 (congrArg (fun q => some (Value.int q)) (o_r h).1) (o_r h).2
      · replace h := o_neg hc3 h
        refine lv_aload_n (pc := 31) hx hb dX9_copy_31 rfl (lv_at hl 0 rfl) ?_
        refine gf_X9_19 (pc := 32) C hW fl_X9_34 dX9_copy_32 ?_
        refine lv_iload_n (pc := 35) hx hb dX9_copy_35 rfl (lv_at hl 3 rfl) ?_
        obtain ⟨hc4, h⟩ := o_chk h
        refine ir_ld (pc := 36) (k := 9) C hW (by decide) (by decide) rfl rfl (inb_in hc4) dX9_copy_36 ?_
        refine lv_iconst (pc := 37) (v := -1) hx hb dX9_copy_37 (by decide) ?_
        refine lv_icmp_ne (pc := 38) (tgt := 44) hx hb dX9_copy_38 (by decide) (fun hc5 => ?_) (fun hc5 => ?_)
        · replace h := o_neg hc5 h
          refine lv_aload_n (pc := 44) hx hb dX9_copy_44 rfl (lv_at hl 0 rfl) ?_
          refine gf_X9_19 (pc := 45) C hW fl_X9_34 dX9_copy_45 ?_
          refine lv_iload_n (pc := 48) hx hb dX9_copy_48 rfl (lv_at hl 1 rfl) ?_
          obtain ⟨hc6, h⟩ := o_chk h
          refine ir_ld (pc := 49) (k := 9) C hW (by decide) (by decide) rfl rfl (inb_in hc6) dX9_copy_49 ?_
          refine lv_aload_n (pc := 50) hx hb dX9_copy_50 rfl (lv_at hl 0 rfl) ?_
          refine gf_X9_19 (pc := 51) C hW fl_X9_34 dX9_copy_51 ?_
          refine lv_iload_n (pc := 54) hx hb dX9_copy_54 rfl (lv_at hl 3 rfl) ?_
          obtain ⟨hc7, h⟩ := o_chk h
          refine ir_ld (pc := 55) (k := 9) C hW (by decide) (by decide) rfl rfl (inb_in hc7) dX9_copy_55 ?_
          refine lv_icmp_eq (pc := 56) (tgt := 62) hx hb dX9_copy_56 (by decide) (fun hc8 => ?_) (fun hc8 => ?_)
          · replace h := o_pos hc8 h
            refine lv_iload (pc := 62) hx hb dX9_copy_62 (lv_at hl 5 rfl) ?_
            refine lv_if_lt (pc := 64) (tgt := 124) hx hb dX9_copy_64 (by decide) (fun hc9 => ?_) (fun hc9 => ?_)
            · replace h := o_pos hc9 h
              refine lv_bipush (pc := 124) (v := -12) hx hb dX9_copy_124 (by decide) ?_
              exact g_ret (pc := 126) C hW hS rfl dX9_copy_126 (congrArg (fun q => some (Value.int q)) (o_r h).1) (o_r h).2
            · replace h := o_neg hc9 h
              refine lv_iload_n (pc := 67) hx hb dX9_copy_67 rfl (lv_at hl 2 rfl) ?_
              refine lv_if_lt (pc := 68) (tgt := 124) hx hb dX9_copy_68 (by decide) (fun hc10 => ?_) (fun hc10 => ?_)
              · replace h := o_pos hc10 h
                refine lv_bipush (pc := 124) (v := -12) hx hb dX9_copy_124 (by decide) ?_
                exact g_ret (pc := 126) C hW hS rfl dX9_copy_126 (congrArg (fun q => some (Value.int q)) (o_r h).1) (o_r h).2
              · replace h := o_neg hc10 h
                refine lv_iload (pc := 71) hx hb dX9_copy_71 (lv_at hl 4 rfl) ?_
                refine lv_if_lt (pc := 73) (tgt := 124) hx hb dX9_copy_73 (by decide) (fun hc11 => ?_) (fun hc11 => ?_)
                · replace h := o_pos hc11 h
                  refine lv_bipush (pc := 124) (v := -12) hx hb dX9_copy_124 (by decide) ?_
                  exact g_ret (pc := 126) C hW hS rfl dX9_copy_126 (congrArg (fun q => some (Value.int q)) (o_r h).1) (o_r h).2
                · replace h := o_neg hc11 h
                  refine lv_iload_n (pc := 76) hx hb dX9_copy_76 rfl (lv_at hl 2 rfl) ?_
                  refine lv_aload_n (pc := 77) hx hb dX9_copy_77 rfl (lv_at hl 0 rfl) ?_
                  refine gf_X9_20 (pc := 78) C hW fl_X9_37 dX9_copy_78 ?_
                  refine lv_iload_n (pc := 81) hx hb dX9_copy_81 rfl (lv_at hl 1 rfl) ?_
                  obtain ⟨hc12, h⟩ := o_chk h
                  refine ir_ld (pc := 82) (k := 10) C hW (by decide) (by decide) rfl rfl (inb_in hc12) dX9_copy_82 ?_
                  refine lv_icmp_gt (pc := 83) (tgt := 124) hx hb dX9_copy_83 (by decide) (fun hc13 => ?_) (fun hc13 => ?_)
                  · replace h := o_pos hc13 h
                    refine lv_bipush (pc := 124) (v := -12) hx hb dX9_copy_124 (by decide) ?_
                    exact g_ret (pc := 126) C hW hS rfl dX9_copy_126 (congrArg (fun q => some (Value.int q)) (o_r h).1) (o_r h).2
                  · replace h := o_neg hc13 h
                    refine lv_iload (pc := 86) hx hb dX9_copy_86 (lv_at hl 4 rfl) ?_
                    refine lv_aload_n (pc := 88) hx hb dX9_copy_88 rfl (lv_at hl 0 rfl) ?_
                    refine gf_X9_20 (pc := 89) C hW fl_X9_37 dX9_copy_89 ?_
                    refine lv_iload_n (pc := 92) hx hb dX9_copy_92 rfl (lv_at hl 3 rfl) ?_
                    obtain ⟨hc14, h⟩ := o_chk h
                    refine ir_ld (pc := 93) (k := 10) C hW (by decide) (by decide) rfl rfl (inb_in hc14) dX9_copy_93 ?_
                    refine lv_icmp_gt (pc := 94) (tgt := 124) hx hb dX9_copy_94 (by decide) (fun hc15 => ?_) (fun hc15 => ?_)
                    · replace h := o_pos hc15 h
                      refine lv_bipush (pc := 124) (v := -12) hx hb dX9_copy_124 (by decide) ?_
                      exact g_ret (pc := 126) C hW hS rfl dX9_copy_126 (congrArg (fun q => some (Value.int q)) (o_r h).1) (o_r h).2
                    · replace h := o_neg hc15 h
                      refine lv_iload (pc := 97) hx hb dX9_copy_97 (lv_at hl 5 rfl) ?_
                      refine lv_aload_n (pc := 99) hx hb dX9_copy_99 rfl (lv_at hl 0 rfl) ?_
                      refine gf_X9_20 (pc := 100) C hW fl_X9_37 dX9_copy_100 ?_
                      refine lv_iload_n (pc := 103) hx hb dX9_copy_103 rfl (lv_at hl 1 rfl) ?_
                      obtain ⟨hc16, h⟩ := o_chk h
                      refine ir_ld (pc := 104) (k := 10) C hW (by decide) (by decide) rfl rfl (inb_in hc16) dX9_copy_104 ?_
                      refine lv_iload_n (pc := 105) hx hb dX9_copy_105 rfl (lv_at hl 2 rfl) ?_
                      refine lv_isub (pc := 106) hx hb dX9_copy_106 ?_
                      refine lv_icmp_gt (pc := 107) (tgt := 124) hx hb dX9_copy_107 (by decide) (fun hc17 => ?_) (fun hc17 => ?_)
                      · replace h := o_pos hc17 h
                        refine lv_bipush (pc := 124) (v := -12) hx hb dX9_copy_124 (by decide) ?_
                        exact g_ret (pc := 126) C hW hS rfl dX9_copy_126 (congrArg (fun q => some (Value.int q)) (o_r h).1) (o_r h).2
                      · replace h := o_neg hc17 h
                        refine lv_iload (pc := 110) hx hb dX9_copy_110 (lv_at hl 5 rfl) ?_
                        refine lv_aload_n (pc := 112) hx hb dX9_copy_112 rfl (lv_at hl 0 rfl) ?_
                        refine gf_X9_20 (pc := 113) C hW fl_X9_37 dX9_copy_113 ?_
                        refine lv_iload_n (pc := 116) hx hb dX9_copy_116 rfl (lv_at hl 3 rfl) ?_
                        obtain ⟨hc18, h⟩ := o_chk h
                        refine ir_ld (pc := 117) (k := 10) C hW (by decide) (by decide) rfl rfl (inb_in hc18) dX9_copy_117 ?_
                        refine lv_iload (pc := 118) hx hb dX9_copy_118 (lv_at hl 4 rfl) ?_
                        refine lv_isub (pc := 120) hx hb dX9_copy_120 ?_
                        refine lv_icmp_le (pc := 121) (tgt := 127) hx hb dX9_copy_121 (by decide) (fun hc19 => ?_) (fun hc19 => ?_)
                        · replace h := o_pos hc19 h
                          refine lv_bipush (pc := 127) (v := 40) hx hb dX9_copy_127 (by decide) ?_
                          refine lv_iload_n (pc := 129) hx hb dX9_copy_129 rfl (lv_at hl 1 rfl) ?_
                          refine lv_imul (pc := 130) hx hb dX9_copy_130 ?_
                          refine lv_iload_n (pc := 131) hx hb dX9_copy_131 rfl (lv_at hl 2 rfl) ?_
                          refine lv_iadd (pc := 132) hx hb dX9_copy_132 ?_
                          refine lv_istore (pc := 133) (lv' := [(6, .int (((40 : Int32) * v1) + v2)), (0, .ref (z + 80 + 0)), (1, .int v1), (2, .int v2), (3, .int v3), (4, .int v4), (5, .int v5)]) hx hb dX9_copy_133 hl (by decide) rfl (fun ls hl => ?_)
                          refine lv_bipush (pc := 135) (v := 40) hx hb dX9_copy_135 (by decide) ?_
                          refine lv_iload_n (pc := 137) hx hb dX9_copy_137 rfl (lv_at hl 4 rfl) ?_
                          refine lv_imul (pc := 138) hx hb dX9_copy_138 ?_
                          refine lv_iload (pc := 139) hx hb dX9_copy_139 (lv_at hl 5 rfl) ?_
                          refine lv_iadd (pc := 141) hx hb dX9_copy_141 ?_
                          refine lv_istore (pc := 142) (lv' := [(7, .int (((40 : Int32) * v3) + v4)), (6, .int (((40 : Int32) * v1) + v2)), (0, .ref (z + 80 + 0)), (1, .int v1), (2, .int v2), (3, .int v3), (4, .int v4), (5, .int v5)]) hx hb dX9_copy_142 hl (by decide) rfl (fun ls hl => ?_)
                          refine lv_iconst (pc := 144) (v := 0) hx hb dX9_copy_144 (by decide) ?_
                          refine lv_istore (pc := 145) (lv' := [(8, .int (0 : Int32)), (7, .int (((40 : Int32) * v3) + v4)), (6, .int (((40 : Int32) * v1) + v2)), (0, .ref (z + 80 + 0)), (1, .int v1), (2, .int v2), (3, .int v3), (4, .int v4), (5, .int v5)]) hx hb dX9_copy_145 hl (by decide) rfl (fun ls hl => ?_)
                          exact w_X9_copy_b147 C hK v5 (((40 : Int32) * v1) + v2) (((40 : Int32) * v3) + v4) FU σ (0 : Int32) hW hS (lv_sub hl [3, 8, 2, 1, 0] rfl) h
                        · replace h := o_neg hc19 h
                          refine lv_bipush (pc := 124) (v := -12) hx hb dX9_copy_124 (by decide) ?_
                          exact g_ret (pc := 126) C hW hS rfl dX9_copy_126 (congrArg (fun q => some (Value.int q)) (o_r h).1) (o_r h).2
          · replace h := o_neg hc8 h
            refine lv_bipush (pc := 59) (v := -13) hx hb dX9_copy_59 (by decide) ?_
            exact g_ret (pc := 61) C hW hS rfl dX9_copy_61 (congrArg (fun q => some (Value.int q)) (o_r h).1) (o_r h).2
        · replace h := o_pos hc5 h
          refine lv_bipush (pc := 41) (v := -11) hx hb dX9_copy_41 (by decide) ?_
          exact g_ret (pc := 43) C hW hS rfl dX9_copy_43 (congrArg (fun q => some (Value.int q)) (o_r h).1) (o_r h).2
    · replace h := o_pos hc1 h
      refine lv_bipush (pc := 18) (v := -2) hx hb dX9_copy_18 (by decide) ?_
      exact g_ret (pc := 20) C hW hS rfl dX9_copy_20 (congrArg (fun q => some (Value.int q)) (o_r h).1) (o_r h).2

theorem w_X9_menBy_b153 (C : CX cX9_menBy 9 RX9 (some .int) D ac p m c s args meth (z, aK, aV) (Ar (z + 80))) (hK : 2 ≤ K) {r : Int32} {σf : Mem}   (σ : Mem) (v1 : Int32) (v3 : Int32) (v4 : Int32) (v6 : Int32) (k0 : Int32) (k1 : Int32) (s64 : Mem → Int32 → Int32 → Option (Int32 × Mem)) (hs64 : ∀ (σ : Mem) (v5 : Int32) (v6 : Int32) {H : Heap} {locs : List Loc} {ls : Array Slot} (_ : WR D ac (z + 80) σ H) (_ : va_S (Ar (z + 80)) s.heap H locs) (_ : lv_has ls 9 [(0, .ref (z + 80 + 0)), (1, .int v1), (3, .int v3), (4, .int v4), (5, .int v5), (6, .int v6)]) (_ : s64 σ v5 v6 = some (r, σf)), W p l e (rma K 0 0) s m args below meth c H locs 0 0 (MQ below (QV D (Er ac (z + 80)) inR (z + 80) (some (.int r)) σf (Ar (z + 80))) args s 0 0 (Ar (z + 80))) (F0 m 64 ls [])) {H : Heap} {locs : List Loc} {ls : Array Slot} (hW : WR D ac (z + 80) σ H) (hS : va_S (Ar (z + 80)) s.heap H locs) (hl : lv_has ls 9 [(0, .ref (z + 80 + 0)), (1, .int v1), (3, .int v3), (4, .int v4), (6, .int v6)]) (h : f_X9_menBy_b153 s64 σ v1 v3 v4 v6 k0 k1 = some (r, σf)) : W p l e (rma K 0 0) s m args below meth c H locs 0 0 (MQ below (QV D (Er ac (z + 80)) inR (z + 80) (some (.int r)) σf (Ar (z + 80))) args s 0 0 (Ar (z + 80))) (F0 m 153 ls [.int k1, .int k0]) := by
  have hx := C.1.1
  have hb := C.1.2.1
  unfold f_X9_menBy_b153 at h
  refine lv_iadd (pc := 153) hx hb dX9_menBy_153 ?_
  refine lv_istore (pc := 154) (lv' := [(5, .int (k0 + k1)), (0, .ref (z + 80 + 0)), (1, .int v1), (3, .int v3), (4, .int v4), (6, .int v6)]) hx hb dX9_menBy_154 hl (by decide) rfl (fun ls hl => ?_)
  refine lv_iinc (pc := 156) (v := (v6 + 1)) (lv' := [(6, .int (v6 + 1)), (5, .int (k0 + k1)), (0, .ref (z + 80 + 0)), (1, .int v1), (3, .int v3), (4, .int v4)]) hx hb dX9_menBy_156 hl (k := 5) rfl rfl (by decide) rfl (fun ls hl => ?_)
  refine lv_goto (pc := 159) (tgt := 64) hx hb dX9_menBy_159 (by decide) ?_
  exact hs64 σ (k0 + k1) (v6 + 1) hW hS (lv_sub hl [2, 3, 4, 5, 1, 0] rfl) h

theorem w_X9_menBy_b64 (C : CX cX9_menBy 9 RX9 (some .int) D ac p m c s args meth (z, aK, aV) (Ar (z + 80))) (hK : 2 ≤ K) {r : Int32} {σf : Mem}   (v1 : Int32) (v3 : Int32) (v4 : Int32)  : ∀ (n : Nat) (σ : Mem) (v5 : Int32) (v6 : Int32) {H : Heap} {locs : List Loc} {ls : Array Slot} (hW : WR D ac (z + 80) σ H) (hS : va_S (Ar (z + 80)) s.heap H locs) (hl : lv_has ls 9 [(0, .ref (z + 80 + 0)), (1, .int v1), (3, .int v3), (4, .int v4), (5, .int v5), (6, .int v6)]) (h : f_X9_menBy_b64 v1 v3 v4 n σ v5 v6 = some (r, σf)), W p l e (rma K 0 0) s m args below meth c H locs 0 0 (MQ below (QV D (Er ac (z + 80)) inR (z + 80) (some (.int r)) σf (Ar (z + 80))) args s 0 0 (Ar (z + 80))) (F0 m 64 ls []) := by
  have hx := C.1.1
  have hb := C.1.2.1
  intro n
  induction n with
  | zero =>
    intro σ v5 v6 H locs ls  hW hS hl h
    cases h
  | succ n ih =>
    intro σ v5 v6 H locs ls  hW hS hl h
    rw [f_X9_menBy_b64.eq_2] at h
    refine lv_iload (pc := 64) hx hb dX9_menBy_64 (lv_at hl 5 rfl) ?_
    refine lv_iload (pc := 66) hx hb dX9_menBy_66 (lv_at hl 3 rfl) ?_
    refine lv_icmp_ge (pc := 68) (tgt := 162) hx hb dX9_menBy_68 (by decide) (fun hc7 => ?_) (fun hc7 => ?_)
    · replace h := o_pos hc7 h
      refine lv_iload (pc := 162) hx hb dX9_menBy_162 (lv_at hl 4 rfl) ?_
      exact g_ret (pc := 164) C hW hS rfl dX9_menBy_164 (congrArg (fun q => some (Value.int q)) (o_r h).1) (o_r h).2
    · replace h := o_neg hc7 h
      refine lv_iload_n (pc := 71) hx hb dX9_menBy_71 rfl (lv_at hl 2 rfl) ?_
      refine lv_iconst (pc := 72) (v := 3) hx hb dX9_menBy_72 (by decide) ?_
      refine lv_iload (pc := 73) hx hb dX9_menBy_73 (lv_at hl 5 rfl) ?_
      refine lv_imul (pc := 75) hx hb dX9_menBy_75 ?_
      refine lv_iadd (pc := 76) hx hb dX9_menBy_76 ?_
      refine lv_istore (pc := 77) (lv' := [(7, .int (v3 + ((3 : Int32) * v6))), (0, .ref (z + 80 + 0)), (1, .int v1), (3, .int v3), (4, .int v4), (5, .int v5), (6, .int v6)]) hx hb dX9_menBy_77 hl (by decide) rfl (fun ls hl => ?_)
      refine lv_iload_n (pc := 79) hx hb dX9_menBy_79 rfl (lv_at hl 3 rfl) ?_
      refine lv_if_lt (pc := 80) (tgt := 102) hx hb dX9_menBy_80 (by decide) (fun hc8 => ?_) (fun hc8 => ?_)
      · replace h := o_pos hc8 h
        refine lv_bipush (pc := 102) (v := -12) hx hb dX9_menBy_102 (by decide) ?_
        exact g_ret (pc := 104) C hW hS rfl dX9_menBy_104 (congrArg (fun q => some (Value.int q)) (o_r h).1) (o_r h).2
      · replace h := o_neg hc8 h
        refine lv_iload (pc := 83) hx hb dX9_menBy_83 (lv_at hl 0 rfl) ?_
        refine lv_iload_n (pc := 85) hx hb dX9_menBy_85 rfl (lv_at hl 3 rfl) ?_
        refine lv_icmp_lt (pc := 86) (tgt := 102) hx hb dX9_menBy_86 (by decide) (fun hc9 => ?_) (fun hc9 => ?_)
        · replace h := o_pos hc9 h
          refine lv_bipush (pc := 102) (v := -12) hx hb dX9_menBy_102 (by decide) ?_
          exact g_ret (pc := 104) C hW hS rfl dX9_menBy_104 (congrArg (fun q => some (Value.int q)) (o_r h).1) (o_r h).2
        · replace h := o_neg hc9 h
          refine lv_iload (pc := 89) hx hb dX9_menBy_89 (lv_at hl 0 rfl) ?_
          refine lv_aload_n (pc := 91) hx hb dX9_menBy_91 rfl (lv_at hl 1 rfl) ?_
          refine gf_X9_20 (pc := 92) C hW fl_X9_37 dX9_menBy_92 ?_
          refine lv_iload_n (pc := 95) hx hb dX9_menBy_95 rfl (lv_at hl 2 rfl) ?_
          obtain ⟨hc10, h⟩ := o_chk h
          refine ir_ld (pc := 96) (k := 10) C hW (by decide) (by decide) rfl rfl (inb_in hc10) dX9_menBy_96 ?_
          refine lv_iconst (pc := 97) (v := 3) hx hb dX9_menBy_97 (by decide) ?_
          refine lv_isub (pc := 98) hx hb dX9_menBy_98 ?_
          refine lv_icmp_le (pc := 99) (tgt := 105) hx hb dX9_menBy_99 (by decide) (fun hc11 => ?_) (fun hc11 => ?_)
          · replace h := o_pos hc11 h
            refine lv_bipush (pc := 105) (v := 40) hx hb dX9_menBy_105 (by decide) ?_
            refine lv_iload_n (pc := 107) hx hb dX9_menBy_107 rfl (lv_at hl 2 rfl) ?_
            refine lv_imul (pc := 108) hx hb dX9_menBy_108 ?_
            refine lv_iload (pc := 109) hx hb dX9_menBy_109 (lv_at hl 0 rfl) ?_
            refine lv_iadd (pc := 111) hx hb dX9_menBy_111 ?_
            obtain ⟨x13, hxx13, h⟩ := o_d h
            refine g_top hxx13 ?_
            refine lv_istore (pc := 112) (lv' := [(8, .int x13), (7, .int (v3 + ((3 : Int32) * v6))), (0, .ref (z + 80 + 0)), (1, .int v1), (3, .int v3), (4, .int v4), (5, .int v5), (6, .int v6)]) hx hb dX9_menBy_112 hl (by decide) rfl (fun ls hl => ?_)
            refine lv_iload (pc := 114) hx hb dX9_menBy_114 (lv_at hl 6 rfl) ?_
            refine lv_aload_n (pc := 116) hx hb dX9_menBy_116 rfl (lv_at hl 2 rfl) ?_
            refine lv_aload_n (pc := 117) hx hb dX9_menBy_117 rfl (lv_at hl 2 rfl) ?_
            refine gf_X9_21 (pc := 118) C hW fl_X9_40 dX9_menBy_118 ?_
            refine lv_iload (pc := 121) hx hb dX9_menBy_121 (lv_at hl 0 rfl) ?_
            obtain ⟨hc13, h⟩ := o_chk h
            refine ir_ld (pc := 123) (k := 11) C hW (by decide) (by decide) rfl rfl (inb_in hc13) dX9_menBy_123 ?_
            refine lv_aload_n (pc := 124) hx hb dX9_menBy_124 rfl (lv_at hl 2 rfl) ?_
            refine gf_X9_21 (pc := 125) C hW fl_X9_40 dX9_menBy_125 ?_
            refine lv_iload (pc := 128) hx hb dX9_menBy_128 (lv_at hl 0 rfl) ?_
            refine lv_iconst (pc := 130) (v := 1) hx hb dX9_menBy_130 (by decide) ?_
            refine lv_iadd (pc := 131) hx hb dX9_menBy_131 ?_
            obtain ⟨hc14, h⟩ := o_chk h
            refine ir_ld (pc := 132) (k := 11) C hW (by decide) (by decide) rfl rfl (inb_in hc14) dX9_menBy_132 ?_
            refine lv_aload_n (pc := 133) hx hb dX9_menBy_133 rfl (lv_at hl 2 rfl) ?_
            refine gf_X9_21 (pc := 134) C hW fl_X9_40 dX9_menBy_134 ?_
            refine lv_iload (pc := 137) hx hb dX9_menBy_137 (lv_at hl 0 rfl) ?_
            refine lv_iconst (pc := 139) (v := 2) hx hb dX9_menBy_139 (by decide) ?_
            refine lv_iadd (pc := 140) hx hb dX9_menBy_140 ?_
            obtain ⟨hc15, h⟩ := o_chk h
            refine ir_ld (pc := 141) (k := 11) C hW (by decide) (by decide) rfl rfl (inb_in hc15) dX9_menBy_141 ?_
            obtain ⟨r18, σ19, hc16, h⟩ := o_b2 h
            refine g_virt (pc := 142) (st2 := [.int r18, .int v5]) (rest := [.int v5]) C hW hS (c_X9_man (K := K - 1) (by omega) hc16) mw_X9_331 inR0 Er_0 rfl (hRoom (by omega) (by decide)) rfl rfl rfl (Nat.le_of_ble_eq_true rfl) hl.1 dX9_menBy_142 (fun H locs hW hS => ?_)
            refine lv_if_lt (pc := 145) (tgt := 152) hx hb dX9_menBy_145 (by decide) (fun hc19 => ?_) (fun hc19 => ?_)
            · replace h := o_pos hc19 h
              refine lv_iconst (pc := 152) (v := 0) hx hb dX9_menBy_152 (by decide) ?_
              exact w_X9_menBy_b153 C hK σ19 v1 v3 v4 v6 v5 (0 : Int32) (f_X9_menBy_b64 v1 v3 v4 n) (fun σ v5 v6 {H : Heap} {locs : List Loc} {ls : Array Slot}  hW hS hl h => ih σ v5 v6 hW hS hl h) hW hS (lv_sub hl [2, 3, 4, 5, 7] rfl) h
            · replace h := o_neg hc19 h
              refine lv_iconst (pc := 148) (v := 1) hx hb dX9_menBy_148 (by decide) ?_
              refine lv_goto (pc := 149) (tgt := 153) hx hb dX9_menBy_149 (by decide) ?_
              exact w_X9_menBy_b153 C hK σ19 v1 v3 v4 v6 v5 (1 : Int32) (f_X9_menBy_b64 v1 v3 v4 n) (fun σ v5 v6 {H : Heap} {locs : List Loc} {ls : Array Slot}  hW hS hl h => ih σ v5 v6 hW hS hl h) hW hS (lv_sub hl [2, 3, 4, 5, 7] rfl) h
          · replace h := o_neg hc11 h
            refine lv_bipush (pc := 102) (v := -12) hx hb dX9_menBy_102 (by decide) ?_
            exact g_ret (pc := 104) C hW hS rfl dX9_menBy_104 (congrArg (fun q => some (Value.int q)) (o_r h).1) (o_r h).2

theorem c_X9_menBy {K : Nat}  (hK : 2 ≤ K) {σ : Mem} {σf : Mem} {v1 : Int32} {v2 : Int32} {v3 : Int32} {v4 : Int32} {r : Int32} (h : f_X9_menBy σ v1 v2 v3 v4 = some (r, σf)) : MC l D (Er ac (z + 80)) inR (z + 80) ac (z, aK, aV) (Ar (z + 80)) yX9_menBy cX9_menBy 9 (some .int) K [.ref (z + 80 + 0), .int v1, .int v2, .int v3, .int v4] σ (some (.int r)) σf := by
  refine MC.of (fun q hq => by have := hq.1; show z ≤ q; omega) (plainFor_of_name (by decide)) (Nat.le_of_ble_eq_true rfl) ?_
  intro p e s m below meth c args C hW ls hl
  replace hl : lv_has ls 9 [(0, .ref (z + 80 + 0)), (1, .int v1), (2, .int v2), (3, .int v3), (4, .int v4)] := hl
  have hS : va_S (Ar (z + 80)) s.heap s.heap [] := va_S.rf
  have hx := C.1.1
  have hb := C.1.2.1
  unfold f_X9_menBy at h
  refine lv_iload_n (pc := 0) hx hb dX9_menBy_0 rfl (lv_at hl 1 rfl) ?_
  refine lv_iconst (pc := 1) (v := 0) hx hb dX9_menBy_1 (by decide) ?_
  refine lv_iconst (pc := 2) (v := 3) hx hb dX9_menBy_2 (by decide) ?_
  refine g_stat (pc := 3) (st2 := [.int (f_X9_in v1 (0 : Int32) (3 : Int32))]) (rest := []) C hW hS (c_X9_in (K := K - 1) (by omega) rfl) mw_X9_84 (hRoom (by omega) (by decide)) rfl rfl rfl (Nat.le_of_ble_eq_true rfl) hl.1 dX9_menBy_3 (fun H locs hW hS => ?_)
  refine lv_if_eq (pc := 6) (tgt := 29) hx hb dX9_menBy_6 (by decide) (fun hc0 => ?_) (fun hc0 => ?_)
  · replace h := o_pos hc0 h
    refine lv_bipush (pc := 29) (v := -2) hx hb dX9_menBy_29 (by decide) ?_
    exact g_ret (pc := 31) C hW hS rfl dX9_menBy_31 (congrArg (fun q => some (Value.int q)) (o_r h).1) (o_r h).2
  · replace h := o_neg hc0 h
    refine lv_iload_n (pc := 9) hx hb dX9_menBy_9 rfl (lv_at hl 2 rfl) ?_
    refine lv_iconst (pc := 10) (v := 0) hx hb dX9_menBy_10 (by decide) ?_
    refine lv_iconst (pc := 11) (v := 2) hx hb dX9_menBy_11 (by decide) ?_
    refine g_stat (pc := 12) (st2 := [.int (f_X9_in v2 (0 : Int32) (2 : Int32))]) (rest := []) C hW hS (c_X9_in (K := K - 1) (by omega) rfl) mw_X9_84 (hRoom (by omega) (by decide)) rfl rfl rfl (Nat.le_of_ble_eq_true rfl) hl.1 dX9_menBy_12 (fun H locs hW hS => ?_)
    refine lv_if_eq (pc := 15) (tgt := 29) hx hb dX9_menBy_15 (by decide) (fun hc1 => ?_) (fun hc1 => ?_)
    · replace h := o_pos hc1 h
      refine lv_bipush (pc := 29) (v := -2) hx hb dX9_menBy_29 (by decide) ?_
      exact g_ret (pc := 31) C hW hS rfl dX9_menBy_31 (congrArg (fun q => some (Value.int q)) (o_r h).1) (o_r h).2
    · replace h := o_neg hc1 h
      refine lv_iload (pc := 18) hx hb dX9_menBy_18 (lv_at hl 4 rfl) ?_
      refine lv_iconst (pc := 20) (v := 0) hx hb dX9_menBy_20 (by decide) ?_
      refine lv_bipush (pc := 21) (v := 6) hx hb dX9_menBy_21 (by decide) ?_
      refine g_stat (pc := 23) (st2 := [.int (f_X9_in v4 (0 : Int32) (6 : Int32))]) (rest := []) C hW hS (c_X9_in (K := K - 1) (by omega) rfl) mw_X9_84 (hRoom (by omega) (by decide)) rfl rfl rfl (Nat.le_of_ble_eq_true rfl) hl.1 dX9_menBy_23 (fun H locs hW hS => ?_)
      refine lv_if_ne (pc := 26) (tgt := 32) hx hb dX9_menBy_26 (by decide) (fun hc2 => ?_) (fun hc2 => ?_)
      · replace h := o_neg hc2 h
        refine lv_aload_n (pc := 32) hx hb dX9_menBy_32 rfl (lv_at hl 0 rfl) ?_
        refine gf_X9_19 (pc := 33) C hW fl_X9_34 dX9_menBy_33 ?_
        refine lv_iload_n (pc := 36) hx hb dX9_menBy_36 rfl (lv_at hl 1 rfl) ?_
        obtain ⟨hc3, h⟩ := o_chk h
        refine ir_ld (pc := 37) (k := 9) C hW (by decide) (by decide) rfl rfl (inb_in hc3) dX9_menBy_37 ?_
        refine lv_iconst (pc := 38) (v := -1) hx hb dX9_menBy_38 (by decide) ?_
        refine lv_icmp_ne (pc := 39) (tgt := 45) hx hb dX9_menBy_39 (by decide) (fun hc4 => ?_) (fun hc4 => ?_)
        · replace h := o_neg hc4 h
          refine lv_aload_n (pc := 45) hx hb dX9_menBy_45 rfl (lv_at hl 0 rfl) ?_
          refine gf_X9_19 (pc := 46) C hW fl_X9_34 dX9_menBy_46 ?_
          refine lv_iload_n (pc := 49) hx hb dX9_menBy_49 rfl (lv_at hl 1 rfl) ?_
          obtain ⟨hc5, h⟩ := o_chk h
          refine ir_ld (pc := 50) (k := 9) C hW (by decide) (by decide) rfl rfl (inb_in hc5) dX9_menBy_50 ?_
          refine lv_iload_n (pc := 51) hx hb dX9_menBy_51 rfl (lv_at hl 2 rfl) ?_
          refine lv_icmp_eq (pc := 52) (tgt := 58) hx hb dX9_menBy_52 (by decide) (fun hc6 => ?_) (fun hc6 => ?_)
          · replace h := o_pos hc6 h
            refine lv_iconst (pc := 58) (v := 0) hx hb dX9_menBy_58 (by decide) ?_
            refine lv_istore (pc := 59) (lv' := [(5, .int (0 : Int32)), (0, .ref (z + 80 + 0)), (1, .int v1), (2, .int v2), (3, .int v3), (4, .int v4)]) hx hb dX9_menBy_59 hl (by decide) rfl (fun ls hl => ?_)
            refine lv_iconst (pc := 61) (v := 0) hx hb dX9_menBy_61 (by decide) ?_
            refine lv_istore (pc := 62) (lv' := [(6, .int (0 : Int32)), (5, .int (0 : Int32)), (0, .ref (z + 80 + 0)), (1, .int v1), (2, .int v2), (3, .int v3), (4, .int v4)]) hx hb dX9_menBy_62 hl (by decide) rfl (fun ls hl => ?_)
            exact w_X9_menBy_b64 C hK v1 v3 v4 FU σ (0 : Int32) (0 : Int32) hW hS (lv_sub hl [2, 3, 5, 6, 1, 0] rfl) h
          · replace h := o_neg hc6 h
            refine lv_bipush (pc := 55) (v := -13) hx hb dX9_menBy_55 (by decide) ?_
            exact g_ret (pc := 57) C hW hS rfl dX9_menBy_57 (congrArg (fun q => some (Value.int q)) (o_r h).1) (o_r h).2
        · replace h := o_pos hc4 h
          refine lv_bipush (pc := 42) (v := -11) hx hb dX9_menBy_42 (by decide) ?_
          exact g_ret (pc := 44) C hW hS rfl dX9_menBy_44 (congrArg (fun q => some (Value.int q)) (o_r h).1) (o_r h).2
      · replace h := o_pos hc2 h
        refine lv_bipush (pc := 29) (v := -2) hx hb dX9_menBy_29 (by decide) ?_
        exact g_ret (pc := 31) C hW hS rfl dX9_menBy_31 (congrArg (fun q => some (Value.int q)) (o_r h).1) (o_r h).2

theorem w_X9_isUnder_b19 (C : CX cX9_isUnder 2 RX9 (some .boolean) D ac p m c s args meth (z, aK, aV) (Ar (z + 80))) (hK : 0 ≤ K) {r : Int32}   {σ : Mem} (v0 : Int32) (v1 : Int32)  {H : Heap} {locs : List Loc} {ls : Array Slot} (hW : WR D ac (z + 80) σ H) (hS : va_S (Ar (z + 80)) s.heap H locs) (hl : lv_has ls 2 [(0, .int v0), (1, .int v1)]) (h : f_X9_isUnder_b19 v0 v1 = r) : W p l e (rma K 0 0) s m args below meth c H locs 0 0 (MQ below (QV D (Er ac (z + 80)) inR (z + 80) (some (.int r)) σ (Ar (z + 80))) args s 0 0 (Ar (z + 80))) (F0 m 19 ls []) := by
  have hx := C.1.1
  have hb := C.1.2.1
  unfold f_X9_isUnder_b19 at h
  refine lv_iload_n (pc := 19) hx hb dX9_isUnder_19 rfl (lv_at hl 1 rfl) ?_
  refine lv_iconst (pc := 20) (v := 2) hx hb dX9_isUnder_20 (by decide) ?_
  refine lv_icmp_ne (pc := 21) (tgt := 33) hx hb dX9_isUnder_21 (by decide) (fun hc4 => ?_) (fun hc4 => ?_)
  · replace h := o_neg hc4 h
    refine lv_iconst (pc := 33) (v := 0) hx hb dX9_isUnder_33 (by decide) ?_
    exact g_ret (pc := 34) C hW hS rfl dX9_isUnder_34 (congrArg (fun q => some (Value.int q)) h.symm) rfl
  · replace h := o_pos hc4 h
    refine lv_iload_n (pc := 24) hx hb dX9_isUnder_24 rfl (lv_at hl 0 rfl) ?_
    refine lv_iconst (pc := 25) (v := 4) hx hb dX9_isUnder_25 (by decide) ?_
    refine lv_icmp_ne (pc := 26) (tgt := 33) hx hb dX9_isUnder_26 (by decide) (fun hc5 => ?_) (fun hc5 => ?_)
    · replace h := o_neg hc5 h
      refine lv_iconst (pc := 33) (v := 0) hx hb dX9_isUnder_33 (by decide) ?_
      exact g_ret (pc := 34) C hW hS rfl dX9_isUnder_34 (congrArg (fun q => some (Value.int q)) h.symm) rfl
    · replace h := o_pos hc5 h
      refine lv_iconst (pc := 29) (v := 1) hx hb dX9_isUnder_29 (by decide) ?_
      refine lv_goto (pc := 30) (tgt := 34) hx hb dX9_isUnder_30 (by decide) ?_
      exact g_ret (pc := 34) C hW hS rfl dX9_isUnder_34 (congrArg (fun q => some (Value.int q)) h.symm) rfl

theorem c_X9_isUnder {K : Nat}  (hK : 0 ≤ K) {σ : Mem} {v0 : Int32} {v1 : Int32} {r : Int32} (h : f_X9_isUnder v0 v1 = r) : MC l D (Er ac (z + 80)) inR (z + 80) ac (z, aK, aV) (Ar (z + 80)) yX9_isUnder cX9_isUnder 2 (some .boolean) K [.int v0, .int v1] σ (some (.int r)) σ := by
  refine MC.of (fun q hq => by have := hq.1; show z ≤ q; omega) (plainFor_of_name (by decide)) (Nat.le_of_ble_eq_true rfl) ?_
  intro p e s m below meth c args C hW ls hl
  replace hl : lv_has ls 2 [(0, .int v0), (1, .int v1)] := hl
  have hS : va_S (Ar (z + 80)) s.heap s.heap [] := va_S.rf
  have hx := C.1.1
  have hb := C.1.2.1
  unfold f_X9_isUnder at h
  refine lv_iload_n (pc := 0) hx hb dX9_isUnder_0 rfl (lv_at hl 1 rfl) ?_
  refine lv_if_eq (pc := 1) (tgt := 29) hx hb dX9_isUnder_1 (by decide) (fun hc0 => ?_) (fun hc0 => ?_)
  · replace h := o_pos hc0 h
    refine lv_iconst (pc := 29) (v := 1) hx hb dX9_isUnder_29 (by decide) ?_
    refine lv_goto (pc := 30) (tgt := 34) hx hb dX9_isUnder_30 (by decide) ?_
    exact g_ret (pc := 34) C hW hS rfl dX9_isUnder_34 (congrArg (fun q => some (Value.int q)) h.symm) rfl
  · replace h := o_neg hc0 h
    refine lv_iload_n (pc := 4) hx hb dX9_isUnder_4 rfl (lv_at hl 0 rfl) ?_
    refine lv_iload_n (pc := 5) hx hb dX9_isUnder_5 rfl (lv_at hl 1 rfl) ?_
    refine lv_icmp_eq (pc := 6) (tgt := 29) hx hb dX9_isUnder_6 (by decide) (fun hc1 => ?_) (fun hc1 => ?_)
    · replace h := o_pos hc1 h
      refine lv_iconst (pc := 29) (v := 1) hx hb dX9_isUnder_29 (by decide) ?_
      refine lv_goto (pc := 30) (tgt := 34) hx hb dX9_isUnder_30 (by decide) ?_
      exact g_ret (pc := 34) C hW hS rfl dX9_isUnder_34 (congrArg (fun q => some (Value.int q)) h.symm) rfl
    · replace h := o_neg hc1 h
      refine lv_iload_n (pc := 9) hx hb dX9_isUnder_9 rfl (lv_at hl 1 rfl) ?_
      refine lv_iconst (pc := 10) (v := 1) hx hb dX9_isUnder_10 (by decide) ?_
      refine lv_icmp_ne (pc := 11) (tgt := 19) hx hb dX9_isUnder_11 (by decide) (fun hc2 => ?_) (fun hc2 => ?_)
      · replace h := o_neg hc2 h
        exact w_X9_isUnder_b19 C hK v0 v1 hW hS (lv_sub hl [0, 1] rfl) h
      · replace h := o_pos hc2 h
        refine lv_iload_n (pc := 14) hx hb dX9_isUnder_14 rfl (lv_at hl 0 rfl) ?_
        refine lv_iconst (pc := 15) (v := 3) hx hb dX9_isUnder_15 (by decide) ?_
        refine lv_icmp_eq (pc := 16) (tgt := 29) hx hb dX9_isUnder_16 (by decide) (fun hc3 => ?_) (fun hc3 => ?_)
        · replace h := o_pos hc3 h
          refine lv_iconst (pc := 29) (v := 1) hx hb dX9_isUnder_29 (by decide) ?_
          refine lv_goto (pc := 30) (tgt := 34) hx hb dX9_isUnder_30 (by decide) ?_
          exact g_ret (pc := 34) C hW hS rfl dX9_isUnder_34 (congrArg (fun q => some (Value.int q)) h.symm) rfl
        · replace h := o_neg hc3 h
          exact w_X9_isUnder_b19 C hK v0 v1 hW hS (lv_sub hl [0, 1] rfl) h

theorem c_X9_taken {K : Nat}  (hK : 1 ≤ K) {σ : Mem} {v1 : Int32} {v2 : Int32} {r : Int32} (h : f_X9_taken σ v1 v2 = some r) : MC l D (Er ac (z + 80)) inR (z + 80) ac (z, aK, aV) (Ar (z + 80)) yX9_taken cX9_taken 3 (some .int) K [.ref (z + 80 + 0), .int v1, .int v2] σ (some (.int r)) σ := by
  refine MC.of (fun q hq => by have := hq.1; show z ≤ q; omega) (plainFor_of_name (by decide)) (Nat.le_of_ble_eq_true rfl) ?_
  intro p e s m below meth c args C hW ls hl
  replace hl : lv_has ls 3 [(0, .ref (z + 80 + 0)), (1, .int v1), (2, .int v2)] := hl
  have hS : va_S (Ar (z + 80)) s.heap s.heap [] := va_S.rf
  have hx := C.1.1
  have hb := C.1.2.1
  unfold f_X9_taken at h
  refine lv_iload_n (pc := 0) hx hb dX9_taken_0 rfl (lv_at hl 2 rfl) ?_
  refine lv_iconst (pc := 1) (v := 0) hx hb dX9_taken_1 (by decide) ?_
  refine lv_bipush (pc := 2) (v := 6) hx hb dX9_taken_2 (by decide) ?_
  refine g_stat (pc := 4) (st2 := [.int (f_X9_in v2 (0 : Int32) (6 : Int32))]) (rest := []) C hW hS (c_X9_in (K := K - 1) (by omega) rfl) mw_X9_84 (hRoom (by omega) (by decide)) rfl rfl rfl (Nat.le_of_ble_eq_true rfl) hl.1 dX9_taken_4 (fun H locs hW hS => ?_)
  refine lv_if_ne (pc := 7) (tgt := 13) hx hb dX9_taken_7 (by decide) (fun hc0 => ?_) (fun hc0 => ?_)
  · replace h := o_neg hc0 h
    refine lv_iload_n (pc := 13) hx hb dX9_taken_13 rfl (lv_at hl 1 rfl) ?_
    refine lv_iconst (pc := 14) (v := 0) hx hb dX9_taken_14 (by decide) ?_
    refine lv_bipush (pc := 15) (v := 13) hx hb dX9_taken_15 (by decide) ?_
    refine g_stat (pc := 17) (st2 := [.int (f_X9_in v1 (0 : Int32) (13 : Int32))]) (rest := []) C hW hS (c_X9_in (K := K - 1) (by omega) rfl) mw_X9_84 (hRoom (by omega) (by decide)) rfl rfl rfl (Nat.le_of_ble_eq_true rfl) hl.1 dX9_taken_17 (fun H locs hW hS => ?_)
    refine lv_if_ne (pc := 20) (tgt := 26) hx hb dX9_taken_20 (by decide) (fun hc1 => ?_) (fun hc1 => ?_)
    · replace h := o_neg hc1 h
      refine lv_iload_n (pc := 26) hx hb dX9_taken_26 rfl (lv_at hl 1 rfl) ?_
      refine lv_bipush (pc := 27) (v := 6) hx hb dX9_taken_27 (by decide) ?_
      refine lv_icmp_lt (pc := 29) (tgt := 74) hx hb dX9_taken_29 (by decide) (fun hc2 => ?_) (fun hc2 => ?_)
      · replace h := o_pos hc2 h
        refine lv_iload_n (pc := 74) hx hb dX9_taken_74 rfl (lv_at hl 1 rfl) ?_
        refine lv_aload_n (pc := 75) hx hb dX9_taken_75 rfl (lv_at hl 0 rfl) ?_
        refine gf_X9_0 (pc := 76) C hW fl_X9_81 dX9_taken_76 ?_
        refine lv_icmp_lt (pc := 79) (tgt := 87) hx hb dX9_taken_79 (by decide) (fun hc3 => ?_) (fun hc3 => ?_)
        · replace h := o_pos hc3 h
          refine lv_iload_n (pc := 87) hx hb dX9_taken_87 rfl (lv_at hl 2 rfl) ?_
          refine lv_bipush (pc := 88) (v := 6) hx hb dX9_taken_88 (by decide) ?_
          refine lv_icmp_ge (pc := 90) (tgt := 110) hx hb dX9_taken_90 (by decide) (fun hc4 => ?_) (fun hc4 => ?_)
          · replace h := o_pos hc4 h
            refine lv_bipush (pc := 110) (v := -13) hx hb dX9_taken_110 (by decide) ?_
            exact g_ret (pc := 112) C hW hS rfl dX9_taken_112 (congrArg (fun q => some (Value.int q)) (Option.some.inj h).symm) rfl
          · replace h := o_neg hc4 h
            refine lv_aload_n (pc := 93) hx hb dX9_taken_93 rfl (lv_at hl 0 rfl) ?_
            refine gf_X9_1 (pc := 94) C hW fl_X9_7 dX9_taken_94 ?_
            refine lv_iload_n (pc := 97) hx hb dX9_taken_97 rfl (lv_at hl 1 rfl) ?_
            obtain ⟨hc5, h⟩ := o_chk h
            refine ir_ld (pc := 98) (k := 1) C hW (by decide) (by decide) rfl rfl (inb_in hc5) dX9_taken_98 ?_
            refine lv_iload_n (pc := 99) hx hb dX9_taken_99 rfl (lv_at hl 2 rfl) ?_
            refine g_stat (pc := 100) (st2 := [.int (f_X9_isUnder (σ 1 (v1.toNatClampNeg)) v2)]) (rest := []) C hW hS (c_X9_isUnder (K := K - 1) (by omega) rfl) mw_X9_334 (hRoom (by omega) (by decide)) rfl rfl rfl (Nat.le_of_ble_eq_true rfl) hl.1 dX9_taken_100 (fun H locs hW hS => ?_)
            refine lv_if_eq (pc := 103) (tgt := 110) hx hb dX9_taken_103 (by decide) (fun hc6 => ?_) (fun hc6 => ?_)
            · replace h := o_pos hc6 h
              refine lv_bipush (pc := 110) (v := -13) hx hb dX9_taken_110 (by decide) ?_
              exact g_ret (pc := 112) C hW hS rfl dX9_taken_112 (congrArg (fun q => some (Value.int q)) (Option.some.inj h).symm) rfl
            · replace h := o_neg hc6 h
              refine lv_iload_n (pc := 106) hx hb dX9_taken_106 rfl (lv_at hl 1 rfl) ?_
              refine lv_goto (pc := 107) (tgt := 112) hx hb dX9_taken_107 (by decide) ?_
              exact g_ret (pc := 112) C hW hS rfl dX9_taken_112 (congrArg (fun q => some (Value.int q)) (Option.some.inj h).symm) rfl
        · replace h := o_neg hc3 h
          refine lv_bipush (pc := 82) (v := -11) hx hb dX9_taken_82 (by decide) ?_
          refine lv_goto (pc := 84) (tgt := 112) hx hb dX9_taken_84 (by decide) ?_
          exact g_ret (pc := 112) C hW hS rfl dX9_taken_112 (congrArg (fun q => some (Value.int q)) (Option.some.inj h).symm) rfl
      · replace h := o_neg hc2 h
        refine lv_iload_n (pc := 32) hx hb dX9_taken_32 rfl (lv_at hl 1 rfl) ?_
        refine lv_bipush (pc := 33) (v := 6) hx hb dX9_taken_33 (by decide) ?_
        refine lv_isub (pc := 35) hx hb dX9_taken_35 ?_
        refine lv_aload_n (pc := 36) hx hb dX9_taken_36 rfl (lv_at hl 0 rfl) ?_
        refine gf_X9_4 (pc := 37) C hW fl_X9_88 dX9_taken_37 ?_
        refine lv_icmp_lt (pc := 40) (tgt := 48) hx hb dX9_taken_40 (by decide) (fun hc7 => ?_) (fun hc7 => ?_)
        · replace h := o_pos hc7 h
          refine lv_iload_n (pc := 48) hx hb dX9_taken_48 rfl (lv_at hl 2 rfl) ?_
          refine lv_bipush (pc := 49) (v := 6) hx hb dX9_taken_49 (by decide) ?_
          refine lv_icmp_ne (pc := 51) (tgt := 71) hx hb dX9_taken_51 (by decide) (fun hc8 => ?_) (fun hc8 => ?_)
          · replace h := o_neg hc8 h
            refine lv_bipush (pc := 71) (v := -13) hx hb dX9_taken_71 (by decide) ?_
            exact g_ret (pc := 73) C hW hS rfl dX9_taken_73 (congrArg (fun q => some (Value.int q)) (Option.some.inj h).symm) rfl
          · replace h := o_pos hc8 h
            refine lv_aload_n (pc := 54) hx hb dX9_taken_54 rfl (lv_at hl 0 rfl) ?_
            refine gf_X9_5 (pc := 55) C hW fl_X9_19 dX9_taken_55 ?_
            refine lv_bipush (pc := 58) (v := 6) hx hb dX9_taken_58 (by decide) ?_
            refine lv_iload_n (pc := 60) hx hb dX9_taken_60 rfl (lv_at hl 1 rfl) ?_
            refine lv_bipush (pc := 61) (v := 6) hx hb dX9_taken_61 (by decide) ?_
            refine lv_isub (pc := 63) hx hb dX9_taken_63 ?_
            refine lv_imul (pc := 64) hx hb dX9_taken_64 ?_
            refine lv_iconst (pc := 65) (v := 2) hx hb dX9_taken_65 (by decide) ?_
            refine lv_iadd (pc := 66) hx hb dX9_taken_66 ?_
            obtain ⟨hc9, h⟩ := o_chk h
            refine ir_ld (pc := 67) (k := 4) C hW (by decide) (by decide) rfl rfl (inb_in hc9) dX9_taken_67 ?_
            refine lv_goto (pc := 68) (tgt := 73) hx hb dX9_taken_68 (by decide) ?_
            exact g_ret (pc := 73) C hW hS rfl dX9_taken_73 (congrArg (fun q => some (Value.int q)) (Option.some.inj h).symm) rfl
        · replace h := o_neg hc7 h
          refine lv_bipush (pc := 43) (v := -11) hx hb dX9_taken_43 (by decide) ?_
          refine lv_goto (pc := 45) (tgt := 73) hx hb dX9_taken_45 (by decide) ?_
          exact g_ret (pc := 73) C hW hS rfl dX9_taken_73 (congrArg (fun q => some (Value.int q)) (Option.some.inj h).symm) rfl
    · replace h := o_pos hc1 h
      refine lv_bipush (pc := 23) (v := -12) hx hb dX9_taken_23 (by decide) ?_
      exact g_ret (pc := 25) C hW hS rfl dX9_taken_25 (congrArg (fun q => some (Value.int q)) (Option.some.inj h).symm) rfl
  · replace h := o_pos hc0 h
    refine lv_bipush (pc := 10) (v := -2) hx hb dX9_taken_10 (by decide) ?_
    exact g_ret (pc := 12) C hW hS rfl dX9_taken_12 (congrArg (fun q => some (Value.int q)) (Option.some.inj h).symm) rfl

end
