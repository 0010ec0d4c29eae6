section
variable {p : Program} {l : Launch} {e : Env} {s : State} {m : MethodId} {args : Array Value} {below : List Frame} {meth : Method} {c : Code} {D : va_G} {ac : Nat → ClassId} {z : Nat} {aK aV : Nat → Nat} {K : Nat}

theorem c_X9_two {K : Nat}  (hK : 0 ≤ K) {σ : Mem} {v0 : Int32} {v1 : Int32} {v2 : Int32} {r : Int32} (h : f_X9_two v0 v1 v2 = r) : MC l D (Er ac (z + 80)) inR (z + 80) ac (z, aK, aV) (Ar (z + 80)) yX9_two cX9_two 3 (some .int) K [.int v0, .int v1, .int v2] σ (some (.int r)) σ := by
  refine MC.of (fun q hq => by have := hq.1; show z ≤ q; omega) (plainFor_of_name (by decide)) (Nat.le_of_ble_eq_true rfl) ?_
  intro p e s m below meth c args C hW ls hl
  replace hl : lv_has ls 3 [(0, .int v0), (1, .int v1), (2, .int v2)] := hl
  have hS : va_S (Ar (z + 80)) s.heap s.heap [] := va_S.rf
  have hx := C.1.1
  have hb := C.1.2.1
  unfold f_X9_two at h
  refine lv_iload_n (pc := 0) hx hb dX9_two_0 rfl (lv_at hl 0 rfl) ?_
  by_cases hc0 : v0 = 11
  · replace h := o_pos hc0 h
    refine lv_tableIn (pc := 1) (off := 43) (tgt := 44) hx hb dX9_two_1 (by rw [hc0]; decide) (by rw [hc0]; decide) (by rw [hc0]; rfl) (by decide) ?_
    refine lv_iload_n (pc := 44) hx hb dX9_two_44 rfl (lv_at hl 1 rfl) ?_
    refine lv_if_ne (pc := 45) (tgt := 52) hx hb dX9_two_45 (by decide) (fun hc1 => ?_) (fun hc1 => ?_)
    · replace h := o_neg hc1 h
      refine lv_iconst (pc := 52) (v := 1) hx hb dX9_two_52 (by decide) ?_
      refine lv_goto (pc := 53) (tgt := 57) hx hb dX9_two_53 (by decide) ?_
      exact g_ret (pc := 57) C hW hS rfl dX9_two_57 (congrArg (fun q => some (Value.int q)) h.symm) rfl
    · replace h := o_pos hc1 h
      refine lv_iload_n (pc := 48) hx hb dX9_two_48 rfl (lv_at hl 2 rfl) ?_
      refine lv_if_eq (pc := 49) (tgt := 56) hx hb dX9_two_49 (by decide) (fun hc2 => ?_) (fun hc2 => ?_)
      · replace h := o_pos hc2 h
        refine lv_iconst (pc := 56) (v := 0) hx hb dX9_two_56 (by decide) ?_
        exact g_ret (pc := 57) C hW hS rfl dX9_two_57 (congrArg (fun q => some (Value.int q)) h.symm) rfl
      · replace h := o_neg hc2 h
        refine lv_iconst (pc := 52) (v := 1) hx hb dX9_two_52 (by decide) ?_
        refine lv_goto (pc := 53) (tgt := 57) hx hb dX9_two_53 (by decide) ?_
        exact g_ret (pc := 57) C hW hS rfl dX9_two_57 (congrArg (fun q => some (Value.int q)) h.symm) rfl
  replace h := o_neg hc0 h
  by_cases hc3 : v0 = 12
  · replace h := o_pos hc3 h
    refine lv_tableIn (pc := 1) (off := 57) (tgt := 58) hx hb dX9_two_1 (by rw [hc3]; decide) (by rw [hc3]; decide) (by rw [hc3]; rfl) (by decide) ?_
    refine lv_iload_n (pc := 58) hx hb dX9_two_58 rfl (lv_at hl 1 rfl) ?_
    refine lv_if_eq (pc := 59) (tgt := 70) hx hb dX9_two_59 (by decide) (fun hc4 => ?_) (fun hc4 => ?_)
    · replace h := o_pos hc4 h
      refine lv_iconst (pc := 70) (v := 0) hx hb dX9_two_70 (by decide) ?_
      exact g_ret (pc := 71) C hW hS rfl dX9_two_71 (congrArg (fun q => some (Value.int q)) h.symm) rfl
    · replace h := o_neg hc4 h
      refine lv_iload_n (pc := 62) hx hb dX9_two_62 rfl (lv_at hl 2 rfl) ?_
      refine lv_if_eq (pc := 63) (tgt := 70) hx hb dX9_two_63 (by decide) (fun hc5 => ?_) (fun hc5 => ?_)
      · replace h := o_pos hc5 h
        refine lv_iconst (pc := 70) (v := 0) hx hb dX9_two_70 (by decide) ?_
        exact g_ret (pc := 71) C hW hS rfl dX9_two_71 (congrArg (fun q => some (Value.int q)) h.symm) rfl
      · replace h := o_neg hc5 h
        refine lv_iconst (pc := 66) (v := 1) hx hb dX9_two_66 (by decide) ?_
        refine lv_goto (pc := 67) (tgt := 71) hx hb dX9_two_67 (by decide) ?_
        exact g_ret (pc := 71) C hW hS rfl dX9_two_71 (congrArg (fun q => some (Value.int q)) h.symm) rfl
  replace h := o_neg hc3 h
  by_cases hc6 : v0 = 14
  · replace h := o_pos hc6 h
    refine lv_tableIn (pc := 1) (off := 71) (tgt := 72) hx hb dX9_two_1 (by rw [hc6]; decide) (by rw [hc6]; decide) (by rw [hc6]; rfl) (by decide) ?_
    refine lv_iload_n (pc := 72) hx hb dX9_two_72 rfl (lv_at hl 1 rfl) ?_
    refine lv_iload_n (pc := 73) hx hb dX9_two_73 rfl (lv_at hl 2 rfl) ?_
    refine lv_icmp_ge (pc := 74) (tgt := 81) hx hb dX9_two_74 (by decide) (fun hc7 => ?_) (fun hc7 => ?_)
    · replace h := o_pos hc7 h
      refine lv_iconst (pc := 81) (v := 0) hx hb dX9_two_81 (by decide) ?_
      exact g_ret (pc := 82) C hW hS rfl dX9_two_82 (congrArg (fun q => some (Value.int q)) h.symm) rfl
    · replace h := o_neg hc7 h
      refine lv_iconst (pc := 77) (v := 1) hx hb dX9_two_77 (by decide) ?_
      refine lv_goto (pc := 78) (tgt := 82) hx hb dX9_two_78 (by decide) ?_
      exact g_ret (pc := 82) C hW hS rfl dX9_two_82 (congrArg (fun q => some (Value.int q)) h.symm) rfl
  replace h := o_neg hc6 h
  by_cases hc8 : v0 = 15
  · replace h := o_pos hc8 h
    refine lv_tableIn (pc := 1) (off := 82) (tgt := 83) hx hb dX9_two_1 (by rw [hc8]; decide) (by rw [hc8]; decide) (by rw [hc8]; rfl) (by decide) ?_
    refine lv_iload_n (pc := 83) hx hb dX9_two_83 rfl (lv_at hl 1 rfl) ?_
    refine lv_iload_n (pc := 84) hx hb dX9_two_84 rfl (lv_at hl 2 rfl) ?_
    refine lv_icmp_ne (pc := 85) (tgt := 92) hx hb dX9_two_85 (by decide) (fun hc9 => ?_) (fun hc9 => ?_)
    · replace h := o_neg hc9 h
      refine lv_iconst (pc := 92) (v := 0) hx hb dX9_two_92 (by decide) ?_
      exact g_ret (pc := 93) C hW hS rfl dX9_two_93 (congrArg (fun q => some (Value.int q)) h.symm) rfl
    · replace h := o_pos hc9 h
      refine lv_iconst (pc := 88) (v := 1) hx hb dX9_two_88 (by decide) ?_
      refine lv_goto (pc := 89) (tgt := 93) hx hb dX9_two_89 (by decide) ?_
      exact g_ret (pc := 93) C hW hS rfl dX9_two_93 (congrArg (fun q => some (Value.int q)) h.symm) rfl
  replace h := o_neg hc8 h
  by_cases hc10 : v0 = 16
  · replace h := o_pos hc10 h
    refine lv_tableIn (pc := 1) (off := 93) (tgt := 94) hx hb dX9_two_1 (by rw [hc10]; decide) (by rw [hc10]; decide) (by rw [hc10]; rfl) (by decide) ?_
    refine lv_iload_n (pc := 94) hx hb dX9_two_94 rfl (lv_at hl 1 rfl) ?_
    refine lv_iload_n (pc := 95) hx hb dX9_two_95 rfl (lv_at hl 2 rfl) ?_
    refine lv_iadd (pc := 96) hx hb dX9_two_96 ?_
    exact g_ret (pc := 97) C hW hS rfl dX9_two_97 (congrArg (fun q => some (Value.int q)) h.symm) rfl
  replace h := o_neg hc10 h
  by_cases hc11 : v0 = 17
  · replace h := o_pos hc11 h
    refine lv_tableIn (pc := 1) (off := 97) (tgt := 98) hx hb dX9_two_1 (by rw [hc11]; decide) (by rw [hc11]; decide) (by rw [hc11]; rfl) (by decide) ?_
    refine lv_iload_n (pc := 98) hx hb dX9_two_98 rfl (lv_at hl 1 rfl) ?_
    refine lv_iload_n (pc := 99) hx hb dX9_two_99 rfl (lv_at hl 2 rfl) ?_
    refine lv_isub (pc := 100) hx hb dX9_two_100 ?_
    exact g_ret (pc := 101) C hW hS rfl dX9_two_101 (congrArg (fun q => some (Value.int q)) h.symm) rfl
  replace h := o_neg hc11 h
  refine g_swd (pc := 1) (tgt := 102) (lo := 11) (hi := 17) hx hb dX9_two_1 (by decide) ?_ ?_
  · intro h1 h2
    have hzhc0 := lv_neT (k := 11) (a := 11) hc0 (by decide)
    have hzhc3 := lv_neT (k := 12) (a := 12) hc3 (by decide)
    have hzhc6 := lv_neT (k := 14) (a := 14) hc6 (by decide)
    have hzhc8 := lv_neT (k := 15) (a := 15) hc8 (by decide)
    have hzhc10 := lv_neT (k := 16) (a := 16) hc10 (by decide)
    have hzhc11 := lv_neT (k := 17) (a := 17) hc11 (by decide)
    have h3 : (v0).toInt = 13 := by omega
    rw [h3]; decide
  · skip
    refine lv_iload_n (pc := 102) hx hb dX9_two_102 rfl (lv_at hl 1 rfl) ?_
    refine lv_iload_n (pc := 103) hx hb dX9_two_103 rfl (lv_at hl 2 rfl) ?_
    refine lv_imul (pc := 104) hx hb dX9_two_104 ?_
    exact g_ret (pc := 105) C hW hS rfl dX9_two_105 (congrArg (fun q => some (Value.int q)) h.symm) rfl

theorem w_X9_says_b191 (C : CX cX9_says 5 RX9 (some .int) D ac p m c s args meth (z, aK, aV) (Ar (z + 80))) (hK : 1 ≤ K) {r : Int32} {σf : Mem}   (σ : Mem) (v1 : Int32) (v2 : Int32) (v3 : Int32) (s16 : Mem → Int32 → Int32 → Option (Int32 × Mem)) (hs16 : ∀ (σ : Mem) (v2 : Int32) (v3 : Int32) {H : Heap} {locs : List Loc} {ls : Array Slot} (_ : WR D ac (z + 80) σ H) (_ : va_S (Ar (z + 80)) s.heap H locs) (_ : lv_has ls 5 [(0, .ref (z + 80 + 0)), (1, .int v1), (2, .int v2), (3, .int v3)]) (_ : s16 σ v2 v3 = some (r, σf)), W p l e (rma K 0 0) s m args below meth c H locs 0 0 (MQ below (QV D (Er ac (z + 80)) inR (z + 80) (some (.int r)) σf (Ar (z + 80))) args s 0 0 (Ar (z + 80))) (F0 m 16 ls [])) {H : Heap} {locs : List Loc} {ls : Array Slot} (hW : WR D ac (z + 80) σ H) (hS : va_S (Ar (z + 80)) s.heap H locs) (hl : lv_has ls 5 [(0, .ref (z + 80 + 0)), (1, .int v1), (2, .int v2), (3, .int v3)]) (h : f_X9_says_b191 s16 σ v1 v2 v3 = some (r, σf)) : W p l e (rma K 0 0) s m args below meth c H locs 0 0 (MQ below (QV D (Er ac (z + 80)) inR (z + 80) (some (.int r)) σf (Ar (z + 80))) args s 0 0 (Ar (z + 80))) (F0 m 191 ls []) := by
  have hx := C.1.1
  have hb := C.1.2.1
  unfold f_X9_says_b191 at h
  refine lv_iinc (pc := 191) (v := (v3 + 1)) (lv' := [(3, .int (v3 + 1)), (0, .ref (z + 80 + 0)), (1, .int v1), (2, .int v2)]) hx hb dX9_says_191 hl (k := 3) rfl rfl (by decide) rfl (fun ls hl => ?_)
  refine lv_goto (pc := 194) (tgt := 16) hx hb dX9_says_194 (by decide) ?_
  exact hs16 σ v2 (v3 + 1) hW hS (lv_sub hl [1, 2, 3, 0] rfl) h

theorem w_X9_says_b93 (C : CX cX9_says 5 RX9 (some .int) D ac p m c s args meth (z, aK, aV) (Ar (z + 80))) (hK : 1 ≤ K) {r : Int32} {σf : Mem}   (σ : Mem) (v1 : Int32) (v2 : Int32) (v3 : Int32) (k1 : Int32) (k2 : Int32) (s16 : Mem → Int32 → Int32 → Option (Int32 × Mem)) (hs16 : ∀ (σ : Mem) (v2 : Int32) (v3 : Int32) {H : Heap} {locs : List Loc} {ls : Array Slot} (_ : WR D ac (z + 80) σ H) (_ : va_S (Ar (z + 80)) s.heap H locs) (_ : lv_has ls 5 [(0, .ref (z + 80 + 0)), (1, .int v1), (2, .int v2), (3, .int v3)]) (_ : s16 σ v2 v3 = some (r, σf)), W p l e (rma K 0 0) s m args below meth c H locs 0 0 (MQ below (QV D (Er ac (z + 80)) inR (z + 80) (some (.int r)) σf (Ar (z + 80))) args s 0 0 (Ar (z + 80))) (F0 m 16 ls [])) {H : Heap} {locs : List Loc} {ls : Array Slot} (hW : WR D ac (z + 80) σ H) (hS : va_S (Ar (z + 80)) s.heap H locs) (hl : lv_has ls 5 [(0, .ref (z + 80 + 0)), (1, .int v1), (2, .int v2), (3, .int v3)]) (h : f_X9_says_b93 s16 σ v1 v2 v3 k1 k2 = some (r, σf)) : W p l e (rma K 0 0) s m args below meth c H locs 0 0 (MQ below (QV D (Er ac (z + 80)) inR (z + 80) (some (.int r)) σf (Ar (z + 80))) args s 0 0 (Ar (z + 80))) (F0 m 93 ls [.int k2, .int k1, .ref (z + 80 + 15)]) := by
  have hx := C.1.1
  have hb := C.1.2.1
  unfold f_X9_says_b93 at h
  obtain ⟨hc21, h⟩ := o_chk h
  refine ir_st (pc := 93) (k := 15) C hW hS (by decide) (by decide) rfl rfl (inb_in hc21) dX9_says_93 (fun H locs hW hS => ?_)
  refine lv_iinc (pc := 94) (v := (v2 + 1)) (lv' := [(2, .int (v2 + 1)), (0, .ref (z + 80 + 0)), (1, .int v1), (3, .int v3)]) hx hb dX9_says_94 hl (k := 2) rfl rfl (by decide) rfl (fun ls hl => ?_)
  refine lv_goto (pc := 97) (tgt := 191) hx hb dX9_says_97 (by decide) ?_
  exact w_X9_says_b191 C hK (ms σ 15 (k1.toNatClampNeg) k2) v1 (v2 + 1) v3 s16 hs16 hW hS (lv_sub hl [1, 2, 0, 3] rfl) h

theorem w_X9_says_b66 (C : CX cX9_says 5 RX9 (some .int) D ac p m c s args meth (z, aK, aV) (Ar (z + 80))) (hK : 1 ≤ K) {r : Int32} {σf : Mem}   (σ : Mem) (v1 : Int32) (v2 : Int32) (v3 : Int32) (v4 : Int32) (s16 : Mem → Int32 → Int32 → Option (Int32 × Mem)) (hs16 : ∀ (σ : Mem) (v2 : Int32) (v3 : Int32) {H : Heap} {locs : List Loc} {ls : Array Slot} (_ : WR D ac (z + 80) σ H) (_ : va_S (Ar (z + 80)) s.heap H locs) (_ : lv_has ls 5 [(0, .ref (z + 80 + 0)), (1, .int v1), (2, .int v2), (3, .int v3)]) (_ : s16 σ v2 v3 = some (r, σf)), W p l e (rma K 0 0) s m args below meth c H locs 0 0 (MQ below (QV D (Er ac (z + 80)) inR (z + 80) (some (.int r)) σf (Ar (z + 80))) args s 0 0 (Ar (z + 80))) (F0 m 16 ls [])) {H : Heap} {locs : List Loc} {ls : Array Slot} (hW : WR D ac (z + 80) σ H) (hS : va_S (Ar (z + 80)) s.heap H locs) (hl : lv_has ls 5 [(0, .ref (z + 80 + 0)), (1, .int v1), (2, .int v2), (3, .int v3), (4, .int v4)]) (h : f_X9_says_b66 s16 σ v1 v2 v3 v4 = some (r, σf)) : W p l e (rma K 0 0) s m args below meth c H locs 0 0 (MQ below (QV D (Er ac (z + 80)) inR (z + 80) (some (.int r)) σf (Ar (z + 80))) args s 0 0 (Ar (z + 80))) (F0 m 66 ls []) := by
  have hx := C.1.1
  have hb := C.1.2.1
  unfold f_X9_says_b66 at h
  refine lv_aload_n (pc := 66) hx hb dX9_says_66 rfl (lv_at hl 0 rfl) ?_
  refine gf_X9_32 (pc := 67) C hW fl_X9_52 dX9_says_67 ?_
  refine lv_iload_n (pc := 70) hx hb dX9_says_70 rfl (lv_at hl 2 rfl) ?_
  refine lv_iload (pc := 71) hx hb dX9_says_71 (lv_at hl 4 rfl) ?_
  refine lv_bipush (pc := 73) (v := 11) hx hb dX9_says_73 (by decide) ?_
  refine lv_icmp_ge (pc := 75) (tgt := 88) hx hb dX9_says_75 (by decide) (fun hc19 => ?_) (fun hc19 => ?_)
  · replace h := o_pos hc19 h
    refine lv_iload (pc := 88) hx hb dX9_says_88 (lv_at hl 4 rfl) ?_
    refine lv_ldc (pc := 90) hx hb C.1.2.2.2.1 (C.1.2.2.2.2 _ cn_X9_146) dX9_says_90 ?_
    refine lv_isub (pc := 92) hx hb dX9_says_92 ?_
    exact w_X9_says_b93 C hK σ v1 v2 v3 v2 (v4 - (100000 : Int32)) s16 hs16 hW hS (lv_sub hl [0, 1, 2, 3] rfl) h
  · replace h := o_neg hc19 h
    refine lv_aload_n (pc := 78) hx hb dX9_says_78 rfl (lv_at hl 0 rfl) ?_
    refine gf_X9_33 (pc := 79) C hW fl_X9_55 dX9_says_79 ?_
    refine lv_iload (pc := 82) hx hb dX9_says_82 (lv_at hl 4 rfl) ?_
    obtain ⟨hc20, h⟩ := o_chk h
    refine ir_ld (pc := 84) (k := 16) C hW (by decide) (by decide) rfl rfl (inb_in hc20) dX9_says_84 ?_
    refine lv_goto (pc := 85) (tgt := 93) hx hb dX9_says_85 (by decide) ?_
    exact w_X9_says_b93 C hK σ v1 v2 v3 v2 (σ 16 (v4.toNatClampNeg)) s16 hs16 hW hS (lv_sub hl [0, 1, 2, 3] rfl) h

theorem w_X9_says_b130 (C : CX cX9_says 5 RX9 (some .int) D ac p m c s args meth (z, aK, aV) (Ar (z + 80))) (hK : 1 ≤ K) {r : Int32} {σf : Mem}   (σ : Mem) (v1 : Int32) (v2 : Int32) (v3 : Int32) (k1 : Int32) (k2 : Int32) (s16 : Mem → Int32 → Int32 → Option (Int32 × Mem)) (hs16 : ∀ (σ : Mem) (v2 : Int32) (v3 : Int32) {H : Heap} {locs : List Loc} {ls : Array Slot} (_ : WR D ac (z + 80) σ H) (_ : va_S (Ar (z + 80)) s.heap H locs) (_ : lv_has ls 5 [(0, .ref (z + 80 + 0)), (1, .int v1), (2, .int v2), (3, .int v3)]) (_ : s16 σ v2 v3 = some (r, σf)), W p l e (rma K 0 0) s m args below meth c H locs 0 0 (MQ below (QV D (Er ac (z + 80)) inR (z + 80) (some (.int r)) σf (Ar (z + 80))) args s 0 0 (Ar (z + 80))) (F0 m 16 ls [])) {H : Heap} {locs : List Loc} {ls : Array Slot} (hW : WR D ac (z + 80) σ H) (hS : va_S (Ar (z + 80)) s.heap H locs) (hl : lv_has ls 5 [(0, .ref (z + 80 + 0)), (1, .int v1), (2, .int v2), (3, .int v3)]) (h : f_X9_says_b130 s16 σ v1 v2 v3 k1 k2 = some (r, σf)) : W p l e (rma K 0 0) s m args below meth c H locs 0 0 (MQ below (QV D (Er ac (z + 80)) inR (z + 80) (some (.int r)) σf (Ar (z + 80))) args s 0 0 (Ar (z + 80))) (F0 m 130 ls [.int k2, .int k1, .ref (z + 80 + 15)]) := by
  have hx := C.1.1
  have hb := C.1.2.1
  unfold f_X9_says_b130 at h
  obtain ⟨hc22, h⟩ := o_chk h
  refine ir_st (pc := 130) (k := 15) C hW hS (by decide) (by decide) rfl rfl (inb_in hc22) dX9_says_130 (fun H locs hW hS => ?_)
  refine lv_goto (pc := 131) (tgt := 191) hx hb dX9_says_131 (by decide) ?_
  exact w_X9_says_b191 C hK (ms σ 15 (k1.toNatClampNeg) k2) v1 v2 v3 s16 hs16 hW hS (lv_sub hl [0, 1, 2, 3] rfl) h

theorem w_X9_says_b16 (C : CX cX9_says 5 RX9 (some .int) D ac p m c s args meth (z, aK, aV) (Ar (z + 80))) (hK : 1 ≤ K) {r : Int32} {σf : Mem}   (v1 : Int32)  : ∀ (n : Nat) (σ : Mem) (v2 : Int32) (v3 : Int32) {H : Heap} {locs : List Loc} {ls : Array Slot} (hW : WR D ac (z + 80) σ H) (hS : va_S (Ar (z + 80)) s.heap H locs) (hl : lv_has ls 5 [(0, .ref (z + 80 + 0)), (1, .int v1), (2, .int v2), (3, .int v3)]) (h : f_X9_says_b16 v1 n σ v2 v3 = some (r, σf)), W p l e (rma K 0 0) s m args below meth c H locs 0 0 (MQ below (QV D (Er ac (z + 80)) inR (z + 80) (some (.int r)) σf (Ar (z + 80))) args s 0 0 (Ar (z + 80))) (F0 m 16 ls []) := by
  have hx := C.1.1
  have hb := C.1.2.1
  intro n
  induction n with
  | zero =>
    intro σ v2 v3 H locs ls  hW hS hl h
    cases h
  | succ n ih =>
    intro σ v2 v3 H locs ls  hW hS hl h
    rw [f_X9_says_b16.eq_2] at h
    refine lv_iload_n (pc := 16) hx hb dX9_says_16 rfl (lv_at hl 3 rfl) ?_
    refine lv_aload_n (pc := 17) hx hb dX9_says_17 rfl (lv_at hl 0 rfl) ?_
    refine gf_X9_10 (pc := 18) C hW fl_X9_28 dX9_says_18 ?_
    refine lv_iconst (pc := 21) (v := 4) hx hb dX9_says_21 (by decide) ?_
    refine lv_aload_n (pc := 22) hx hb dX9_says_22 rfl (lv_at hl 0 rfl) ?_
    refine gf_X9_12 (pc := 23) C hW fl_X9_97 dX9_says_23 ?_
    refine lv_imul (pc := 26) hx hb dX9_says_26 ?_
    refine lv_iload_n (pc := 27) hx hb dX9_says_27 rfl (lv_at hl 1 rfl) ?_
    refine lv_iadd (pc := 28) hx hb dX9_says_28 ?_
    refine lv_iconst (pc := 29) (v := 1) hx hb dX9_says_29 (by decide) ?_
    refine lv_iadd (pc := 30) hx hb dX9_says_30 ?_
    obtain ⟨hc2, h⟩ := o_chk h
    refine ir_ld (pc := 31) (k := 7) C hW (by decide) (by decide) rfl rfl (inb_in hc2) dX9_says_31 ?_
    refine lv_icmp_ge (pc := 32) (tgt := 197) hx hb dX9_says_32 (by decide) (fun hc3 => ?_) (fun hc3 => ?_)
    · replace h := o_pos hc3 h
      refine lv_aload_n (pc := 197) hx hb dX9_says_197 rfl (lv_at hl 0 rfl) ?_
      refine gf_X9_32 (pc := 198) C hW fl_X9_52 dX9_says_198 ?_
      refine lv_iconst (pc := 201) (v := 0) hx hb dX9_says_201 (by decide) ?_
      refine ir_ld (pc := 202) (k := 15) C hW (by decide) (by decide) rfl (j := 0) (by decide) (inb_in (by decide)) dX9_says_202 ?_
      exact g_ret (pc := 203) C hW hS rfl dX9_says_203 (congrArg (fun q => some (Value.int q)) (o_r h).1) (o_r h).2
    · replace h := o_neg hc3 h
      refine lv_aload_n (pc := 35) hx hb dX9_says_35 rfl (lv_at hl 0 rfl) ?_
      refine gf_X9_9 (pc := 36) C hW fl_X9_25 dX9_says_36 ?_
      refine lv_sipush (pc := 39) (v := 200) hx hb dX9_says_39 (by decide) ?_
      refine lv_aload_n (pc := 42) hx hb dX9_says_42 rfl (lv_at hl 0 rfl) ?_
      refine gf_X9_12 (pc := 43) C hW fl_X9_97 dX9_says_43 ?_
      refine lv_imul (pc := 46) hx hb dX9_says_46 ?_
      refine lv_iload_n (pc := 47) hx hb dX9_says_47 rfl (lv_at hl 3 rfl) ?_
      refine lv_iadd (pc := 48) hx hb dX9_says_48 ?_
      obtain ⟨hc4, h⟩ := o_chk h
      refine ir_ld (pc := 49) (k := 6) C hW (by decide) (by decide) rfl rfl (inb_in hc4) dX9_says_49 ?_
      obtain ⟨x6, hxx6, h⟩ := o_d h
      refine g_top hxx6 ?_
      refine lv_istore (pc := 50) (lv' := [(4, .int x6), (0, .ref (z + 80 + 0)), (1, .int v1), (2, .int v2), (3, .int v3)]) hx hb dX9_says_50 hl (by decide) rfl (fun ls hl => ?_)
      refine lv_iload (pc := 52) hx hb dX9_says_52 (lv_at hl 0 rfl) ?_
      refine lv_ldc (pc := 54) hx hb C.1.2.2.2.1 (C.1.2.2.2.2 _ cn_X9_146) dX9_says_54 ?_
      refine lv_icmp_ge (pc := 56) (tgt := 66) hx hb dX9_says_56 (by decide) (fun hc6 => ?_) (fun hc6 => ?_)
      · replace h := o_pos hc6 h
        exact w_X9_says_b66 C hK σ v1 v2 v3 x6 (f_X9_says_b16 v1 n) (fun σ v2 v3 {H : Heap} {locs : List Loc} {ls : Array Slot}  hW hS hl h => ih σ v2 v3 hW hS hl h) hW hS (lv_sub hl [1, 2, 3, 4, 0] rfl) h
      · replace h := o_neg hc6 h
        refine lv_iload (pc := 59) hx hb dX9_says_59 (lv_at hl 0 rfl) ?_
        refine lv_bipush (pc := 61) (v := 11) hx hb dX9_says_61 (by decide) ?_
        refine lv_icmp_ge (pc := 63) (tgt := 100) hx hb dX9_says_63 (by decide) (fun hc7 => ?_) (fun hc7 => ?_)
        · replace h := o_pos hc7 h
          refine lv_iload (pc := 100) hx hb dX9_says_100 (lv_at hl 0 rfl) ?_
          refine lv_bipush (pc := 102) (v := 13) hx hb dX9_says_102 (by decide) ?_
          refine lv_icmp_ne (pc := 104) (tgt := 134) hx hb dX9_says_104 (by decide) (fun hc8 => ?_) (fun hc8 => ?_)
          · replace h := o_neg hc8 h
            refine lv_iload (pc := 134) hx hb dX9_says_134 (lv_at hl 0 rfl) ?_
            refine lv_bipush (pc := 136) (v := 19) hx hb dX9_says_136 (by decide) ?_
            refine lv_icmp_ne (pc := 138) (tgt := 161) hx hb dX9_says_138 (by decide) (fun hc9 => ?_) (fun hc9 => ?_)
            · replace h := o_neg hc9 h
              refine lv_iinc (pc := 161) (v := (v2 + (-1))) (lv' := [(2, .int (v2 + (-1))), (4, .int x6), (0, .ref (z + 80 + 0)), (1, .int v1), (3, .int v3)]) hx hb dX9_says_161 hl (k := 3) rfl rfl (by decide) rfl (fun ls hl => ?_)
              refine lv_aload_n (pc := 164) hx hb dX9_says_164 rfl (lv_at hl 2 rfl) ?_
              refine gf_X9_32 (pc := 165) C hW fl_X9_52 dX9_says_165 ?_
              refine lv_iload_n (pc := 168) hx hb dX9_says_168 rfl (lv_at hl 0 rfl) ?_
              refine lv_iconst (pc := 169) (v := 1) hx hb dX9_says_169 (by decide) ?_
              refine lv_isub (pc := 170) hx hb dX9_says_170 ?_
              refine lv_iload (pc := 171) hx hb dX9_says_171 (lv_at hl 1 rfl) ?_
              refine lv_aload_n (pc := 173) hx hb dX9_says_173 rfl (lv_at hl 2 rfl) ?_
              refine gf_X9_32 (pc := 174) C hW fl_X9_52 dX9_says_174 ?_
              refine lv_iload_n (pc := 177) hx hb dX9_says_177 rfl (lv_at hl 0 rfl) ?_
              refine lv_iconst (pc := 178) (v := 1) hx hb dX9_says_178 (by decide) ?_
              refine lv_isub (pc := 179) hx hb dX9_says_179 ?_
              obtain ⟨hc10, h⟩ := o_chk h
              refine ir_ld (pc := 180) (k := 15) C hW (by decide) (by decide) rfl rfl (inb_in hc10) dX9_says_180 ?_
              refine lv_aload_n (pc := 181) hx hb dX9_says_181 rfl (lv_at hl 2 rfl) ?_
              refine gf_X9_32 (pc := 182) C hW fl_X9_52 dX9_says_182 ?_
              refine lv_iload_n (pc := 185) hx hb dX9_says_185 rfl (lv_at hl 0 rfl) ?_
              obtain ⟨hc11, h⟩ := o_chk h
              refine ir_ld (pc := 186) (k := 15) C hW (by decide) (by decide) rfl rfl (inb_in hc11) dX9_says_186 ?_
              refine g_stat (pc := 187) (st2 := [.int (f_X9_two x6 (σ 15 (((v2 + (-1)) - (1 : Int32)).toNatClampNeg)) (σ 15 ((v2 + (-1)).toNatClampNeg))), .int ((v2 + (-1)) - (1 : Int32)), .ref (z + 80 + 15)]) (rest := [.int ((v2 + (-1)) - (1 : Int32)), .ref (z + 80 + 15)]) C hW hS (c_X9_two (K := K - 1) (by omega) rfl) mw_X9_160 (hRoom (by omega) (by decide)) rfl rfl rfl (Nat.le_of_ble_eq_true rfl) hl.1 dX9_says_187 (fun H locs hW hS => ?_)
              obtain ⟨hc12, h⟩ := o_chk h
              refine ir_st (pc := 190) (k := 15) C hW hS (by decide) (by decide) rfl rfl (inb_in hc12) dX9_says_190 (fun H locs hW hS => ?_)
              obtain ⟨σ14, hσ14, h⟩ := o_d h
              replace hW : WR D ac (z + 80) σ14 H := by rw [← hσ14]; exact hW
              exact w_X9_says_b191 C hK σ14 v1 (v2 + (-1)) v3 (f_X9_says_b16 v1 n) (fun σ v2 v3 {H : Heap} {locs : List Loc} {ls : Array Slot}  hW hS hl h => ih σ v2 v3 hW hS hl h) hW hS (lv_sub hl [2, 3, 0, 4] rfl) h
            · replace h := o_pos hc9 h
              refine lv_aload_n (pc := 141) hx hb dX9_says_141 rfl (lv_at hl 1 rfl) ?_
              refine gf_X9_32 (pc := 142) C hW fl_X9_52 dX9_says_142 ?_
              refine lv_iload_n (pc := 145) hx hb dX9_says_145 rfl (lv_at hl 3 rfl) ?_
              refine lv_iconst (pc := 146) (v := 1) hx hb dX9_says_146 (by decide) ?_
              refine lv_isub (pc := 147) hx hb dX9_says_147 ?_
              refine lv_aload_n (pc := 148) hx hb dX9_says_148 rfl (lv_at hl 1 rfl) ?_
              refine gf_X9_32 (pc := 149) C hW fl_X9_52 dX9_says_149 ?_
              refine lv_iload_n (pc := 152) hx hb dX9_says_152 rfl (lv_at hl 3 rfl) ?_
              refine lv_iconst (pc := 153) (v := 1) hx hb dX9_says_153 (by decide) ?_
              refine lv_isub (pc := 154) hx hb dX9_says_154 ?_
              obtain ⟨hc14, h⟩ := o_chk h
              refine ir_ld (pc := 155) (k := 15) C hW (by decide) (by decide) rfl rfl (inb_in hc14) dX9_says_155 ?_
              refine lv_ineg (pc := 156) hx hb dX9_says_156 ?_
              obtain ⟨hc15, h⟩ := o_chk h
              refine ir_st (pc := 157) (k := 15) C hW hS (by decide) (by decide) rfl rfl (inb_in hc15) dX9_says_157 (fun H locs hW hS => ?_)
              obtain ⟨σ17, hσ17, h⟩ := o_d h
              replace hW : WR D ac (z + 80) σ17 H := by rw [← hσ17]; exact hW
              refine lv_goto (pc := 158) (tgt := 191) hx hb dX9_says_158 (by decide) ?_
              exact w_X9_says_b191 C hK σ17 v1 v2 v3 (f_X9_says_b16 v1 n) (fun σ v2 v3 {H : Heap} {locs : List Loc} {ls : Array Slot}  hW hS hl h => ih σ v2 v3 hW hS hl h) hW hS (lv_sub hl [1, 2, 3, 4] rfl) h
          · replace h := o_pos hc8 h
            refine lv_aload_n (pc := 107) hx hb dX9_says_107 rfl (lv_at hl 1 rfl) ?_
            refine gf_X9_32 (pc := 108) C hW fl_X9_52 dX9_says_108 ?_
            refine lv_iload_n (pc := 111) hx hb dX9_says_111 rfl (lv_at hl 3 rfl) ?_
            refine lv_iconst (pc := 112) (v := 1) hx hb dX9_says_112 (by decide) ?_
            refine lv_isub (pc := 113) hx hb dX9_says_113 ?_
            refine lv_aload_n (pc := 114) hx hb dX9_says_114 rfl (lv_at hl 1 rfl) ?_
            refine gf_X9_32 (pc := 115) C hW fl_X9_52 dX9_says_115 ?_
            refine lv_iload_n (pc := 118) hx hb dX9_says_118 rfl (lv_at hl 3 rfl) ?_
            refine lv_iconst (pc := 119) (v := 1) hx hb dX9_says_119 (by decide) ?_
            refine lv_isub (pc := 120) hx hb dX9_says_120 ?_
            obtain ⟨hc17, h⟩ := o_chk h
            refine ir_ld (pc := 121) (k := 15) C hW (by decide) (by decide) rfl rfl (inb_in hc17) dX9_says_121 ?_
            refine lv_if_ne (pc := 122) (tgt := 129) hx hb dX9_says_122 (by decide) (fun hc18 => ?_) (fun hc18 => ?_)
            · replace h := o_neg hc18 h
              refine lv_iconst (pc := 129) (v := 0) hx hb dX9_says_129 (by decide) ?_
              exact w_X9_says_b130 C hK σ v1 v2 v3 (v2 - (1 : Int32)) (0 : Int32) (f_X9_says_b16 v1 n) (fun σ v2 v3 {H : Heap} {locs : List Loc} {ls : Array Slot}  hW hS hl h => ih σ v2 v3 hW hS hl h) hW hS (lv_sub hl [1, 2, 3, 4] rfl) h
            · replace h := o_pos hc18 h
              refine lv_iconst (pc := 125) (v := 1) hx hb dX9_says_125 (by decide) ?_
              refine lv_goto (pc := 126) (tgt := 130) hx hb dX9_says_126 (by decide) ?_
              exact w_X9_says_b130 C hK σ v1 v2 v3 (v2 - (1 : Int32)) (1 : Int32) (f_X9_says_b16 v1 n) (fun σ v2 v3 {H : Heap} {locs : List Loc} {ls : Array Slot}  hW hS hl h => ih σ v2 v3 hW hS hl h) hW hS (lv_sub hl [1, 2, 3, 4] rfl) h
        · replace h := o_neg hc7 h
          exact w_X9_says_b66 C hK σ v1 v2 v3 x6 (f_X9_says_b16 v1 n) (fun σ v2 v3 {H : Heap} {locs : List Loc} {ls : Array Slot}  hW hS hl h => ih σ v2 v3 hW hS hl h) hW hS (lv_sub hl [1, 2, 3, 4, 0] rfl) h

theorem c_X9_says {K : Nat}  (hK : 1 ≤ K) {σ : Mem} {σf : Mem} {v1 : Int32} {r : Int32} (h : f_X9_says σ v1 = some (r, σf)) : MC l D (Er ac (z + 80)) inR (z + 80) ac (z, aK, aV) (Ar (z + 80)) yX9_says cX9_says 5 (some .int) K [.ref (z + 80 + 0), .int v1] σ (some (.int r)) σf := by
  refine MC.of (fun q hq => by have := hq.1; show z ≤ q; omega) (plainFor_of_name (by decide)) (Nat.le_of_ble_eq_true rfl) ?_
  intro p e s m below meth c args C hW ls hl
  replace hl : lv_has ls 5 [(0, .ref (z + 80 + 0)), (1, .int v1)] := hl
  have hS : va_S (Ar (z + 80)) s.heap s.heap [] := va_S.rf
  have hx := C.1.1
  have hb := C.1.2.1
  unfold f_X9_says at h
  refine lv_iconst (pc := 0) (v := 0) hx hb dX9_says_0 (by decide) ?_
  refine lv_istore_n (pc := 1) (lv' := [(2, .int (0 : Int32)), (0, .ref (z + 80 + 0)), (1, .int v1)]) hx hb dX9_says_1 rfl hl (by decide) rfl (fun ls hl => ?_)
  refine lv_aload_n (pc := 2) hx hb dX9_says_2 rfl (lv_at hl 1 rfl) ?_
  refine gf_X9_10 (pc := 3) C hW fl_X9_28 dX9_says_3 ?_
  refine lv_iconst (pc := 6) (v := 4) hx hb dX9_says_6 (by decide) ?_
  refine lv_aload_n (pc := 7) hx hb dX9_says_7 rfl (lv_at hl 1 rfl) ?_
  refine gf_X9_12 (pc := 8) C hW fl_X9_97 dX9_says_8 ?_
  refine lv_imul (pc := 11) hx hb dX9_says_11 ?_
  refine lv_iload_n (pc := 12) hx hb dX9_says_12 rfl (lv_at hl 2 rfl) ?_
  refine lv_iadd (pc := 13) hx hb dX9_says_13 ?_
  obtain ⟨hc0, h⟩ := o_chk h
  refine ir_ld (pc := 14) (k := 7) C hW (by decide) (by decide) rfl rfl (inb_in hc0) dX9_says_14 ?_
  obtain ⟨x2, hxx2, h⟩ := o_d h
  refine g_top hxx2 ?_
  refine lv_istore_n (pc := 15) (lv' := [(3, .int x2), (2, .int (0 : Int32)), (0, .ref (z + 80 + 0)), (1, .int v1)]) hx hb dX9_says_15 rfl hl (by decide) rfl (fun ls hl => ?_)
  exact w_X9_says_b16 C hK v1 FU σ (0 : Int32) x2 hW hS (lv_sub hl [2, 3, 1, 0] rfl) h

theorem c_X9_force {K : Nat}  (hK : 1 ≤ K) {σ : Mem} {σf : Mem} {v1 : Int32} {r : Int32} (h : f_X9_force σ v1 = (r, σf)) : MC l D (Er ac (z + 80)) inR (z + 80) ac (z, aK, aV) (Ar (z + 80)) yX9_force cX9_force 3 (some .int) K [.ref (z + 80 + 0), .int v1] σ (some (.int r)) σf := by
  refine MC.of (fun q hq => by have := hq.1; show z ≤ q; omega) (plainFor_of_name (by decide)) (Nat.le_of_ble_eq_true rfl) ?_
  intro p e s m below meth c args C hW ls hl
  replace hl : lv_has ls 3 [(0, .ref (z + 80 + 0)), (1, .int v1)] := hl
  have hS : va_S (Ar (z + 80)) s.heap s.heap [] := va_S.rf
  have hx := C.1.1
  have hb := C.1.2.1
  unfold f_X9_force at h
  refine lv_iload_n (pc := 0) hx hb dX9_force_0 rfl (lv_at hl 1 rfl) ?_
  refine lv_iconst (pc := 1) (v := 0) hx hb dX9_force_1 (by decide) ?_
  refine lv_aload_n (pc := 2) hx hb dX9_force_2 rfl (lv_at hl 0 rfl) ?_
  refine gf_X9_11 (pc := 3) C hW fl_X9_94 dX9_force_3 ?_
  refine lv_iconst (pc := 6) (v := 1) hx hb dX9_force_6 (by decide) ?_
  refine lv_isub (pc := 7) hx hb dX9_force_7 ?_
  refine g_stat (pc := 8) (st2 := [.int (f_X9_in v1 (0 : Int32) ((σ 0 11) - (1 : Int32)))]) (rest := []) C hW hS (c_X9_in (K := K - 1) (by omega) rfl) mw_X9_84 (hRoom (by omega) (by decide)) rfl rfl rfl (Nat.le_of_ble_eq_true rfl) hl.1 dX9_force_8 (fun H locs hW hS => ?_)
  refine lv_if_ne (pc := 11) (tgt := 17) hx hb dX9_force_11 (by decide) (fun hc0 => ?_) (fun hc0 => ?_)
  · replace h := o_neg hc0 h
    refine lv_aload_n (pc := 17) hx hb dX9_force_17 rfl (lv_at hl 0 rfl) ?_
    refine gf_X9_12 (pc := 18) C hW fl_X9_97 dX9_force_18 ?_
    refine lv_istore_n (pc := 21) (lv' := [(2, .int (σ 0 12)), (0, .ref (z + 80 + 0)), (1, .int v1)]) hx hb dX9_force_21 rfl hl (by decide) rfl (fun ls hl => ?_)
    refine lv_aload_n (pc := 22) hx hb dX9_force_22 rfl (lv_at hl 1 rfl) ?_
    refine lv_iload_n (pc := 23) hx hb dX9_force_23 rfl (lv_at hl 2 rfl) ?_
    refine pf_X9_12 (pc := 24) C hW hS fl_X9_97 dX9_force_24 (fun H locs hW hS => ?_)
    refine lv_iload_n (pc := 27) hx hb dX9_force_27 rfl (lv_at hl 0 rfl) ?_
    exact g_ret (pc := 28) C hW hS rfl dX9_force_28 (congrArg (fun q => some (Value.int q)) (o_rt h).1) (o_rt h).2
  · replace h := o_pos hc0 h
    refine lv_bipush (pc := 14) (v := -2) hx hb dX9_force_14 (by decide) ?_
    exact g_ret (pc := 16) C hW hS rfl dX9_force_16 (congrArg (fun q => some (Value.int q)) (o_rt h).1) (o_rt h).2

theorem w_X9_owedBy_b49 (C : CX cX9_owedBy 4 RX9 (some .int) D ac p m c s args meth (z, aK, aV) (Ar (z + 80))) (hK : 1 ≤ K) {r : Int32}   (σ : Mem) (v1 : Int32) (v3 : Int32) (k0 : Int32) (k1 : Int32) (s4 : Int32 → Int32 → Option Int32) (hs4 : ∀ (v2 : Int32) (v3 : Int32) {H : Heap} {locs : List Loc} {ls : Array Slot} (_ : WR D ac (z + 80) σ H) (_ : va_S (Ar (z + 80)) s.heap H locs) (_ : lv_has ls 4 [(0, .ref (z + 80 + 0)), (1, .int v1), (2, .int v2), (3, .int v3)]) (_ : s4 v2 v3 = some r), W p l e (rma K 0 0) s m args below meth c H locs 0 0 (MQ below (QV D (Er ac (z + 80)) inR (z + 80) (some (.int r)) σ (Ar (z + 80))) args s 0 0 (Ar (z + 80))) (F0 m 4 ls [])) {H : Heap} {locs : List Loc} {ls : Array Slot} (hW : WR D ac (z + 80) σ H) (hS : va_S (Ar (z + 80)) s.heap H locs) (hl : lv_has ls 4 [(0, .ref (z + 80 + 0)), (1, .int v1), (3, .int v3)]) (h : f_X9_owedBy_b49 s4 σ v1 v3 k0 k1 = some r) : W p l e (rma K 0 0) s m args below meth c H locs 0 0 (MQ below (QV D (Er ac (z + 80)) inR (z + 80) (some (.int r)) σ (Ar (z + 80))) args s 0 0 (Ar (z + 80))) (F0 m 49 ls [.int k1, .int k0]) := by
  have hx := C.1.1
  have hb := C.1.2.1
  unfold f_X9_owedBy_b49 at h
  refine lv_iadd (pc := 49) hx hb dX9_owedBy_49 ?_
  refine lv_istore_n (pc := 50) (lv' := [(2, .int (k0 + k1)), (0, .ref (z + 80 + 0)), (1, .int v1), (3, .int v3)]) hx hb dX9_owedBy_50 rfl hl (by decide) rfl (fun ls hl => ?_)
  refine lv_iinc (pc := 51) (v := (v3 + 1)) (lv' := [(3, .int (v3 + 1)), (2, .int (k0 + k1)), (0, .ref (z + 80 + 0)), (1, .int v1)]) hx hb dX9_owedBy_51 hl (k := 3) rfl rfl (by decide) rfl (fun ls hl => ?_)
  refine lv_goto (pc := 54) (tgt := 4) hx hb dX9_owedBy_54 (by decide) ?_
  exact hs4 (k0 + k1) (v3 + 1) hW hS (lv_sub hl [2, 3, 1, 0] rfl) h

theorem w_X9_owedBy_b48 (C : CX cX9_owedBy 4 RX9 (some .int) D ac p m c s args meth (z, aK, aV) (Ar (z + 80))) (hK : 1 ≤ K) {r : Int32}   (σ : Mem) (v1 : Int32) (v3 : Int32) (k0 : Int32) (s4 : Int32 → Int32 → Option Int32) (hs4 : ∀ (v2 : Int32) (v3 : Int32) {H : Heap} {locs : List Loc} {ls : Array Slot} (_ : WR D ac (z + 80) σ H) (_ : va_S (Ar (z + 80)) s.heap H locs) (_ : lv_has ls 4 [(0, .ref (z + 80 + 0)), (1, .int v1), (2, .int v2), (3, .int v3)]) (_ : s4 v2 v3 = some r), W p l e (rma K 0 0) s m args below meth c H locs 0 0 (MQ below (QV D (Er ac (z + 80)) inR (z + 80) (some (.int r)) σ (Ar (z + 80))) args s 0 0 (Ar (z + 80))) (F0 m 4 ls [])) {H : Heap} {locs : List Loc} {ls : Array Slot} (hW : WR D ac (z + 80) σ H) (hS : va_S (Ar (z + 80)) s.heap H locs) (hl : lv_has ls 4 [(0, .ref (z + 80 + 0)), (1, .int v1), (3, .int v3)]) (h : f_X9_owedBy_b48 s4 σ v1 v3 k0 = some r) : W p l e (rma K 0 0) s m args below meth c H locs 0 0 (MQ below (QV D (Er ac (z + 80)) inR (z + 80) (some (.int r)) σ (Ar (z + 80))) args s 0 0 (Ar (z + 80))) (F0 m 48 ls [.int k0]) := by
  have hx := C.1.1
  have hb := C.1.2.1
  unfold f_X9_owedBy_b48 at h
  refine lv_iconst (pc := 48) (v := 0) hx hb dX9_owedBy_48 (by decide) ?_
  exact w_X9_owedBy_b49 C hK σ v1 v3 k0 (0 : Int32) s4 hs4 hW hS (lv_sub hl [0, 1, 2] rfl) h

theorem w_X9_owedBy_b4 (C : CX cX9_owedBy 4 RX9 (some .int) D ac p m c s args meth (z, aK, aV) (Ar (z + 80))) (hK : 1 ≤ K) {r : Int32}   (σ : Mem) (v1 : Int32)  : ∀ (n : Nat) (v2 : Int32) (v3 : Int32) {H : Heap} {locs : List Loc} {ls : Array Slot} (hW : WR D ac (z + 80) σ H) (hS : va_S (Ar (z + 80)) s.heap H locs) (hl : lv_has ls 4 [(0, .ref (z + 80 + 0)), (1, .int v1), (2, .int v2), (3, .int v3)]) (h : f_X9_owedBy_b4 σ v1 n v2 v3 = some r), W p l e (rma K 0 0) s m args below meth c H locs 0 0 (MQ below (QV D (Er ac (z + 80)) inR (z + 80) (some (.int r)) σ (Ar (z + 80))) args s 0 0 (Ar (z + 80))) (F0 m 4 ls []) := by
  have hx := C.1.1
  have hb := C.1.2.1
  intro n
  induction n with
  | zero =>
    intro v2 v3 H locs ls  hW hS hl h
    cases h
  | succ n ih =>
    intro v2 v3 H locs ls  hW hS hl h
    rw [f_X9_owedBy_b4.eq_2] at h
    refine lv_iload_n (pc := 4) hx hb dX9_owedBy_4 rfl (lv_at hl 3 rfl) ?_
    refine lv_aload_n (pc := 5) hx hb dX9_owedBy_5 rfl (lv_at hl 0 rfl) ?_
    refine gf_X9_4 (pc := 6) C hW fl_X9_88 dX9_owedBy_6 ?_
    refine lv_icmp_ge (pc := 9) (tgt := 57) hx hb dX9_owedBy_9 (by decide) (fun hc0 => ?_) (fun hc0 => ?_)
    · replace h := o_pos hc0 h
      refine lv_iload_n (pc := 57) hx hb dX9_owedBy_57 rfl (lv_at hl 2 rfl) ?_
      exact g_ret (pc := 58) C hW hS rfl dX9_owedBy_58 (congrArg (fun q => some (Value.int q)) (Option.some.inj h).symm) rfl
    · replace h := o_neg hc0 h
      refine lv_iload_n (pc := 12) hx hb dX9_owedBy_12 rfl (lv_at hl 2 rfl) ?_
      refine lv_aload_n (pc := 13) hx hb dX9_owedBy_13 rfl (lv_at hl 0 rfl) ?_
      refine gf_X9_5 (pc := 14) C hW fl_X9_19 dX9_owedBy_14 ?_
      refine lv_bipush (pc := 17) (v := 6) hx hb dX9_owedBy_17 (by decide) ?_
      refine lv_iload_n (pc := 19) hx hb dX9_owedBy_19 rfl (lv_at hl 3 rfl) ?_
      refine lv_imul (pc := 20) hx hb dX9_owedBy_20 ?_
      obtain ⟨hc1, h⟩ := o_chk h
      refine ir_ld (pc := 21) (k := 4) C hW (by decide) (by decide) rfl rfl (inb_in hc1) dX9_owedBy_21 ?_
      refine lv_iload_n (pc := 22) hx hb dX9_owedBy_22 rfl (lv_at hl 1 rfl) ?_
      refine lv_icmp_ne (pc := 23) (tgt := 48) hx hb dX9_owedBy_23 (by decide) (fun hc2 => ?_) (fun hc2 => ?_)
      · replace h := o_neg hc2 h
        exact w_X9_owedBy_b48 C hK σ v1 v3 v2 (f_X9_owedBy_b4 σ v1 n) (fun v2 v3 {H : Heap} {locs : List Loc} {ls : Array Slot}  hW hS hl h => ih v2 v3 hW hS hl h) hW hS (lv_sub hl [0, 1, 3] rfl) h
      · replace h := o_pos hc2 h
        refine lv_aload_n (pc := 26) hx hb dX9_owedBy_26 rfl (lv_at hl 0 rfl) ?_
        refine lv_iload_n (pc := 27) hx hb dX9_owedBy_27 rfl (lv_at hl 3 rfl) ?_
        obtain ⟨r5, hc3, h⟩ := o_b h
        refine g_virt (pc := 28) (st2 := [.int r5, .int v2]) (rest := [.int v2]) C hW hS (c_X9_stands (K := K - 1) (by omega) hc3) mw_X9_164 inR0 Er_0 rfl (hRoom (by omega) (by decide)) rfl rfl rfl (Nat.le_of_ble_eq_true rfl) hl.1 dX9_owedBy_28 (fun H locs hW hS => ?_)
        refine lv_if_eq (pc := 31) (tgt := 48) hx hb dX9_owedBy_31 (by decide) (fun hc5 => ?_) (fun hc5 => ?_)
        · replace h := o_pos hc5 h
          exact w_X9_owedBy_b48 C hK σ v1 v3 v2 (f_X9_owedBy_b4 σ v1 n) (fun v2 v3 {H : Heap} {locs : List Loc} {ls : Array Slot}  hW hS hl h => ih v2 v3 hW hS hl h) hW hS (lv_sub hl [0, 1, 3] rfl) h
        · replace h := o_neg hc5 h
          refine lv_aload_n (pc := 34) hx hb dX9_owedBy_34 rfl (lv_at hl 0 rfl) ?_
          refine gf_X9_5 (pc := 35) C hW fl_X9_19 dX9_owedBy_35 ?_
          refine lv_bipush (pc := 38) (v := 6) hx hb dX9_owedBy_38 (by decide) ?_
          refine lv_iload_n (pc := 40) hx hb dX9_owedBy_40 rfl (lv_at hl 3 rfl) ?_
          refine lv_imul (pc := 41) hx hb dX9_owedBy_41 ?_
          refine lv_iconst (pc := 42) (v := 2) hx hb dX9_owedBy_42 (by decide) ?_
          refine lv_iadd (pc := 43) hx hb dX9_owedBy_43 ?_
          obtain ⟨hc6, h⟩ := o_chk h
          refine ir_ld (pc := 44) (k := 4) C hW (by decide) (by decide) rfl rfl (inb_in hc6) dX9_owedBy_44 ?_
          refine lv_goto (pc := 45) (tgt := 49) hx hb dX9_owedBy_45 (by decide) ?_
          exact w_X9_owedBy_b49 C hK σ v1 v3 v2 (σ 4 ((((6 : Int32) * v3) + (2 : Int32)).toNatClampNeg)) (f_X9_owedBy_b4 σ v1 n) (fun v2 v3 {H : Heap} {locs : List Loc} {ls : Array Slot}  hW hS hl h => ih v2 v3 hW hS hl h) hW hS (lv_sub hl [0, 1, 3] rfl) h

theorem c_X9_owedBy {K : Nat}  (hK : 1 ≤ K) {σ : Mem} {v1 : Int32} {r : Int32} (h : f_X9_owedBy σ v1 = some r) : MC l D (Er ac (z + 80)) inR (z + 80) ac (z, aK, aV) (Ar (z + 80)) yX9_owedBy cX9_owedBy 4 (some .int) K [.ref (z + 80 + 0), .int v1] σ (some (.int r)) σ := by
  refine MC.of (fun q hq => by have := hq.1; show z ≤ q; omega) (plainFor_of_name (by decide)) (Nat.le_of_ble_eq_true rfl) ?_
  intro p e s m below meth c args C hW ls hl
  replace hl : lv_has ls 4 [(0, .ref (z + 80 + 0)), (1, .int v1)] := hl
  have hS : va_S (Ar (z + 80)) s.heap s.heap [] := va_S.rf
  have hx := C.1.1
  have hb := C.1.2.1
  unfold f_X9_owedBy at h
  refine lv_iconst (pc := 0) (v := 0) hx hb dX9_owedBy_0 (by decide) ?_
  refine lv_istore_n (pc := 1) (lv' := [(2, .int (0 : Int32)), (0, .ref (z + 80 + 0)), (1, .int v1)]) hx hb dX9_owedBy_1 rfl hl (by decide) rfl (fun ls hl => ?_)
  refine lv_iconst (pc := 2) (v := 0) hx hb dX9_owedBy_2 (by decide) ?_
  refine lv_istore_n (pc := 3) (lv' := [(3, .int (0 : Int32)), (2, .int (0 : Int32)), (0, .ref (z + 80 + 0)), (1, .int v1)]) hx hb dX9_owedBy_3 rfl hl (by decide) rfl (fun ls hl => ?_)
  exact w_X9_owedBy_b4 C hK σ v1 FU (0 : Int32) (0 : Int32) hW hS (lv_sub hl [2, 3, 1, 0] rfl) h

theorem c_X9_asksOf {K : Nat}  (hK : 2 ≤ K) {σ : Mem} {σf : Mem} {v1 : Int32} {v2 : Int32} {v3 : Int32} {r : Int32} (h : f_X9_asksOf σ v1 v2 v3 = some (r, σf)) : MC l D (Er ac (z + 80)) inR (z + 80) ac (z, aK, aV) (Ar (z + 80)) yX9_asksOf cX9_asksOf 4 (some .int) K [.ref (z + 80 + 0), .int v1, .int v2, .int v3] σ (some (.int r)) σf := by
  refine MC.of (fun q hq => by have := hq.1; show z ≤ q; omega) (plainFor_of_name (by decide)) (Nat.le_of_ble_eq_true rfl) ?_
  intro p e s m below meth c args C hW ls hl
  replace hl : lv_has ls 4 [(0, .ref (z + 80 + 0)), (1, .int v1), (2, .int v2), (3, .int v3)] := hl
  have hS : va_S (Ar (z + 80)) s.heap s.heap [] := va_S.rf
  have hx := C.1.1
  have hb := C.1.2.1
  unfold f_X9_asksOf at h
  refine lv_aload_n (pc := 0) hx hb dX9_asksOf_0 rfl (lv_at hl 0 rfl) ?_
  refine gf_X9_33 (pc := 1) C hW fl_X9_55 dX9_asksOf_1 ?_
  refine lv_iconst (pc := 4) (v := 0) hx hb dX9_asksOf_4 (by decide) ?_
  refine lv_aload_n (pc := 5) hx hb dX9_asksOf_5 rfl (lv_at hl 0 rfl) ?_
  refine gf_X9_3 (pc := 6) C hW fl_X9_16 dX9_asksOf_6 ?_
  refine lv_iconst (pc := 9) (v := 4) hx hb dX9_asksOf_9 (by decide) ?_
  refine lv_iload_n (pc := 10) hx hb dX9_asksOf_10 rfl (lv_at hl 2 rfl) ?_
  refine lv_imul (pc := 11) hx hb dX9_asksOf_11 ?_
  obtain ⟨hc0, h⟩ := o_chk h
  refine ir_ld (pc := 12) (k := 3) C hW (by decide) (by decide) rfl rfl (inb_in hc0) dX9_asksOf_12 ?_
  refine ir_st (pc := 13) (k := 16) C hW hS (by decide) (by decide) rfl (j := 0) (by decide) (inb_in (by decide)) dX9_asksOf_13 (fun H locs hW hS => ?_)
  obtain ⟨σ2, hσ2, h⟩ := o_d h
  replace hW : WR D ac (z + 80) σ2 H := by rw [← hσ2]; exact hW
  refine lv_aload_n (pc := 14) hx hb dX9_asksOf_14 rfl (lv_at hl 0 rfl) ?_
  refine gf_X9_33 (pc := 15) C hW fl_X9_55 dX9_asksOf_15 ?_
  refine lv_iconst (pc := 18) (v := 1) hx hb dX9_asksOf_18 (by decide) ?_
  refine lv_aload_n (pc := 19) hx hb dX9_asksOf_19 rfl (lv_at hl 0 rfl) ?_
  refine gf_X9_3 (pc := 20) C hW fl_X9_16 dX9_asksOf_20 ?_
  refine lv_iconst (pc := 23) (v := 4) hx hb dX9_asksOf_23 (by decide) ?_
  refine lv_iload_n (pc := 24) hx hb dX9_asksOf_24 rfl (lv_at hl 2 rfl) ?_
  refine lv_imul (pc := 25) hx hb dX9_asksOf_25 ?_
  refine lv_iconst (pc := 26) (v := 1) hx hb dX9_asksOf_26 (by decide) ?_
  refine lv_iadd (pc := 27) hx hb dX9_asksOf_27 ?_
  obtain ⟨hc2, h⟩ := o_chk h
  refine ir_ld (pc := 28) (k := 3) C hW (by decide) (by decide) rfl rfl (inb_in hc2) dX9_asksOf_28 ?_
  refine ir_st (pc := 29) (k := 16) C hW hS (by decide) (by decide) rfl (j := 1) (by decide) (inb_in (by decide)) dX9_asksOf_29 (fun H locs hW hS => ?_)
  obtain ⟨σ4, hσ4, h⟩ := o_d h
  replace hW : WR D ac (z + 80) σ4 H := by rw [← hσ4]; exact hW
  refine lv_aload_n (pc := 30) hx hb dX9_asksOf_30 rfl (lv_at hl 0 rfl) ?_
  refine gf_X9_33 (pc := 31) C hW fl_X9_55 dX9_asksOf_31 ?_
  refine lv_iconst (pc := 34) (v := 2) hx hb dX9_asksOf_34 (by decide) ?_
  refine lv_aload_n (pc := 35) hx hb dX9_asksOf_35 rfl (lv_at hl 0 rfl) ?_
  refine gf_X9_2 (pc := 36) C hW fl_X9_13 dX9_asksOf_36 ?_
  refine lv_iload_n (pc := 39) hx hb dX9_asksOf_39 rfl (lv_at hl 2 rfl) ?_
  obtain ⟨hc4, h⟩ := o_chk h
  refine ir_ld (pc := 40) (k := 2) C hW (by decide) (by decide) rfl rfl (inb_in hc4) dX9_asksOf_40 ?_
  refine ir_st (pc := 41) (k := 16) C hW hS (by decide) (by decide) rfl (j := 2) (by decide) (inb_in (by decide)) dX9_asksOf_41 (fun H locs hW hS => ?_)
  refine lv_aload_n (pc := 42) hx hb dX9_asksOf_42 rfl (lv_at hl 0 rfl) ?_
  refine gf_X9_33 (pc := 43) C hW fl_X9_55 dX9_asksOf_43 ?_
  refine lv_iconst (pc := 46) (v := 3) hx hb dX9_asksOf_46 (by decide) ?_
  refine lv_iload_n (pc := 47) hx hb dX9_asksOf_47 rfl (lv_at hl 3 rfl) ?_
  refine ir_st (pc := 48) (k := 16) C hW hS (by decide) (by decide) rfl (j := 3) (by decide) (inb_in (by decide)) dX9_asksOf_48 (fun H locs hW hS => ?_)
  obtain ⟨σ6, hσ6, h⟩ := o_d h
  replace hW : WR D ac (z + 80) σ6 H := by rw [← hσ6]; exact hW
  refine lv_aload_n (pc := 49) hx hb dX9_asksOf_49 rfl (lv_at hl 0 rfl) ?_
  refine gf_X9_33 (pc := 50) C hW fl_X9_55 dX9_asksOf_50 ?_
  refine lv_iconst (pc := 53) (v := 4) hx hb dX9_asksOf_53 (by decide) ?_
  refine lv_aload_n (pc := 54) hx hb dX9_asksOf_54 rfl (lv_at hl 0 rfl) ?_
  refine lv_iload_n (pc := 55) hx hb dX9_asksOf_55 rfl (lv_at hl 2 rfl) ?_
  obtain ⟨r8, hc6, h⟩ := o_b h
  refine g_virt (pc := 56) (st2 := [.int r8, .int (4 : Int32), .ref (z + 80 + 16)]) (rest := [.int (4 : Int32), .ref (z + 80 + 16)]) C hW hS (c_X9_owedBy (K := K - 1) (by omega) hc6) mw_X9_167 inR0 Er_0 rfl (hRoom (by omega) (by decide)) rfl rfl rfl (Nat.le_of_ble_eq_true rfl) hl.1 dX9_asksOf_56 (fun H locs hW hS => ?_)
  refine ir_st (pc := 59) (k := 16) C hW hS (by decide) (by decide) rfl (j := 4) (by decide) (inb_in (by decide)) dX9_asksOf_59 (fun H locs hW hS => ?_)
  refine lv_aload_n (pc := 60) hx hb dX9_asksOf_60 rfl (lv_at hl 0 rfl) ?_
  refine gf_X9_33 (pc := 61) C hW fl_X9_55 dX9_asksOf_61 ?_
  refine lv_iconst (pc := 64) (v := 5) hx hb dX9_asksOf_64 (by decide) ?_
  refine lv_aload_n (pc := 65) hx hb dX9_asksOf_65 rfl (lv_at hl 0 rfl) ?_
  refine gf_X9_3 (pc := 66) C hW fl_X9_16 dX9_asksOf_66 ?_
  refine lv_iconst (pc := 69) (v := 4) hx hb dX9_asksOf_69 (by decide) ?_
  refine lv_iload_n (pc := 70) hx hb dX9_asksOf_70 rfl (lv_at hl 2 rfl) ?_
  refine lv_imul (pc := 71) hx hb dX9_asksOf_71 ?_
  refine lv_iconst (pc := 72) (v := 2) hx hb dX9_asksOf_72 (by decide) ?_
  refine lv_iadd (pc := 73) hx hb dX9_asksOf_73 ?_
  obtain ⟨hc8, h⟩ := o_chk h
  refine ir_ld (pc := 74) (k := 3) C hW (by decide) (by decide) rfl rfl (inb_in hc8) dX9_asksOf_74 ?_
  refine ir_st (pc := 75) (k := 16) C hW hS (by decide) (by decide) rfl (j := 5) (by decide) (inb_in (by decide)) dX9_asksOf_75 (fun H locs hW hS => ?_)
  obtain ⟨σ10, hσ10, h⟩ := o_d h
  replace hW : WR D ac (z + 80) σ10 H := by rw [← hσ10]; exact hW
  refine lv_aload_n (pc := 76) hx hb dX9_asksOf_76 rfl (lv_at hl 0 rfl) ?_
  refine lv_iload_n (pc := 77) hx hb dX9_asksOf_77 rfl (lv_at hl 1 rfl) ?_
  obtain ⟨r12, σ13, hc10, h⟩ := o_b2 h
  refine g_virt (pc := 78) (st2 := [.int r12]) (rest := []) C hW hS (c_X9_says (K := K - 1) (by omega) hc10) mw_X9_170 inR0 Er_0 rfl (hRoom (by omega) (by decide)) rfl rfl rfl (Nat.le_of_ble_eq_true rfl) hl.1 dX9_asksOf_78 (fun H locs hW hS => ?_)
  refine lv_iconst (pc := 81) (v := 0) hx hb dX9_asksOf_81 (by decide) ?_
  refine lv_bipush (pc := 82) (v := 99) hx hb dX9_asksOf_82 (by decide) ?_
  refine g_stat (pc := 84) (st2 := [.int (f_X9_within r12 (0 : Int32) (99 : Int32))]) (rest := []) C hW hS (c_X9_within (K := K - 1) (by omega) rfl) mw_X9_173 (hRoom (by omega) (by decide)) rfl rfl rfl (Nat.le_of_ble_eq_true rfl) hl.1 dX9_asksOf_84 (fun H locs hW hS => ?_)
  exact g_ret (pc := 87) C hW hS rfl dX9_asksOf_87 (congrArg (fun q => some (Value.int q)) (o_r h).1) (o_r h).2

theorem c_X9_asks {K : Nat}  (hK : 3 ≤ K) {σ : Mem} {σf : Mem} {v1 : Int32} {v2 : Int32} {v3 : Int32} {r : Int32} (h : f_X9_asks σ v1 v2 v3 = some (r, σf)) : MC l D (Er ac (z + 80)) inR (z + 80) ac (z, aK, aV) (Ar (z + 80)) yX9_asks cX9_asks 4 (some .int) K [.ref (z + 80 + 0), .int v1, .int v2, .int v3] σ (some (.int r)) σf := by
  refine MC.of (fun q hq => by have := hq.1; show z ≤ q; omega) (plainFor_of_name (by decide)) (Nat.le_of_ble_eq_true rfl) ?_
  intro p e s m below meth c args C hW ls hl
  replace hl : lv_has ls 4 [(0, .ref (z + 80 + 0)), (1, .int v1), (2, .int v2), (3, .int v3)] := hl
  have hS : va_S (Ar (z + 80)) s.heap s.heap [] := va_S.rf
  have hx := C.1.1
  have hb := C.1.2.1
  unfold f_X9_asks at h
  refine lv_iload_n (pc := 0) hx hb dX9_asks_0 rfl (lv_at hl 1 rfl) ?_
  refine lv_iconst (pc := 1) (v := 0) hx hb dX9_asks_1 (by decide) ?_
  refine lv_iconst (pc := 2) (v := 2) hx hb dX9_asks_2 (by decide) ?_
  refine g_stat (pc := 3) (st2 := [.int (f_X9_in v1 (0 : Int32) (2 : Int32))]) (rest := []) C hW hS (c_X9_in (K := K - 1) (by omega) rfl) mw_X9_84 (hRoom (by omega) (by decide)) rfl rfl rfl (Nat.le_of_ble_eq_true rfl) hl.1 dX9_asks_3 (fun H locs hW hS => ?_)
  refine lv_if_eq (pc := 6) (tgt := 38) hx hb dX9_asks_6 (by decide) (fun hc0 => ?_) (fun hc0 => ?_)
  · replace h := o_pos hc0 h
    refine lv_bipush (pc := 38) (v := -2) hx hb dX9_asks_38 (by decide) ?_
    exact g_ret (pc := 40) C hW hS rfl dX9_asks_40 (congrArg (fun q => some (Value.int q)) (o_r h).1) (o_r h).2
  · replace h := o_neg hc0 h
    refine lv_aload_n (pc := 9) hx hb dX9_asks_9 rfl (lv_at hl 0 rfl) ?_
    refine lv_iload_n (pc := 10) hx hb dX9_asks_10 rfl (lv_at hl 2 rfl) ?_
    refine g_virt (pc := 11) (st2 := [.int (f_X9_isMan σ v2)]) (rest := []) C hW hS (c_X9_isMan (K := K - 1) (by omega) rfl) mw_X9_176 inR0 Er_0 rfl (hRoom (by omega) (by decide)) rfl rfl rfl (Nat.le_of_ble_eq_true rfl) hl.1 dX9_asks_11 (fun H locs hW hS => ?_)
    refine lv_if_eq (pc := 14) (tgt := 38) hx hb dX9_asks_14 (by decide) (fun hc1 => ?_) (fun hc1 => ?_)
    · replace h := o_pos hc1 h
      refine lv_bipush (pc := 38) (v := -2) hx hb dX9_asks_38 (by decide) ?_
      exact g_ret (pc := 40) C hW hS rfl dX9_asks_40 (congrArg (fun q => some (Value.int q)) (o_r h).1) (o_r h).2
    · replace h := o_neg hc1 h
      refine lv_iload_n (pc := 17) hx hb dX9_asks_17 rfl (lv_at hl 3 rfl) ?_
      refine lv_iconst (pc := 18) (v := 0) hx hb dX9_asks_18 (by decide) ?_
      refine lv_sipush (pc := 19) (v := 999) hx hb dX9_asks_19 (by decide) ?_
      refine g_stat (pc := 22) (st2 := [.int (f_X9_in v3 (0 : Int32) (999 : Int32))]) (rest := []) C hW hS (c_X9_in (K := K - 1) (by omega) rfl) mw_X9_84 (hRoom (by omega) (by decide)) rfl rfl rfl (Nat.le_of_ble_eq_true rfl) hl.1 dX9_asks_22 (fun H locs hW hS => ?_)
      refine lv_if_eq (pc := 25) (tgt := 38) hx hb dX9_asks_25 (by decide) (fun hc2 => ?_) (fun hc2 => ?_)
      · replace h := o_pos hc2 h
        refine lv_bipush (pc := 38) (v := -2) hx hb dX9_asks_38 (by decide) ?_
        exact g_ret (pc := 40) C hW hS rfl dX9_asks_40 (congrArg (fun q => some (Value.int q)) (o_r h).1) (o_r h).2
      · replace h := o_neg hc2 h
        refine lv_aload_n (pc := 28) hx hb dX9_asks_28 rfl (lv_at hl 0 rfl) ?_
        refine lv_iload_n (pc := 29) hx hb dX9_asks_29 rfl (lv_at hl 1 rfl) ?_
        refine lv_iload_n (pc := 30) hx hb dX9_asks_30 rfl (lv_at hl 2 rfl) ?_
        refine lv_iload_n (pc := 31) hx hb dX9_asks_31 rfl (lv_at hl 3 rfl) ?_
        obtain ⟨r5, σ6, hc3, h⟩ := o_b2 h
        refine g_virt (pc := 32) (st2 := [.int r5]) (rest := []) C hW hS (c_X9_asksOf (K := K - 1) (by omega) hc3) mw_X9_179 inR0 Er_0 rfl (hRoom (by omega) (by decide)) rfl rfl rfl (Nat.le_of_ble_eq_true rfl) hl.1 dX9_asks_32 (fun H locs hW hS => ?_)
        refine lv_goto (pc := 35) (tgt := 40) hx hb dX9_asks_35 (by decide) ?_
        exact g_ret (pc := 40) C hW hS rfl dX9_asks_40 (congrArg (fun q => some (Value.int q)) (o_r h).1) (o_r h).2

theorem c_X9_man {K : Nat}  (hK : 1 ≤ K) {σ : Mem} {σf : Mem} {v1 : Int32} {v2 : Int32} {v3 : Int32} {r : Int32} (h : f_X9_man σ v1 v2 v3 = some (r, σf)) : MC l D (Er ac (z + 80)) inR (z + 80) ac (z, aK, aV) (Ar (z + 80)) yX9_man cX9_man 4 (some .int) K [.ref (z + 80 + 0), .int v1, .int v2, .int v3] σ (some (.int r)) σf := by
  refine MC.of (fun q hq => by have := hq.1; show z ≤ q; omega) (plainFor_of_name (by decide)) (Nat.le_of_ble_eq_true rfl) ?_
  intro p e s m below meth c args C hW ls hl
  replace hl : lv_has ls 4 [(0, .ref (z + 80 + 0)), (1, .int v1), (2, .int v2), (3, .int v3)] := hl
  have hS : va_S (Ar (z + 80)) s.heap s.heap [] := va_S.rf
  have hx := C.1.1
  have hb := C.1.2.1
  unfold f_X9_man at h
  refine lv_iload_n (pc := 0) hx hb dX9_man_0 rfl (lv_at hl 1 rfl) ?_
  refine lv_iconst (pc := 1) (v := 0) hx hb dX9_man_1 (by decide) ?_
  refine lv_iconst (pc := 2) (v := 5) hx hb dX9_man_2 (by decide) ?_
  refine g_stat (pc := 3) (st2 := [.int (f_X9_in v1 (0 : Int32) (5 : Int32))]) (rest := []) C hW hS (c_X9_in (K := K - 1) (by omega) rfl) mw_X9_84 (hRoom (by omega) (by decide)) rfl rfl rfl (Nat.le_of_ble_eq_true rfl) hl.1 dX9_man_3 (fun H locs hW hS => ?_)
  refine lv_if_eq (pc := 6) (tgt := 30) hx hb dX9_man_6 (by decide) (fun hc0 => ?_) (fun hc0 => ?_)
  · replace h := o_pos hc0 h
    refine lv_bipush (pc := 30) (v := -2) hx hb dX9_man_30 (by decide) ?_
    exact g_ret (pc := 32) C hW hS rfl dX9_man_32 (congrArg (fun q => some (Value.int q)) (o_r h).1) (o_r h).2
  · replace h := o_neg hc0 h
    refine lv_iload_n (pc := 9) hx hb dX9_man_9 rfl (lv_at hl 2 rfl) ?_
    refine lv_iconst (pc := 10) (v := 0) hx hb dX9_man_10 (by decide) ?_
    refine lv_bipush (pc := 11) (v := 9) hx hb dX9_man_11 (by decide) ?_
    refine g_stat (pc := 13) (st2 := [.int (f_X9_in v2 (0 : Int32) (9 : Int32))]) (rest := []) C hW hS (c_X9_in (K := K - 1) (by omega) rfl) mw_X9_84 (hRoom (by omega) (by decide)) rfl rfl rfl (Nat.le_of_ble_eq_true rfl) hl.1 dX9_man_13 (fun H locs hW hS => ?_)
    refine lv_if_eq (pc := 16) (tgt := 30) hx hb dX9_man_16 (by decide) (fun hc1 => ?_) (fun hc1 => ?_)
    · replace h := o_pos hc1 h
      refine lv_bipush (pc := 30) (v := -2) hx hb dX9_man_30 (by decide) ?_
      exact g_ret (pc := 32) C hW hS rfl dX9_man_32 (congrArg (fun q => some (Value.int q)) (o_r h).1) (o_r h).2
    · replace h := o_neg hc1 h
      refine lv_iload_n (pc := 19) hx hb dX9_man_19 rfl (lv_at hl 3 rfl) ?_
      refine lv_iconst (pc := 20) (v := 0) hx hb dX9_man_20 (by decide) ?_
      refine lv_sipush (pc := 21) (v := 999) hx hb dX9_man_21 (by decide) ?_
      refine g_stat (pc := 24) (st2 := [.int (f_X9_in v3 (0 : Int32) (999 : Int32))]) (rest := []) C hW hS (c_X9_in (K := K - 1) (by omega) rfl) mw_X9_84 (hRoom (by omega) (by decide)) rfl rfl rfl (Nat.le_of_ble_eq_true rfl) hl.1 dX9_man_24 (fun H locs hW hS => ?_)
      refine lv_if_ne (pc := 27) (tgt := 33) hx hb dX9_man_27 (by decide) (fun hc2 => ?_) (fun hc2 => ?_)
      · replace h := o_neg hc2 h
        refine lv_aload_n (pc := 33) hx hb dX9_man_33 rfl (lv_at hl 0 rfl) ?_
        refine gf_X9_0 (pc := 34) C hW fl_X9_81 dX9_man_34 ?_
        refine lv_bipush (pc := 37) (v := 6) hx hb dX9_man_37 (by decide) ?_
        refine lv_icmp_ne (pc := 39) (tgt := 45) hx hb dX9_man_39 (by decide) (fun hc3 => ?_) (fun hc3 => ?_)
        · replace h := o_neg hc3 h
          refine lv_aload_n (pc := 45) hx hb dX9_man_45 rfl (lv_at hl 0 rfl) ?_
          refine gf_X9_1 (pc := 46) C hW fl_X9_7 dX9_man_46 ?_
          refine lv_aload_n (pc := 49) hx hb dX9_man_49 rfl (lv_at hl 0 rfl) ?_
          refine gf_X9_0 (pc := 50) C hW fl_X9_81 dX9_man_50 ?_
          refine lv_iload_n (pc := 53) hx hb dX9_man_53 rfl (lv_at hl 1 rfl) ?_
          obtain ⟨hc4, h⟩ := o_chk h
          refine ir_st (pc := 54) (k := 1) C hW hS (by decide) (by decide) rfl rfl (inb_in hc4) dX9_man_54 (fun H locs hW hS => ?_)
          refine lv_aload_n (pc := 55) hx hb dX9_man_55 rfl (lv_at hl 0 rfl) ?_
          refine gf_X9_2 (pc := 56) C hW fl_X9_13 dX9_man_56 ?_
          refine lv_aload_n (pc := 59) hx hb dX9_man_59 rfl (lv_at hl 0 rfl) ?_
          refine gf_X9_0 (pc := 60) C hW fl_X9_81 dX9_man_60 ?_
          refine lv_iload_n (pc := 63) hx hb dX9_man_63 rfl (lv_at hl 2 rfl) ?_
          obtain ⟨hc5, h⟩ := o_chk h
          refine ir_st (pc := 64) (k := 2) C hW hS (by decide) (by decide) rfl rfl (inb_in hc5) dX9_man_64 (fun H locs hW hS => ?_)
          obtain ⟨σ7, hσ7, h⟩ := o_d h
          replace hW : WR D ac (z + 80) σ7 H := by rw [← hσ7]; exact hW
          refine lv_aload_n (pc := 65) hx hb dX9_man_65 rfl (lv_at hl 0 rfl) ?_
          refine gf_X9_3 (pc := 66) C hW fl_X9_16 dX9_man_66 ?_
          refine lv_iconst (pc := 69) (v := 4) hx hb dX9_man_69 (by decide) ?_
          refine lv_aload_n (pc := 70) hx hb dX9_man_70 rfl (lv_at hl 0 rfl) ?_
          refine gf_X9_0 (pc := 71) C hW fl_X9_81 dX9_man_71 ?_
          refine lv_imul (pc := 74) hx hb dX9_man_74 ?_
          refine lv_iload_n (pc := 75) hx hb dX9_man_75 rfl (lv_at hl 3 rfl) ?_
          obtain ⟨hc7, h⟩ := o_chk h
          refine ir_st (pc := 76) (k := 3) C hW hS (by decide) (by decide) rfl rfl (inb_in hc7) dX9_man_76 (fun H locs hW hS => ?_)
          obtain ⟨σ9, hσ9, h⟩ := o_d h
          replace hW : WR D ac (z + 80) σ9 H := by rw [← hσ9]; exact hW
          refine lv_aload_n (pc := 77) hx hb dX9_man_77 rfl (lv_at hl 0 rfl) ?_
          refine gf_X9_3 (pc := 78) C hW fl_X9_16 dX9_man_78 ?_
          refine lv_iconst (pc := 81) (v := 4) hx hb dX9_man_81 (by decide) ?_
          refine lv_aload_n (pc := 82) hx hb dX9_man_82 rfl (lv_at hl 0 rfl) ?_
          refine gf_X9_0 (pc := 83) C hW fl_X9_81 dX9_man_83 ?_
          refine lv_imul (pc := 86) hx hb dX9_man_86 ?_
          refine lv_iconst (pc := 87) (v := 1) hx hb dX9_man_87 (by decide) ?_
          refine lv_iadd (pc := 88) hx hb dX9_man_88 ?_
          refine lv_iconst (pc := 89) (v := 0) hx hb dX9_man_89 (by decide) ?_
          obtain ⟨hc9, h⟩ := o_chk h
          refine ir_st (pc := 90) (k := 3) C hW hS (by decide) (by decide) rfl rfl (inb_in hc9) dX9_man_90 (fun H locs hW hS => ?_)
          obtain ⟨σ11, hσ11, h⟩ := o_d h
          replace hW : WR D ac (z + 80) σ11 H := by rw [← hσ11]; exact hW
          refine lv_aload_n (pc := 91) hx hb dX9_man_91 rfl (lv_at hl 0 rfl) ?_
          refine gf_X9_3 (pc := 92) C hW fl_X9_16 dX9_man_92 ?_
          refine lv_iconst (pc := 95) (v := 4) hx hb dX9_man_95 (by decide) ?_
          refine lv_aload_n (pc := 96) hx hb dX9_man_96 rfl (lv_at hl 0 rfl) ?_
          refine gf_X9_0 (pc := 97) C hW fl_X9_81 dX9_man_97 ?_
          refine lv_imul (pc := 100) hx hb dX9_man_100 ?_
          refine lv_iconst (pc := 101) (v := 2) hx hb dX9_man_101 (by decide) ?_
          refine lv_iadd (pc := 102) hx hb dX9_man_102 ?_
          refine lv_iconst (pc := 103) (v := 0) hx hb dX9_man_103 (by decide) ?_
          obtain ⟨hc11, h⟩ := o_chk h
          refine ir_st (pc := 104) (k := 3) C hW hS (by decide) (by decide) rfl rfl (inb_in hc11) dX9_man_104 (fun H locs hW hS => ?_)
          obtain ⟨σ13, hσ13, h⟩ := o_d h
          replace hW : WR D ac (z + 80) σ13 H := by rw [← hσ13]; exact hW
          refine lv_aload_n (pc := 105) hx hb dX9_man_105 rfl (lv_at hl 0 rfl) ?_
          refine gf_X9_3 (pc := 106) C hW fl_X9_16 dX9_man_106 ?_
          refine lv_iconst (pc := 109) (v := 4) hx hb dX9_man_109 (by decide) ?_
          refine lv_aload_n (pc := 110) hx hb dX9_man_110 rfl (lv_at hl 0 rfl) ?_
          refine gf_X9_0 (pc := 111) C hW fl_X9_81 dX9_man_111 ?_
          refine lv_imul (pc := 114) hx hb dX9_man_114 ?_
          refine lv_iconst (pc := 115) (v := 3) hx hb dX9_man_115 (by decide) ?_
          refine lv_iadd (pc := 116) hx hb dX9_man_116 ?_
          refine lv_iconst (pc := 117) (v := 0) hx hb dX9_man_117 (by decide) ?_
          obtain ⟨hc13, h⟩ := o_chk h
          refine ir_st (pc := 118) (k := 3) C hW hS (by decide) (by decide) rfl rfl (inb_in hc13) dX9_man_118 (fun H locs hW hS => ?_)
          obtain ⟨σ15, hσ15, h⟩ := o_d h
          replace hW : WR D ac (z + 80) σ15 H := by rw [← hσ15]; exact hW
          refine lv_aload_n (pc := 119) hx hb dX9_man_119 rfl (lv_at hl 0 rfl) ?_
          refine lv_dup (pc := 120) hx hb dX9_man_120 rfl ?_
          refine gf_X9_0 (pc := 121) C hW fl_X9_81 dX9_man_121 ?_
          refine lv_iconst (pc := 124) (v := 1) hx hb dX9_man_124 (by decide) ?_
          refine lv_iadd (pc := 125) hx hb dX9_man_125 ?_
          refine pf_X9_0 (pc := 126) C hW hS fl_X9_81 dX9_man_126 (fun H locs hW hS => ?_)
          refine lv_aload_n (pc := 129) hx hb dX9_man_129 rfl (lv_at hl 0 rfl) ?_
          refine gf_X9_0 (pc := 130) C hW fl_X9_81 dX9_man_130 ?_
          refine lv_iconst (pc := 133) (v := 1) hx hb dX9_man_133 (by decide) ?_
          refine lv_isub (pc := 134) hx hb dX9_man_134 ?_
          exact g_ret (pc := 135) C hW hS rfl dX9_man_135 (congrArg (fun q => some (Value.int q)) (o_r h).1) (o_r h).2
        · replace h := o_pos hc3 h
          refine lv_bipush (pc := 42) (v := -4) hx hb dX9_man_42 (by decide) ?_
          exact g_ret (pc := 44) C hW hS rfl dX9_man_44 (congrArg (fun q => some (Value.int q)) (o_r h).1) (o_r h).2
      · replace h := o_pos hc2 h
        refine lv_bipush (pc := 30) (v := -2) hx hb dX9_man_30 (by decide) ?_
        exact g_ret (pc := 32) C hW hS rfl dX9_man_32 (congrArg (fun q => some (Value.int q)) (o_r h).1) (o_r h).2

theorem w_X9_set_b34 (C : CX cX9_set 5 RX9 (some .int) D ac p m c s args meth (z, aK, aV) (Ar (z + 80))) (hK : 2 ≤ K) {r : Int32} {σf : Mem}   (σ : Mem) (v1 : Int32) (v2 : Int32) (v3 : Int32) (k0 : Int32) (k1 : Int32) (k2 : Int32)  {H : Heap} {locs : List Loc} {ls : Array Slot} (hW : WR D ac (z + 80) σ H) (hS : va_S (Ar (z + 80)) s.heap H locs) (hl : lv_has ls 5 [(0, .ref (z + 80 + 0)), (1, .int v1), (2, .int v2), (3, .int v3)]) (h : f_X9_set_b34 σ v1 v2 v3 k0 k1 k2 = some (r, σf)) : W p l e (rma K 0 0) s m args below meth c H locs 0 0 (MQ below (QV D (Er ac (z + 80)) inR (z + 80) (some (.int r)) σf (Ar (z + 80))) args s 0 0 (Ar (z + 80))) (F0 m 34 ls [.int k2, .int k1, .int k0]) := by
  have hx := C.1.1
  have hb := C.1.2.1
  unfold f_X9_set_b34 at h
  refine g_stat (pc := 34) (st2 := [.int (f_X9_in k0 k1 k2)]) (rest := []) C hW hS (c_X9_in (K := K - 1) (by omega) rfl) mw_X9_84 (hRoom (by omega) (by decide)) rfl rfl rfl (Nat.le_of_ble_eq_true rfl) hl.1 dX9_set_34 (fun H locs hW hS => ?_)
  refine lv_if_ne (pc := 37) (tgt := 43) hx hb dX9_set_37 (by decide) (fun hc3 => ?_) (fun hc3 => ?_)
  · replace h := o_neg hc3 h
    refine lv_aload_n (pc := 43) hx hb dX9_set_43 rfl (lv_at hl 0 rfl) ?_
    refine gf_X9_3 (pc := 44) C hW fl_X9_16 dX9_set_44 ?_
    refine lv_iconst (pc := 47) (v := 4) hx hb dX9_set_47 (by decide) ?_
    refine lv_iload_n (pc := 48) hx hb dX9_set_48 rfl (lv_at hl 1 rfl) ?_
    refine lv_imul (pc := 49) hx hb dX9_set_49 ?_
    refine lv_iload_n (pc := 50) hx hb dX9_set_50 rfl (lv_at hl 2 rfl) ?_
    refine lv_iadd (pc := 51) hx hb dX9_set_51 ?_
    obtain ⟨hc4, h⟩ := o_chk h
    refine ir_ld (pc := 52) (k := 3) C hW (by decide) (by decide) rfl rfl (inb_in hc4) dX9_set_52 ?_
    obtain ⟨x6, hxx6, h⟩ := o_d h
    refine g_top hxx6 ?_
    refine lv_istore (pc := 53) (lv' := [(4, .int x6), (0, .ref (z + 80 + 0)), (1, .int v1), (2, .int v2), (3, .int v3)]) hx hb dX9_set_53 hl (by decide) rfl (fun ls hl => ?_)
    refine lv_aload_n (pc := 55) hx hb dX9_set_55 rfl (lv_at hl 1 rfl) ?_
    refine gf_X9_3 (pc := 56) C hW fl_X9_16 dX9_set_56 ?_
    refine lv_iconst (pc := 59) (v := 4) hx hb dX9_set_59 (by decide) ?_
    refine lv_iload_n (pc := 60) hx hb dX9_set_60 rfl (lv_at hl 2 rfl) ?_
    refine lv_imul (pc := 61) hx hb dX9_set_61 ?_
    refine lv_iload_n (pc := 62) hx hb dX9_set_62 rfl (lv_at hl 3 rfl) ?_
    refine lv_iadd (pc := 63) hx hb dX9_set_63 ?_
    refine lv_iload_n (pc := 64) hx hb dX9_set_64 rfl (lv_at hl 4 rfl) ?_
    obtain ⟨hc6, h⟩ := o_chk h
    refine ir_st (pc := 65) (k := 3) C hW hS (by decide) (by decide) rfl rfl (inb_in hc6) dX9_set_65 (fun H locs hW hS => ?_)
    obtain ⟨σ8, hσ8, h⟩ := o_d h
    replace hW : WR D ac (z + 80) σ8 H := by rw [← hσ8]; exact hW
    refine lv_iload (pc := 66) hx hb dX9_set_66 (lv_at hl 0 rfl) ?_
    exact g_ret (pc := 68) C hW hS rfl dX9_set_68 (congrArg (fun q => some (Value.int q)) (o_r h).1) (o_r h).2
  · replace h := o_pos hc3 h
    refine lv_bipush (pc := 40) (v := -7) hx hb dX9_set_40 (by decide) ?_
    exact g_ret (pc := 42) C hW hS rfl dX9_set_42 (congrArg (fun q => some (Value.int q)) (o_r h).1) (o_r h).2

theorem c_X9_set {K : Nat}  (hK : 2 ≤ K) {σ : Mem} {σf : Mem} {v1 : Int32} {v2 : Int32} {v3 : Int32} {r : Int32} (h : f_X9_set σ v1 v2 v3 = some (r, σf)) : MC l D (Er ac (z + 80)) inR (z + 80) ac (z, aK, aV) (Ar (z + 80)) yX9_set cX9_set 5 (some .int) K [.ref (z + 80 + 0), .int v1, .int v2, .int v3] σ (some (.int r)) σf := by
  refine MC.of (fun q hq => by have := hq.1; show z ≤ q; omega) (plainFor_of_name (by decide)) (Nat.le_of_ble_eq_true rfl) ?_
  intro p e s m below meth c args C hW ls hl
  replace hl : lv_has ls 5 [(0, .ref (z + 80 + 0)), (1, .int v1), (2, .int v2), (3, .int v3)] := hl
  have hS : va_S (Ar (z + 80)) s.heap s.heap [] := va_S.rf
  have hx := C.1.1
  have hb := C.1.2.1
  unfold f_X9_set at h
  refine lv_aload_n (pc := 0) hx hb dX9_set_0 rfl (lv_at hl 0 rfl) ?_
  refine lv_iload_n (pc := 1) hx hb dX9_set_1 rfl (lv_at hl 1 rfl) ?_
  refine g_virt (pc := 2) (st2 := [.int (f_X9_isMan σ v1)]) (rest := []) C hW hS (c_X9_isMan (K := K - 1) (by omega) rfl) mw_X9_176 inR0 Er_0 rfl (hRoom (by omega) (by decide)) rfl rfl rfl (Nat.le_of_ble_eq_true rfl) hl.1 dX9_set_2 (fun H locs hW hS => ?_)
  refine lv_if_ne (pc := 5) (tgt := 11) hx hb dX9_set_5 (by decide) (fun hc0 => ?_) (fun hc0 => ?_)
  · replace h := o_neg hc0 h
    refine lv_iload_n (pc := 11) hx hb dX9_set_11 rfl (lv_at hl 2 rfl) ?_
    refine lv_iconst (pc := 12) (v := 0) hx hb dX9_set_12 (by decide) ?_
    refine lv_iconst (pc := 13) (v := 2) hx hb dX9_set_13 (by decide) ?_
    refine g_stat (pc := 14) (st2 := [.int (f_X9_in v2 (0 : Int32) (2 : Int32))]) (rest := []) C hW hS (c_X9_in (K := K - 1) (by omega) rfl) mw_X9_84 (hRoom (by omega) (by decide)) rfl rfl rfl (Nat.le_of_ble_eq_true rfl) hl.1 dX9_set_14 (fun H locs hW hS => ?_)
    refine lv_if_eq (pc := 17) (tgt := 40) hx hb dX9_set_17 (by decide) (fun hc1 => ?_) (fun hc1 => ?_)
    · replace h := o_pos hc1 h
      refine lv_bipush (pc := 40) (v := -7) hx hb dX9_set_40 (by decide) ?_
      exact g_ret (pc := 42) C hW hS rfl dX9_set_42 (congrArg (fun q => some (Value.int q)) (o_r h).1) (o_r h).2
    · replace h := o_neg hc1 h
      refine lv_iload_n (pc := 20) hx hb dX9_set_20 rfl (lv_at hl 3 rfl) ?_
      refine lv_iconst (pc := 21) (v := 0) hx hb dX9_set_21 (by decide) ?_
      refine lv_iload_n (pc := 22) hx hb dX9_set_22 rfl (lv_at hl 2 rfl) ?_
      refine lv_if_ne (pc := 23) (tgt := 32) hx hb dX9_set_23 (by decide) (fun hc2 => ?_) (fun hc2 => ?_)
      · replace h := o_neg hc2 h
        refine lv_bipush (pc := 32) (v := 9) hx hb dX9_set_32 (by decide) ?_
        exact w_X9_set_b34 C hK σ v1 v2 v3 v3 (0 : Int32) (9 : Int32) hW hS (lv_sub hl [0, 1, 2, 3] rfl) h
      · replace h := o_pos hc2 h
        refine lv_sipush (pc := 26) (v := 999) hx hb dX9_set_26 (by decide) ?_
        refine lv_goto (pc := 29) (tgt := 34) hx hb dX9_set_29 (by decide) ?_
        exact w_X9_set_b34 C hK σ v1 v2 v3 v3 (0 : Int32) (999 : Int32) hW hS (lv_sub hl [0, 1, 2, 3] rfl) h
  · replace h := o_pos hc0 h
    refine lv_bipush (pc := 8) (v := -5) hx hb dX9_set_8 (by decide) ?_
    exact g_ret (pc := 10) C hW hS rfl dX9_set_10 (congrArg (fun q => some (Value.int q)) (o_r h).1) (o_r h).2

theorem w_X9_growsOf_b31 (C : CX cX9_growsOf 6 RX9 (some .int) D ac p m c s args meth (z, aK, aV) (Ar (z + 80))) (hK : 3 ≤ K) {r : Int32} {σf : Mem}   (σ : Mem) (v1 : Int32) (v2 : Int32) (v3 : Int32) (v4 : Int32) (k0 : Int32)  {H : Heap} {locs : List Loc} {ls : Array Slot} (hW : WR D ac (z + 80) σ H) (hS : va_S (Ar (z + 80)) s.heap H locs) (hl : lv_has ls 6 [(0, .ref (z + 80 + 0)), (1, .int v1), (2, .int v2), (3, .int v3), (4, .int v4)]) (h : f_X9_growsOf_b31 σ v1 v2 v3 v4 k0 = some (r, σf)) : W p l e (rma K 0 0) s m args below meth c H locs 0 0 (MQ below (QV D (Er ac (z + 80)) inR (z + 80) (some (.int r)) σf (Ar (z + 80))) args s 0 0 (Ar (z + 80))) (F0 m 31 ls [.int k0]) := by
  have hx := C.1.1
  have hb := C.1.2.1
  unfold f_X9_growsOf_b31 at h
  refine lv_istore (pc := 31) (lv' := [(5, .int k0), (0, .ref (z + 80 + 0)), (1, .int v1), (2, .int v2), (3, .int v3), (4, .int v4)]) hx hb dX9_growsOf_31 hl (by decide) rfl (fun ls hl => ?_)
  refine lv_aload_n (pc := 33) hx hb dX9_growsOf_33 rfl (lv_at hl 1 rfl) ?_
  refine gf_X9_1 (pc := 34) C hW fl_X9_7 dX9_growsOf_34 ?_
  refine lv_iload_n (pc := 37) hx hb dX9_growsOf_37 rfl (lv_at hl 2 rfl) ?_
  obtain ⟨hc5, h⟩ := o_chk h
  refine ir_ld (pc := 38) (k := 1) C hW (by decide) (by decide) rfl rfl (inb_in hc5) dX9_growsOf_38 ?_
  by_cases hc6 : (σ 1 (v1.toNatClampNeg)) = 1
  · replace h := o_pos hc6 h
    refine lv_tableIn (pc := 39) (off := 33) (tgt := 72) hx hb dX9_growsOf_39 (by rw [hc6]; decide) (by rw [hc6]; decide) (by rw [hc6]; rfl) (by decide) ?_
    refine lv_iload_n (pc := 72) hx hb dX9_growsOf_72 rfl (lv_at hl 4 rfl) ?_
    refine lv_iconst (pc := 73) (v := 2) hx hb dX9_growsOf_73 (by decide) ?_
    refine lv_idiv (pc := 74) hx hb dX9_growsOf_74 (by decide) ?_
    exact g_ret (pc := 75) C hW hS rfl dX9_growsOf_75 (congrArg (fun q => some (Value.int q)) (o_r h).1) (o_r h).2
  replace h := o_neg hc6 h
  by_cases hc7 : (σ 1 (v1.toNatClampNeg)) = 2
  · replace h := o_pos hc7 h
    refine lv_tableIn (pc := 39) (off := 37) (tgt := 76) hx hb dX9_growsOf_39 (by rw [hc7]; decide) (by rw [hc7]; decide) (by rw [hc7]; rfl) (by decide) ?_
    refine lv_iload (pc := 76) hx hb dX9_growsOf_76 (lv_at hl 0 rfl) ?_
    exact g_ret (pc := 78) C hW hS rfl dX9_growsOf_78 (congrArg (fun q => some (Value.int q)) (o_r h).1) (o_r h).2
  replace h := o_neg hc7 h
  by_cases hc8 : (σ 1 (v1.toNatClampNeg)) = 3
  · replace h := o_pos hc8 h
    refine lv_tableIn (pc := 39) (off := 40) (tgt := 79) hx hb dX9_growsOf_39 (by rw [hc8]; decide) (by rw [hc8]; decide) (by rw [hc8]; rfl) (by decide) ?_
    refine lv_iload_n (pc := 79) hx hb dX9_growsOf_79 rfl (lv_at hl 4 rfl) ?_
    refine lv_iconst (pc := 80) (v := 2) hx hb dX9_growsOf_80 (by decide) ?_
    refine lv_idiv (pc := 81) hx hb dX9_growsOf_81 (by decide) ?_
    refine lv_iload (pc := 82) hx hb dX9_growsOf_82 (lv_at hl 5 rfl) ?_
    refine lv_iconst (pc := 84) (v := 3) hx hb dX9_growsOf_84 (by decide) ?_
    refine lv_idiv (pc := 85) hx hb dX9_growsOf_85 (by decide) ?_
    refine lv_iadd (pc := 86) hx hb dX9_growsOf_86 ?_
    exact g_ret (pc := 87) C hW hS rfl dX9_growsOf_87 (congrArg (fun q => some (Value.int q)) (o_r h).1) (o_r h).2
  replace h := o_neg hc8 h
  by_cases hc9 : (σ 1 (v1.toNatClampNeg)) = 4
  · replace h := o_pos hc9 h
    refine lv_tableIn (pc := 39) (off := 49) (tgt := 88) hx hb dX9_growsOf_39 (by rw [hc9]; decide) (by rw [hc9]; decide) (by rw [hc9]; rfl) (by decide) ?_
    refine lv_iload_n (pc := 88) hx hb dX9_growsOf_88 rfl (lv_at hl 3 rfl) ?_
    refine lv_iconst (pc := 89) (v := 4) hx hb dX9_growsOf_89 (by decide) ?_
    refine lv_irem (pc := 90) hx hb dX9_growsOf_90 (by decide) ?_
    refine lv_iconst (pc := 91) (v := 3) hx hb dX9_growsOf_91 (by decide) ?_
    refine lv_icmp_ne (pc := 92) (tgt := 99) hx hb dX9_growsOf_92 (by decide) (fun hc10 => ?_) (fun hc10 => ?_)
    · replace h := o_neg hc10 h
      refine lv_iload (pc := 99) hx hb dX9_growsOf_99 (lv_at hl 0 rfl) ?_
      refine lv_iconst (pc := 101) (v := 2) hx hb dX9_growsOf_101 (by decide) ?_
      refine lv_iadd (pc := 102) hx hb dX9_growsOf_102 ?_
      exact g_ret (pc := 103) C hW hS rfl dX9_growsOf_103 (congrArg (fun q => some (Value.int q)) (o_r h).1) (o_r h).2
    · replace h := o_pos hc10 h
      refine lv_iconst (pc := 95) (v := 0) hx hb dX9_growsOf_95 (by decide) ?_
      refine lv_goto (pc := 96) (tgt := 103) hx hb dX9_growsOf_96 (by decide) ?_
      exact g_ret (pc := 103) C hW hS rfl dX9_growsOf_103 (congrArg (fun q => some (Value.int q)) (o_r h).1) (o_r h).2
  replace h := o_neg hc9 h
  by_cases hc11 : (σ 1 (v1.toNatClampNeg)) = 5
  · replace h := o_pos hc11 h
    refine lv_tableIn (pc := 39) (off := 65) (tgt := 104) hx hb dX9_growsOf_39 (by rw [hc11]; decide) (by rw [hc11]; decide) (by rw [hc11]; rfl) (by decide) ?_
    refine lv_iload_n (pc := 104) hx hb dX9_growsOf_104 rfl (lv_at hl 3 rfl) ?_
    refine lv_bipush (pc := 105) (v := 52) hx hb dX9_growsOf_105 (by decide) ?_
    refine lv_irem (pc := 107) hx hb dX9_growsOf_107 (by decide) ?_
    refine lv_bipush (pc := 108) (v := 10) hx hb dX9_growsOf_108 (by decide) ?_
    refine lv_icmp_lt (pc := 110) (tgt := 122) hx hb dX9_growsOf_110 (by decide) (fun hc12 => ?_) (fun hc12 => ?_)
    · replace h := o_pos hc12 h
      refine lv_iload_n (pc := 122) hx hb dX9_growsOf_122 rfl (lv_at hl 4 rfl) ?_
      refine lv_iconst (pc := 123) (v := 3) hx hb dX9_growsOf_123 (by decide) ?_
      refine lv_idiv (pc := 124) hx hb dX9_growsOf_124 (by decide) ?_
      refine lv_goto (pc := 125) (tgt := 134) hx hb dX9_growsOf_125 (by decide) ?_
      exact g_ret (pc := 134) C hW hS rfl dX9_growsOf_134 (congrArg (fun q => some (Value.int q)) (o_r h).1) (o_r h).2
    · replace h := o_neg hc12 h
      refine lv_iload_n (pc := 113) hx hb dX9_growsOf_113 rfl (lv_at hl 3 rfl) ?_
      refine lv_bipush (pc := 114) (v := 52) hx hb dX9_growsOf_114 (by decide) ?_
      refine lv_irem (pc := 116) hx hb dX9_growsOf_116 (by decide) ?_
      refine lv_bipush (pc := 117) (v := 42) hx hb dX9_growsOf_117 (by decide) ?_
      refine lv_icmp_le (pc := 119) (tgt := 128) hx hb dX9_growsOf_119 (by decide) (fun hc13 => ?_) (fun hc13 => ?_)
      · replace h := o_pos hc13 h
        refine lv_iload_n (pc := 128) hx hb dX9_growsOf_128 rfl (lv_at hl 4 rfl) ?_
        refine lv_iload (pc := 129) hx hb dX9_growsOf_129 (lv_at hl 5 rfl) ?_
        refine lv_iconst (pc := 131) (v := 2) hx hb dX9_growsOf_131 (by decide) ?_
        refine lv_idiv (pc := 132) hx hb dX9_growsOf_132 (by decide) ?_
        refine lv_iadd (pc := 133) hx hb dX9_growsOf_133 ?_
        exact g_ret (pc := 134) C hW hS rfl dX9_growsOf_134 (congrArg (fun q => some (Value.int q)) (o_r h).1) (o_r h).2
      · replace h := o_neg hc13 h
        refine lv_iload_n (pc := 122) hx hb dX9_growsOf_122 rfl (lv_at hl 4 rfl) ?_
        refine lv_iconst (pc := 123) (v := 3) hx hb dX9_growsOf_123 (by decide) ?_
        refine lv_idiv (pc := 124) hx hb dX9_growsOf_124 (by decide) ?_
        refine lv_goto (pc := 125) (tgt := 134) hx hb dX9_growsOf_125 (by decide) ?_
        exact g_ret (pc := 134) C hW hS rfl dX9_growsOf_134 (congrArg (fun q => some (Value.int q)) (o_r h).1) (o_r h).2
  replace h := o_neg hc11 h
  have hzhc6 := lv_neT (k := 1) (a := 1) hc6 (by decide)
  have hzhc7 := lv_neT (k := 2) (a := 2) hc7 (by decide)
  have hzhc8 := lv_neT (k := 3) (a := 3) hc8 (by decide)
  have hzhc9 := lv_neT (k := 4) (a := 4) hc9 (by decide)
  have hzhc11 := lv_neT (k := 5) (a := 5) hc11 (by decide)
  refine lv_tableOut (pc := 39) (tgt := 135) hx hb dX9_growsOf_39 (by omega) (by decide) ?_
  refine lv_iload_n (pc := 135) hx hb dX9_growsOf_135 rfl (lv_at hl 4 rfl) ?_
  exact g_ret (pc := 136) C hW hS rfl dX9_growsOf_136 (congrArg (fun q => some (Value.int q)) (o_r h).1) (o_r h).2

theorem c_X9_growsOf {K : Nat}  (hK : 3 ≤ K) {σ : Mem} {σf : Mem} {v1 : Int32} {v2 : Int32} {r : Int32} (h : f_X9_growsOf σ v1 v2 = some (r, σf)) : MC l D (Er ac (z + 80)) inR (z + 80) ac (z, aK, aV) (Ar (z + 80)) yX9_growsOf cX9_growsOf 6 (some .int) K [.ref (z + 80 + 0), .int v1, .int v2] σ (some (.int r)) σf := by
  refine MC.of (fun q hq => by have := hq.1; show z ≤ q; omega) (plainFor_of_name (by decide)) (Nat.le_of_ble_eq_true rfl) ?_
  intro p e s m below meth c args C hW ls hl
  replace hl : lv_has ls 6 [(0, .ref (z + 80 + 0)), (1, .int v1), (2, .int v2)] := hl
  have hS : va_S (Ar (z + 80)) s.heap s.heap [] := va_S.rf
  have hx := C.1.1
  have hb := C.1.2.1
  unfold f_X9_growsOf at h
  refine lv_aload_n (pc := 0) hx hb dX9_growsOf_0 rfl (lv_at hl 0 rfl) ?_
  refine lv_iconst (pc := 1) (v := 0) hx hb dX9_growsOf_1 (by decide) ?_
  refine lv_iload_n (pc := 2) hx hb dX9_growsOf_2 rfl (lv_at hl 1 rfl) ?_
  refine lv_iload_n (pc := 3) hx hb dX9_growsOf_3 rfl (lv_at hl 2 rfl) ?_
  obtain ⟨r2, σ3, hc0, h⟩ := o_b2 h
  refine g_virt (pc := 4) (st2 := [.int r2]) (rest := []) C hW hS (c_X9_asksOf (K := K - 1) (by omega) hc0) mw_X9_179 inR0 Er_0 rfl (hRoom (by omega) (by decide)) rfl rfl rfl (Nat.le_of_ble_eq_true rfl) hl.1 dX9_growsOf_4 (fun H locs hW hS => ?_)
  refine lv_istore_n (pc := 7) (lv' := [(3, .int r2), (0, .ref (z + 80 + 0)), (1, .int v1), (2, .int v2)]) hx hb dX9_growsOf_7 rfl hl (by decide) rfl (fun ls hl => ?_)
  refine lv_aload_n (pc := 8) hx hb dX9_growsOf_8 rfl (lv_at hl 1 rfl) ?_
  refine gf_X9_2 (pc := 9) C hW fl_X9_13 dX9_growsOf_9 ?_
  refine lv_iload_n (pc := 12) hx hb dX9_growsOf_12 rfl (lv_at hl 2 rfl) ?_
  obtain ⟨hc3, h⟩ := o_chk h
  refine ir_ld (pc := 13) (k := 2) C hW (by decide) (by decide) rfl rfl (inb_in hc3) dX9_growsOf_13 ?_
  refine lv_istore (pc := 14) (lv' := [(4, .int (σ3 2 (v1.toNatClampNeg))), (3, .int r2), (0, .ref (z + 80 + 0)), (1, .int v1), (2, .int v2)]) hx hb dX9_growsOf_14 hl (by decide) rfl (fun ls hl => ?_)
  refine lv_iload_n (pc := 16) hx hb dX9_growsOf_16 rfl (lv_at hl 4 rfl) ?_
  refine lv_iconst (pc := 17) (v := 2) hx hb dX9_growsOf_17 (by decide) ?_
  refine lv_iload (pc := 18) hx hb dX9_growsOf_18 (lv_at hl 0 rfl) ?_
  refine lv_imul (pc := 20) hx hb dX9_growsOf_20 ?_
  refine lv_icmp_ge (pc := 21) (tgt := 28) hx hb dX9_growsOf_21 (by decide) (fun hc4 => ?_) (fun hc4 => ?_)
  · replace h := o_pos hc4 h
    refine lv_iload_n (pc := 28) hx hb dX9_growsOf_28 rfl (lv_at hl 1 rfl) ?_
    refine lv_iconst (pc := 29) (v := 1) hx hb dX9_growsOf_29 (by decide) ?_
    refine lv_iadd (pc := 30) hx hb dX9_growsOf_30 ?_
    exact w_X9_growsOf_b31 C hK σ3 v1 v2 r2 (σ3 2 (v1.toNatClampNeg)) (r2 + (1 : Int32)) hW hS (lv_sub hl [2, 3, 4, 1, 0] rfl) h
  · replace h := o_neg hc4 h
    refine lv_iconst (pc := 24) (v := 0) hx hb dX9_growsOf_24 (by decide) ?_
    refine lv_goto (pc := 25) (tgt := 31) hx hb dX9_growsOf_25 (by decide) ?_
    exact w_X9_growsOf_b31 C hK σ3 v1 v2 r2 (σ3 2 (v1.toNatClampNeg)) (0 : Int32) hW hS (lv_sub hl [2, 3, 4, 1, 0] rfl) h

theorem c_X9_countsOf {K : Nat}  (hK : 0 ≤ K) {σ : Mem} {v1 : Int32} {v2 : Int32} {r : Int32} (h : f_X9_countsOf σ v1 v2 = some r) : MC l D (Er ac (z + 80)) inR (z + 80) ac (z, aK, aV) (Ar (z + 80)) yX9_countsOf cX9_countsOf 4 (some .int) K [.ref (z + 80 + 0), .int v1, .int v2] σ (some (.int r)) σ := by
  refine MC.of (fun q hq => by have := hq.1; show z ≤ q; omega) (plainFor_of_name (by decide)) (Nat.le_of_ble_eq_true rfl) ?_
  intro p e s m below meth c args C hW ls hl
  replace hl : lv_has ls 4 [(0, .ref (z + 80 + 0)), (1, .int v1), (2, .int v2)] := hl
  have hS : va_S (Ar (z + 80)) s.heap s.heap [] := va_S.rf
  have hx := C.1.1
  have hb := C.1.2.1
  unfold f_X9_countsOf at h
  refine lv_aload_n (pc := 0) hx hb dX9_countsOf_0 rfl (lv_at hl 0 rfl) ?_
  refine gf_X9_1 (pc := 1) C hW fl_X9_7 dX9_countsOf_1 ?_
  refine lv_iload_n (pc := 4) hx hb dX9_countsOf_4 rfl (lv_at hl 1 rfl) ?_
  obtain ⟨hc0, h⟩ := o_chk h
  refine ir_ld (pc := 5) (k := 1) C hW (by decide) (by decide) rfl rfl (inb_in hc0) dX9_countsOf_5 ?_
  refine lv_istore_n (pc := 6) (lv' := [(3, .int (σ 1 (v1.toNatClampNeg))), (0, .ref (z + 80 + 0)), (1, .int v1), (2, .int v2)]) hx hb dX9_countsOf_6 rfl hl (by decide) rfl (fun ls hl => ?_)
  refine lv_iload_n (pc := 7) hx hb dX9_countsOf_7 rfl (lv_at hl 0 rfl) ?_
  refine lv_iconst (pc := 8) (v := 1) hx hb dX9_countsOf_8 (by decide) ?_
  refine lv_icmp_eq (pc := 9) (tgt := 17) hx hb dX9_countsOf_9 (by decide) (fun hc1 => ?_) (fun hc1 => ?_)
  · replace h := o_pos hc1 h
    refine lv_iconst (pc := 17) (v := 2) hx hb dX9_countsOf_17 (by decide) ?_
    refine lv_iload_n (pc := 18) hx hb dX9_countsOf_18 rfl (lv_at hl 3 rfl) ?_
    refine lv_imul (pc := 19) hx hb dX9_countsOf_19 ?_
    refine lv_goto (pc := 20) (tgt := 46) hx hb dX9_countsOf_20 (by decide) ?_
    exact g_ret (pc := 46) C hW hS rfl dX9_countsOf_46 (congrArg (fun q => some (Value.int q)) (Option.some.inj h).symm) rfl
  · replace h := o_neg hc1 h
    refine lv_iload_n (pc := 12) hx hb dX9_countsOf_12 rfl (lv_at hl 0 rfl) ?_
    refine lv_iconst (pc := 13) (v := 3) hx hb dX9_countsOf_13 (by decide) ?_
    refine lv_icmp_ne (pc := 14) (tgt := 23) hx hb dX9_countsOf_14 (by decide) (fun hc2 => ?_) (fun hc2 => ?_)
    · replace h := o_neg hc2 h
      refine lv_iload_n (pc := 23) hx hb dX9_countsOf_23 rfl (lv_at hl 0 rfl) ?_
      refine lv_iconst (pc := 24) (v := 4) hx hb dX9_countsOf_24 (by decide) ?_
      refine lv_icmp_ne (pc := 25) (tgt := 45) hx hb dX9_countsOf_25 (by decide) (fun hc3 => ?_) (fun hc3 => ?_)
      · replace h := o_neg hc3 h
        refine lv_iload_n (pc := 45) hx hb dX9_countsOf_45 rfl (lv_at hl 3 rfl) ?_
        exact g_ret (pc := 46) C hW hS rfl dX9_countsOf_46 (congrArg (fun q => some (Value.int q)) (Option.some.inj h).symm) rfl
      · replace h := o_pos hc3 h
        refine lv_iload_n (pc := 28) hx hb dX9_countsOf_28 rfl (lv_at hl 3 rfl) ?_
        refine lv_bipush (pc := 29) (v := 9) hx hb dX9_countsOf_29 (by decide) ?_
        refine lv_aload_n (pc := 31) hx hb dX9_countsOf_31 rfl (lv_at hl 1 rfl) ?_
        refine gf_X9_2 (pc := 32) C hW fl_X9_13 dX9_countsOf_32 ?_
        refine lv_iload_n (pc := 35) hx hb dX9_countsOf_35 rfl (lv_at hl 2 rfl) ?_
        obtain ⟨hc4, h⟩ := o_chk h
        refine ir_ld (pc := 36) (k := 2) C hW (by decide) (by decide) rfl rfl (inb_in hc4) dX9_countsOf_36 ?_
        refine lv_isub (pc := 37) hx hb dX9_countsOf_37 ?_
        refine lv_imul (pc := 38) hx hb dX9_countsOf_38 ?_
        refine lv_bipush (pc := 39) (v := 10) hx hb dX9_countsOf_39 (by decide) ?_
        refine lv_idiv (pc := 41) hx hb dX9_countsOf_41 (by decide) ?_
        refine lv_goto (pc := 42) (tgt := 46) hx hb dX9_countsOf_42 (by decide) ?_
        exact g_ret (pc := 46) C hW hS rfl dX9_countsOf_46 (congrArg (fun q => some (Value.int q)) (Option.some.inj h).symm) rfl
    · replace h := o_pos hc2 h
      refine lv_iconst (pc := 17) (v := 2) hx hb dX9_countsOf_17 (by decide) ?_
      refine lv_iload_n (pc := 18) hx hb dX9_countsOf_18 rfl (lv_at hl 3 rfl) ?_
      refine lv_imul (pc := 19) hx hb dX9_countsOf_19 ?_
      refine lv_goto (pc := 20) (tgt := 46) hx hb dX9_countsOf_20 (by decide) ?_
      exact g_ret (pc := 46) C hW hS rfl dX9_countsOf_46 (congrArg (fun q => some (Value.int q)) (Option.some.inj h).symm) rfl

end
