section
variable {p : Program} {l : Launch} {e : Env} {s : State} {m : MethodId} {args : Array Value} {below : List Frame} {meth : Method} {c : Code} {D : va_G} {ac : Nat → ClassId} {z : Nat} {aK aV : Nat → Nat} {K : Nat}

theorem w_X6_become_b75 (C : CX cX6_become 3 RX6 none D ac p m c s args meth (z, aK, aV) (Ac z)) (hK : 1 ≤ K) {σf : Mem}   (v0 : Nat) (v1 : Nat)  : ∀ (n : Nat) (σ : Mem) (v2 : Int32) {H : Heap} {locs : List Loc} {ls : Array Slot} (tv0 : kd v0 = 6) (tv1 : kd v1 = 6) (hW : WC D ac z σ H) (hS : va_S (Ac z) s.heap H locs) (hl : lv_has ls 3 [(0, .ref (z + v0)), (1, .ref (z + v1)), (2, .int v2)]) (h : f_X6_become_b75 v0 v1 n σ v2 = some σf), W p l e (rma K 0 0) s m args below meth c H locs 0 0 (MQ below (QV D (Ec ac z) inC z none σf (Ac z)) args s 0 0 (Ac z)) (F0 m 75 ls []) := by
  have hx := C.1.1
  have hb := C.1.2.1
  intro n
  induction n with
  | zero =>
    intro σ v2 H locs ls tv0 tv1 hW hS hl h
    cases h
  | succ n ih =>
    intro σ v2 H locs ls tv0 tv1 hW hS hl h
    rw [f_X6_become_b75.eq_2] at h
    refine lv_iload_n (pc := 75) hx hb dX6_become_75 rfl (lv_at hl 2 rfl) ?_
    refine lv_aload_n (pc := 76) hx hb dX6_become_76 rfl (lv_at hl 0 rfl) ?_
    refine gf_X6_2 (pc := 77) C hW tv0 fl_X6_19 dX6_become_77 ?_
    refine ra_vowslen (pc := 80) C hW tv0 dX6_become_80 ?_
    refine lv_icmp_ge (pc := 81) (tgt := 114) hx hb dX6_become_81 (by decide) (fun hc8 => ?_) (fun hc8 => ?_)
    · replace h := o_pos hc8 h
      exact g_vret (pc := 114) C hW hS dX6_become_114 rfl (Option.some.inj h).symm
    · replace h := o_neg hc8 h
      refine lv_iload_n (pc := 84) hx hb dX6_become_84 rfl (lv_at hl 2 rfl) ?_
      refine lv_aload_n (pc := 85) hx hb dX6_become_85 rfl (lv_at hl 1 rfl) ?_
      refine gf_X6_2 (pc := 86) C hW tv1 fl_X6_19 dX6_become_86 ?_
      refine ra_vowslen (pc := 89) C hW tv1 dX6_become_89 ?_
      refine lv_icmp_ge (pc := 90) (tgt := 114) hx hb dX6_become_90 (by decide) (fun hc9 => ?_) (fun hc9 => ?_)
      · replace h := o_pos hc9 h
        exact g_vret (pc := 114) C hW hS dX6_become_114 rfl (Option.some.inj h).symm
      · replace h := o_neg hc9 h
        refine lv_aload_n (pc := 93) hx hb dX6_become_93 rfl (lv_at hl 0 rfl) ?_
        refine gf_X6_2 (pc := 94) C hW tv0 fl_X6_19 dX6_become_94 ?_
        refine lv_iload_n (pc := 97) hx hb dX6_become_97 rfl (lv_at hl 2 rfl) ?_
        obtain ⟨hc10, h⟩ := o_chk h
        refine ra_vows (pc := 98) C hW tv0 hc10 dX6_become_98 ?_
        refine lv_aload_n (pc := 99) hx hb dX6_become_99 rfl (lv_at hl 1 rfl) ?_
        refine gf_X6_2 (pc := 100) C hW tv1 fl_X6_19 dX6_become_100 ?_
        refine lv_iload_n (pc := 103) hx hb dX6_become_103 rfl (lv_at hl 2 rfl) ?_
        obtain ⟨hc11, h⟩ := o_chk h
        refine ra_vows (pc := 104) C hW tv1 hc11 dX6_become_104 ?_
        refine g_virt (pc := 105) (st2 := []) (rest := []) C hW hS (c_X7_become (K := K - 1) (by omega) (kd_vow tv0 hc10) (kd_vow tv1 hc11) rfl) mw_X6_46 (kin_10 (kd_vow tv0 hc10)) (Ek_10 (kd_vow tv0 hc10)) rfl (hRoom (by omega) (by decide)) rfl rfl rfl (Nat.le_of_ble_eq_true rfl) hl.1 dX6_become_105 (fun H locs hW hS => ?_)
        obtain ⟨σ13, hσ13, h⟩ := o_d h
        replace hW : WC D ac z σ13 H := by rw [← hσ13]; exact hW
        refine lv_iinc (pc := 108) (v := (v2 + 1)) (lv' := [(2, .int (v2 + 1)), (0, .ref (z + v0)), (1, .ref (z + v1))]) hx hb dX6_become_108 hl (k := 2) rfl rfl (by decide) rfl (fun ls hl => ?_)
        refine lv_goto (pc := 111) (tgt := 75) hx hb dX6_become_111 (by decide) ?_
        exact ih σ13 (v2 + 1) tv0 tv1 hW hS (lv_sub hl [1, 2, 0] rfl) h

theorem w_X6_become_b73 (C : CX cX6_become 3 RX6 none D ac p m c s args meth (z, aK, aV) (Ac z)) (hK : 1 ≤ K) {σf : Mem}   (σ : Mem) (v0 : Nat) (v1 : Nat)  {H : Heap} {locs : List Loc} {ls : Array Slot} (tv0 : kd v0 = 6) (tv1 : kd v1 = 6) (hW : WC D ac z σ H) (hS : va_S (Ac z) s.heap H locs) (hl : lv_has ls 3 [(0, .ref (z + v0)), (1, .ref (z + v1))]) (h : f_X6_become_b73 σ v0 v1 = some σf) : W p l e (rma K 0 0) s m args below meth c H locs 0 0 (MQ below (QV D (Ec ac z) inC z none σf (Ac z)) args s 0 0 (Ac z)) (F0 m 73 ls []) := by
  have hx := C.1.1
  have hb := C.1.2.1
  unfold f_X6_become_b73 at h
  refine lv_iconst (pc := 73) (v := 0) hx hb dX6_become_73 (by decide) ?_
  refine lv_istore_n (pc := 74) (lv' := [(2, .int (0 : Int32)), (0, .ref (z + v0)), (1, .ref (z + v1))]) hx hb dX6_become_74 rfl hl (by decide) rfl (fun ls hl => ?_)
  exact w_X6_become_b75 C hK v0 v1 FU σ (0 : Int32) tv0 tv1 hW hS (lv_sub hl [1, 2, 0] rfl) h

theorem w_X6_become_b34 (C : CX cX6_become 3 RX6 none D ac p m c s args meth (z, aK, aV) (Ac z)) (hK : 1 ≤ K) {σf : Mem}   (v0 : Nat) (v1 : Nat)  : ∀ (n : Nat) (σ : Mem) (v2 : Int32) {H : Heap} {locs : List Loc} {ls : Array Slot} (tv0 : kd v0 = 6) (tv1 : kd v1 = 6) (hW : WC D ac z σ H) (hS : va_S (Ac z) s.heap H locs) (hl : lv_has ls 3 [(0, .ref (z + v0)), (1, .ref (z + v1)), (2, .int v2)]) (h : f_X6_become_b34 v0 v1 n σ v2 = some σf), W p l e (rma K 0 0) s m args below meth c H locs 0 0 (MQ below (QV D (Ec ac z) inC z none σf (Ac z)) args s 0 0 (Ac z)) (F0 m 34 ls []) := by
  have hx := C.1.1
  have hb := C.1.2.1
  intro n
  induction n with
  | zero =>
    intro σ v2 H locs ls tv0 tv1 hW hS hl h
    cases h
  | succ n ih =>
    intro σ v2 H locs ls tv0 tv1 hW hS hl h
    rw [f_X6_become_b34.eq_2] at h
    refine lv_iload_n (pc := 34) hx hb dX6_become_34 rfl (lv_at hl 2 rfl) ?_
    refine lv_aload_n (pc := 35) hx hb dX6_become_35 rfl (lv_at hl 0 rfl) ?_
    refine gf_X6_1 (pc := 36) C hW tv0 fl_X6_11 dX6_become_36 ?_
    refine ra_menlen (pc := 39) C hW tv0 dX6_become_39 ?_
    refine lv_icmp_ge (pc := 40) (tgt := 73) hx hb dX6_become_40 (by decide) (fun hc2 => ?_) (fun hc2 => ?_)
    · replace h := o_pos hc2 h
      exact w_X6_become_b73 C hK σ v0 v1 tv0 tv1 hW hS (lv_sub hl [0, 1] rfl) h
    · replace h := o_neg hc2 h
      refine lv_iload_n (pc := 43) hx hb dX6_become_43 rfl (lv_at hl 2 rfl) ?_
      refine lv_aload_n (pc := 44) hx hb dX6_become_44 rfl (lv_at hl 1 rfl) ?_
      refine gf_X6_1 (pc := 45) C hW tv1 fl_X6_11 dX6_become_45 ?_
      refine ra_menlen (pc := 48) C hW tv1 dX6_become_48 ?_
      refine lv_icmp_ge (pc := 49) (tgt := 73) hx hb dX6_become_49 (by decide) (fun hc3 => ?_) (fun hc3 => ?_)
      · replace h := o_pos hc3 h
        exact w_X6_become_b73 C hK σ v0 v1 tv0 tv1 hW hS (lv_sub hl [0, 1] rfl) h
      · replace h := o_neg hc3 h
        refine lv_aload_n (pc := 52) hx hb dX6_become_52 rfl (lv_at hl 0 rfl) ?_
        refine gf_X6_1 (pc := 53) C hW tv0 fl_X6_11 dX6_become_53 ?_
        refine lv_iload_n (pc := 56) hx hb dX6_become_56 rfl (lv_at hl 2 rfl) ?_
        obtain ⟨hc4, h⟩ := o_chk h
        refine ra_men (pc := 57) C hW tv0 hc4 dX6_become_57 ?_
        refine lv_aload_n (pc := 58) hx hb dX6_become_58 rfl (lv_at hl 1 rfl) ?_
        refine gf_X6_1 (pc := 59) C hW tv1 fl_X6_11 dX6_become_59 ?_
        refine lv_iload_n (pc := 62) hx hb dX6_become_62 rfl (lv_at hl 2 rfl) ?_
        obtain ⟨hc5, h⟩ := o_chk h
        refine ra_men (pc := 63) C hW tv1 hc5 dX6_become_63 ?_
        obtain ⟨σ8, hc6, h⟩ := o_b h
        refine g_virt (pc := 64) (st2 := []) (rest := []) C hW hS (c_X1_become (K := K - 1) (by omega) (kd_man tv0 hc4) (fun k hk => by cases hk; exact (kd_man tv1 hc5)) hc6) mw_X6_42 (kin_9 (kd_man tv0 hc4)) (Ek_9 (kd_man tv0 hc4)) rfl (hRoom (by omega) (by decide)) rfl rfl rfl (Nat.le_of_ble_eq_true rfl) hl.1 dX6_become_64 (fun H locs hW hS => ?_)
        refine lv_iinc (pc := 67) (v := (v2 + 1)) (lv' := [(2, .int (v2 + 1)), (0, .ref (z + v0)), (1, .ref (z + v1))]) hx hb dX6_become_67 hl (k := 2) rfl rfl (by decide) rfl (fun ls hl => ?_)
        refine lv_goto (pc := 70) (tgt := 34) hx hb dX6_become_70 (by decide) ?_
        exact ih σ8 (v2 + 1) tv0 tv1 hW hS (lv_sub hl [1, 2, 0] rfl) h

theorem c_X6_become {K : Nat}  (hK : 1 ≤ K) {σ : Mem} {σf : Mem} {v0 : Nat} {v1 : Nat} (hk0 : kd v0 = 6) (hk1 : kd v1 = 6) (h : f_X6_become σ v0 v1 = some σf) : MC l D (Ec ac z) inC z ac (z, aK, aV) (Ac z) yX6_become cX6_become 3 none K [.ref (z + v0), .ref (z + v1)] σ none σf := by
  refine MC.of (fun q hq => by have := hq.1; show z ≤ q; omega) (plainFor_of_name (by decide)) (Nat.le_of_ble_eq_true rfl) ?_
  intro p e s m below meth c args C hW ls hl
  replace hl : lv_has ls 3 [(0, .ref (z + v0)), (1, .ref (z + v1))] := hl
  have hS : va_S (Ac z) s.heap s.heap [] := va_S.rf
  have hx := C.1.1
  have hb := C.1.2.1
  unfold f_X6_become at h
  refine lv_aload_n (pc := 0) hx hb dX6_become_0 rfl (lv_at hl 0 rfl) ?_
  refine lv_aload_n (pc := 1) hx hb dX6_become_1 rfl (lv_at hl 1 rfl) ?_
  refine gf_X6_3 (pc := 2) C hW hk1 fl_X6_29 dX6_become_2 ?_
  refine pf_X6_3 (pc := 5) C hW hS hk0 fl_X6_29 dX6_become_5 (fun H locs hW hS => ?_)
  refine lv_aload_n (pc := 8) hx hb dX6_become_8 rfl (lv_at hl 0 rfl) ?_
  refine lv_aload_n (pc := 9) hx hb dX6_become_9 rfl (lv_at hl 1 rfl) ?_
  refine gf_X6_4 (pc := 10) C hW hk1 fl_X6_33 dX6_become_10 ?_
  refine pf_X6_4 (pc := 13) C hW hS hk0 fl_X6_33 dX6_become_13 (fun H locs hW hS => ?_)
  obtain ⟨σ1, hσ1, h⟩ := o_d h
  replace hW : WC D ac z σ1 H := by rw [← hσ1]; exact hW
  refine lv_aload_n (pc := 16) hx hb dX6_become_16 rfl (lv_at hl 0 rfl) ?_
  refine lv_aload_n (pc := 17) hx hb dX6_become_17 rfl (lv_at hl 1 rfl) ?_
  refine gf_X6_5 (pc := 18) C hW hk1 fl_X6_36 dX6_become_18 ?_
  refine pf_X6_5 (pc := 21) C hW hS hk0 fl_X6_36 dX6_become_21 (fun H locs hW hS => ?_)
  refine lv_aload_n (pc := 24) hx hb dX6_become_24 rfl (lv_at hl 0 rfl) ?_
  refine lv_aload_n (pc := 25) hx hb dX6_become_25 rfl (lv_at hl 1 rfl) ?_
  refine gf_X6_6 (pc := 26) C hW hk1 fl_X6_39 dX6_become_26 ?_
  refine pf_X6_6 (pc := 29) C hW hS hk0 fl_X6_39 dX6_become_29 (fun H locs hW hS => ?_)
  obtain ⟨σ2, hσ2, h⟩ := o_d h
  replace hW : WC D ac z σ2 H := by rw [← hσ2]; exact hW
  refine lv_iconst (pc := 32) (v := 0) hx hb dX6_become_32 (by decide) ?_
  refine lv_istore_n (pc := 33) (lv' := [(2, .int (0 : Int32)), (0, .ref (z + v0)), (1, .ref (z + v1))]) hx hb dX6_become_33 rfl hl (by decide) rfl (fun ls hl => ?_)
  exact w_X6_become_b34 C hK v0 v1 FU σ2 (0 : Int32) hk0 hk1 hW hS (lv_sub hl [1, 2, 0] rfl) h

theorem c_X6_manAt {K : Nat}  (hK : 0 ≤ K) {σ : Mem} {v0 : Nat} {v1 : Int32} {r : Option Nat} (hk0 : kd v0 = 6) (h : f_X6_manAt σ v0 v1 = some r) : MC l D (Ec ac z) inC z ac (z, aK, aV) (Ac z) yX6_manAt cX6_manAt 2 (some (.object "BeardsAreBonds$Man")) K [.ref (z + v0), .int v1] σ (some (rv z r)) σ := by
  refine MC.of (fun q hq => by have := hq.1; show z ≤ q; omega) (plainFor_of_name (by decide)) (Nat.le_of_ble_eq_true rfl) ?_
  intro p e s m below meth c args C hW ls hl
  replace hl : lv_has ls 2 [(0, .ref (z + v0)), (1, .int v1)] := hl
  have hS : va_S (Ac z) s.heap s.heap [] := va_S.rf
  have hx := C.1.1
  have hb := C.1.2.1
  unfold f_X6_manAt at h
  refine lv_iload_n (pc := 0) hx hb dX6_manAt_0 rfl (lv_at hl 1 rfl) ?_
  refine lv_if_lt (pc := 1) (tgt := 30) hx hb dX6_manAt_1 (by decide) (fun hc0 => ?_) (fun hc0 => ?_)
  · replace h := o_pos hc0 h
    refine lv_null (pc := 30) hx hb dX6_manAt_30 ?_
    exact g_aret (pc := 31) C (Or.inl ⟨_, rfl⟩) hW hS none rfl dX6_manAt_31 (congrArg (fun q => some (rv z q)) (Option.some.inj h).symm) rfl
  · replace h := o_neg hc0 h
    refine lv_iload_n (pc := 4) hx hb dX6_manAt_4 rfl (lv_at hl 1 rfl) ?_
    refine lv_aload_n (pc := 5) hx hb dX6_manAt_5 rfl (lv_at hl 0 rfl) ?_
    refine gf_X6_3 (pc := 6) C hW hk0 fl_X6_29 dX6_manAt_6 ?_
    refine lv_icmp_ge (pc := 9) (tgt := 30) hx hb dX6_manAt_9 (by decide) (fun hc1 => ?_) (fun hc1 => ?_)
    · replace h := o_pos hc1 h
      refine lv_null (pc := 30) hx hb dX6_manAt_30 ?_
      exact g_aret (pc := 31) C (Or.inl ⟨_, rfl⟩) hW hS none rfl dX6_manAt_31 (congrArg (fun q => some (rv z q)) (Option.some.inj h).symm) rfl
    · replace h := o_neg hc1 h
      refine lv_iload_n (pc := 12) hx hb dX6_manAt_12 rfl (lv_at hl 1 rfl) ?_
      refine lv_aload_n (pc := 13) hx hb dX6_manAt_13 rfl (lv_at hl 0 rfl) ?_
      refine gf_X6_1 (pc := 14) C hW hk0 fl_X6_11 dX6_manAt_14 ?_
      refine ra_menlen (pc := 17) C hW hk0 dX6_manAt_17 ?_
      refine lv_icmp_ge (pc := 18) (tgt := 30) hx hb dX6_manAt_18 (by decide) (fun hc2 => ?_) (fun hc2 => ?_)
      · replace h := o_pos hc2 h
        refine lv_null (pc := 30) hx hb dX6_manAt_30 ?_
        exact g_aret (pc := 31) C (Or.inl ⟨_, rfl⟩) hW hS none rfl dX6_manAt_31 (congrArg (fun q => some (rv z q)) (Option.some.inj h).symm) rfl
      · replace h := o_neg hc2 h
        refine lv_aload_n (pc := 21) hx hb dX6_manAt_21 rfl (lv_at hl 0 rfl) ?_
        refine gf_X6_1 (pc := 22) C hW hk0 fl_X6_11 dX6_manAt_22 ?_
        refine lv_iload_n (pc := 25) hx hb dX6_manAt_25 rfl (lv_at hl 1 rfl) ?_
        obtain ⟨hc3, h⟩ := o_chk h
        refine ra_men (pc := 26) C hW hk0 hc3 dX6_manAt_26 ?_
        refine lv_goto (pc := 27) (tgt := 31) hx hb dX6_manAt_27 (by decide) ?_
        exact g_aret (pc := 31) C (Or.inl ⟨_, rfl⟩) hW hS (some (v0 + 3 + v1.toNatClampNeg)) rfl dX6_manAt_31 (congrArg (fun q => some (rv z q)) (Option.some.inj h).symm) rfl

theorem c_X6_vowAt {K : Nat}  (hK : 0 ≤ K) {σ : Mem} {v0 : Nat} {v1 : Int32} {r : Option Nat} (hk0 : kd v0 = 6) (h : f_X6_vowAt σ v0 v1 = some r) : MC l D (Ec ac z) inC z ac (z, aK, aV) (Ac z) yX6_vowAt cX6_vowAt 2 (some (.object "BeardsAreBonds$Vow")) K [.ref (z + v0), .int v1] σ (some (rv z r)) σ := by
  refine MC.of (fun q hq => by have := hq.1; show z ≤ q; omega) (plainFor_of_name (by decide)) (Nat.le_of_ble_eq_true rfl) ?_
  intro p e s m below meth c args C hW ls hl
  replace hl : lv_has ls 2 [(0, .ref (z + v0)), (1, .int v1)] := hl
  have hS : va_S (Ac z) s.heap s.heap [] := va_S.rf
  have hx := C.1.1
  have hb := C.1.2.1
  unfold f_X6_vowAt at h
  refine lv_iload_n (pc := 0) hx hb dX6_vowAt_0 rfl (lv_at hl 1 rfl) ?_
  refine lv_if_lt (pc := 1) (tgt := 30) hx hb dX6_vowAt_1 (by decide) (fun hc0 => ?_) (fun hc0 => ?_)
  · replace h := o_pos hc0 h
    refine lv_null (pc := 30) hx hb dX6_vowAt_30 ?_
    exact g_aret (pc := 31) C (Or.inl ⟨_, rfl⟩) hW hS none rfl dX6_vowAt_31 (congrArg (fun q => some (rv z q)) (Option.some.inj h).symm) rfl
  · replace h := o_neg hc0 h
    refine lv_iload_n (pc := 4) hx hb dX6_vowAt_4 rfl (lv_at hl 1 rfl) ?_
    refine lv_aload_n (pc := 5) hx hb dX6_vowAt_5 rfl (lv_at hl 0 rfl) ?_
    refine gf_X6_4 (pc := 6) C hW hk0 fl_X6_33 dX6_vowAt_6 ?_
    refine lv_icmp_ge (pc := 9) (tgt := 30) hx hb dX6_vowAt_9 (by decide) (fun hc1 => ?_) (fun hc1 => ?_)
    · replace h := o_pos hc1 h
      refine lv_null (pc := 30) hx hb dX6_vowAt_30 ?_
      exact g_aret (pc := 31) C (Or.inl ⟨_, rfl⟩) hW hS none rfl dX6_vowAt_31 (congrArg (fun q => some (rv z q)) (Option.some.inj h).symm) rfl
    · replace h := o_neg hc1 h
      refine lv_iload_n (pc := 12) hx hb dX6_vowAt_12 rfl (lv_at hl 1 rfl) ?_
      refine lv_aload_n (pc := 13) hx hb dX6_vowAt_13 rfl (lv_at hl 0 rfl) ?_
      refine gf_X6_2 (pc := 14) C hW hk0 fl_X6_19 dX6_vowAt_14 ?_
      refine ra_vowslen (pc := 17) C hW hk0 dX6_vowAt_17 ?_
      refine lv_icmp_ge (pc := 18) (tgt := 30) hx hb dX6_vowAt_18 (by decide) (fun hc2 => ?_) (fun hc2 => ?_)
      · replace h := o_pos hc2 h
        refine lv_null (pc := 30) hx hb dX6_vowAt_30 ?_
        exact g_aret (pc := 31) C (Or.inl ⟨_, rfl⟩) hW hS none rfl dX6_vowAt_31 (congrArg (fun q => some (rv z q)) (Option.some.inj h).symm) rfl
      · replace h := o_neg hc2 h
        refine lv_aload_n (pc := 21) hx hb dX6_vowAt_21 rfl (lv_at hl 0 rfl) ?_
        refine gf_X6_2 (pc := 22) C hW hk0 fl_X6_19 dX6_vowAt_22 ?_
        refine lv_iload_n (pc := 25) hx hb dX6_vowAt_25 rfl (lv_at hl 1 rfl) ?_
        obtain ⟨hc3, h⟩ := o_chk h
        refine ra_vows (pc := 26) C hW hk0 hc3 dX6_vowAt_26 ?_
        refine lv_goto (pc := 27) (tgt := 31) hx hb dX6_vowAt_27 (by decide) ?_
        exact g_aret (pc := 31) C (Or.inl ⟨_, rfl⟩) hW hS (some (v0 + 9 + v1.toNatClampNeg)) rfl dX6_vowAt_31 (congrArg (fun q => some (rv z q)) (Option.some.inj h).symm) rfl

theorem c_X6_addMan {K : Nat}  (hK : 0 ≤ K) {σ : Mem} {σf : Mem} {v0 : Nat} {v1 : Int32} {v2 : Int32} {v3 : Int32} {r : Int32} (hk0 : kd v0 = 6) (h : f_X6_addMan σ v0 v1 v2 v3 = some (r, σf)) : MC l D (Ec ac z) inC z ac (z, aK, aV) (Ac z) yX6_addMan cX6_addMan 5 (some .int) K [.ref (z + v0), .int v1, .int v2, .int v3] σ (some (.int r)) σf := by
  refine MC.of (fun q hq => by have := hq.1; show z ≤ q; omega) (plainFor_of_name (by decide)) (Nat.le_of_ble_eq_true rfl) ?_
  intro p e s m below meth c args C hW ls hl
  replace hl : lv_has ls 5 [(0, .ref (z + v0)), (1, .int v1), (2, .int v2), (3, .int v3)] := hl
  have hS : va_S (Ac z) s.heap s.heap [] := va_S.rf
  have hx := C.1.1
  have hb := C.1.2.1
  unfold f_X6_addMan at h
  refine lv_iload_n (pc := 0) hx hb dX6_addMan_0 rfl (lv_at hl 1 rfl) ?_
  refine lv_if_lt (pc := 1) (tgt := 19) hx hb dX6_addMan_1 (by decide) (fun hc0 => ?_) (fun hc0 => ?_)
  · replace h := o_pos hc0 h
    refine lv_bipush (pc := 19) (v := -2) hx hb dX6_addMan_19 (by decide) ?_
    exact g_ret (pc := 21) C hW hS rfl dX6_addMan_21 (congrArg (fun q => some (Value.int q)) (o_r h).1) (o_r h).2
  · replace h := o_neg hc0 h
    refine lv_iload_n (pc := 4) hx hb dX6_addMan_4 rfl (lv_at hl 1 rfl) ?_
    refine lv_iconst (pc := 5) (v := 5) hx hb dX6_addMan_5 (by decide) ?_
    refine lv_icmp_gt (pc := 6) (tgt := 19) hx hb dX6_addMan_6 (by decide) (fun hc1 => ?_) (fun hc1 => ?_)
    · replace h := o_pos hc1 h
      refine lv_bipush (pc := 19) (v := -2) hx hb dX6_addMan_19 (by decide) ?_
      exact g_ret (pc := 21) C hW hS rfl dX6_addMan_21 (congrArg (fun q => some (Value.int q)) (o_r h).1) (o_r h).2
    · replace h := o_neg hc1 h
      refine lv_iload_n (pc := 9) hx hb dX6_addMan_9 rfl (lv_at hl 2 rfl) ?_
      refine lv_if_lt (pc := 10) (tgt := 19) hx hb dX6_addMan_10 (by decide) (fun hc2 => ?_) (fun hc2 => ?_)
      · replace h := o_pos hc2 h
        refine lv_bipush (pc := 19) (v := -2) hx hb dX6_addMan_19 (by decide) ?_
        exact g_ret (pc := 21) C hW hS rfl dX6_addMan_21 (congrArg (fun q => some (Value.int q)) (o_r h).1) (o_r h).2
      · replace h := o_neg hc2 h
        refine lv_iload_n (pc := 13) hx hb dX6_addMan_13 rfl (lv_at hl 2 rfl) ?_
        refine lv_bipush (pc := 14) (v := 9) hx hb dX6_addMan_14 (by decide) ?_
        refine lv_icmp_le (pc := 16) (tgt := 22) hx hb dX6_addMan_16 (by decide) (fun hc3 => ?_) (fun hc3 => ?_)
        · replace h := o_pos hc3 h
          refine lv_iload_n (pc := 22) hx hb dX6_addMan_22 rfl (lv_at hl 3 rfl) ?_
          refine lv_if_lt (pc := 23) (tgt := 33) hx hb dX6_addMan_23 (by decide) (fun hc4 => ?_) (fun hc4 => ?_)
          · replace h := o_pos hc4 h
            refine lv_bipush (pc := 33) (v := -2) hx hb dX6_addMan_33 (by decide) ?_
            exact g_ret (pc := 35) C hW hS rfl dX6_addMan_35 (congrArg (fun q => some (Value.int q)) (o_r h).1) (o_r h).2
          · replace h := o_neg hc4 h
            refine lv_iload_n (pc := 26) hx hb dX6_addMan_26 rfl (lv_at hl 3 rfl) ?_
            refine lv_sipush (pc := 27) (v := 999) hx hb dX6_addMan_27 (by decide) ?_
            refine lv_icmp_le (pc := 30) (tgt := 36) hx hb dX6_addMan_30 (by decide) (fun hc5 => ?_) (fun hc5 => ?_)
            · replace h := o_pos hc5 h
              refine lv_aload_n (pc := 36) hx hb dX6_addMan_36 rfl (lv_at hl 0 rfl) ?_
              refine gf_X6_3 (pc := 37) C hW hk0 fl_X6_29 dX6_addMan_37 ?_
              refine lv_if_lt (pc := 40) (tgt := 55) hx hb dX6_addMan_40 (by decide) (fun hc6 => ?_) (fun hc6 => ?_)
              · replace h := o_pos hc6 h
                refine lv_bipush (pc := 55) (v := -4) hx hb dX6_addMan_55 (by decide) ?_
                exact g_ret (pc := 57) C hW hS rfl dX6_addMan_57 (congrArg (fun q => some (Value.int q)) (o_r h).1) (o_r h).2
              · replace h := o_neg hc6 h
                refine lv_aload_n (pc := 43) hx hb dX6_addMan_43 rfl (lv_at hl 0 rfl) ?_
                refine gf_X6_3 (pc := 44) C hW hk0 fl_X6_29 dX6_addMan_44 ?_
                refine lv_aload_n (pc := 47) hx hb dX6_addMan_47 rfl (lv_at hl 0 rfl) ?_
                refine gf_X6_1 (pc := 48) C hW hk0 fl_X6_11 dX6_addMan_48 ?_
                refine ra_menlen (pc := 51) C hW hk0 dX6_addMan_51 ?_
                refine lv_icmp_lt (pc := 52) (tgt := 58) hx hb dX6_addMan_52 (by decide) (fun hc7 => ?_) (fun hc7 => ?_)
                · replace h := o_pos hc7 h
                  refine lv_aload_n (pc := 58) hx hb dX6_addMan_58 rfl (lv_at hl 0 rfl) ?_
                  refine gf_X6_1 (pc := 59) C hW hk0 fl_X6_11 dX6_addMan_59 ?_
                  refine lv_aload_n (pc := 62) hx hb dX6_addMan_62 rfl (lv_at hl 0 rfl) ?_
                  refine gf_X6_3 (pc := 63) C hW hk0 fl_X6_29 dX6_addMan_63 ?_
                  obtain ⟨hc8, h⟩ := o_chk h
                  refine ra_men (pc := 66) C hW hk0 hc8 dX6_addMan_66 ?_
                  refine lv_astore (pc := 67) (lv' := [(4, .ref (z + (v0 + 3 + (σ v0 3).toNatClampNeg))), (0, .ref (z + v0)), (1, .int v1), (2, .int v2), (3, .int v3)]) hx hb dX6_addMan_67 hl (by decide) rfl (fun ls hl => ?_)
                  refine lv_aload (pc := 69) hx hb dX6_addMan_69 (lv_at hl 0 rfl) ?_
                  refine lv_iload_n (pc := 71) hx hb dX6_addMan_71 rfl (lv_at hl 2 rfl) ?_
                  refine pf_X1_0 (pc := 72) C hW hS (kd_man hk0 hc8) fl_X6_49 dX6_addMan_72 (fun H locs hW hS => ?_)
                  refine lv_aload (pc := 75) hx hb dX6_addMan_75 (lv_at hl 0 rfl) ?_
                  refine lv_iload_n (pc := 77) hx hb dX6_addMan_77 rfl (lv_at hl 3 rfl) ?_
                  refine pf_X1_1 (pc := 78) C hW hS (kd_man hk0 hc8) fl_X6_52 dX6_addMan_78 (fun H locs hW hS => ?_)
                  obtain ⟨σ10, hσ10, h⟩ := o_d h
                  replace hW : WC D ac z σ10 H := by rw [← hσ10]; exact hW
                  refine lv_aload (pc := 81) hx hb dX6_addMan_81 (lv_at hl 0 rfl) ?_
                  refine lv_iload_n (pc := 83) hx hb dX6_addMan_83 rfl (lv_at hl 4 rfl) ?_
                  refine pf_X1_2 (pc := 84) C hW hS (kd_man hk0 hc8) fl_X6_55 dX6_addMan_84 (fun H locs hW hS => ?_)
                  obtain ⟨σ11, hσ11, h⟩ := o_d h
                  replace hW : WC D ac z σ11 H := by rw [← hσ11]; exact hW
                  refine lv_aload (pc := 87) hx hb dX6_addMan_87 (lv_at hl 0 rfl) ?_
                  refine lv_iconst (pc := 89) (v := 0) hx hb dX6_addMan_89 (by decide) ?_
                  refine pf_X1_3 (pc := 90) C hW hS (kd_man hk0 hc8) fl_X6_58 dX6_addMan_90 (fun H locs hW hS => ?_)
                  obtain ⟨σ12, hσ12, h⟩ := o_d h
                  replace hW : WC D ac z σ12 H := by rw [← hσ12]; exact hW
                  refine lv_aload (pc := 93) hx hb dX6_addMan_93 (lv_at hl 0 rfl) ?_
                  refine lv_iconst (pc := 95) (v := 0) hx hb dX6_addMan_95 (by decide) ?_
                  refine pf_X1_4 (pc := 96) C hW hS (kd_man hk0 hc8) fl_X6_61 dX6_addMan_96 (fun H locs hW hS => ?_)
                  obtain ⟨σ13, hσ13, h⟩ := o_d h
                  replace hW : WC D ac z σ13 H := by rw [← hσ13]; exact hW
                  refine lv_aload (pc := 99) hx hb dX6_addMan_99 (lv_at hl 0 rfl) ?_
                  refine lv_iconst (pc := 101) (v := 0) hx hb dX6_addMan_101 (by decide) ?_
                  refine pf_X1_5 (pc := 102) C hW hS (kd_man hk0 hc8) fl_X6_64 dX6_addMan_102 (by decide) (fun H locs hW hS => ?_)
                  obtain ⟨σ14, hσ14, h⟩ := o_d h
                  replace hW : WC D ac z σ14 H := by rw [← hσ14]; exact hW
                  refine lv_aload_n (pc := 105) hx hb dX6_addMan_105 rfl (lv_at hl 1 rfl) ?_
                  refine lv_dup (pc := 106) hx hb dX6_addMan_106 rfl ?_
                  refine gf_X6_3 (pc := 107) C hW hk0 fl_X6_29 dX6_addMan_107 ?_
                  refine lv_iconst (pc := 110) (v := 1) hx hb dX6_addMan_110 (by decide) ?_
                  refine lv_iadd (pc := 111) hx hb dX6_addMan_111 ?_
                  refine pf_X6_3 (pc := 112) C hW hS hk0 fl_X6_29 dX6_addMan_112 (fun H locs hW hS => ?_)
                  refine lv_aload_n (pc := 115) hx hb dX6_addMan_115 rfl (lv_at hl 1 rfl) ?_
                  refine gf_X6_3 (pc := 116) C hW hk0 fl_X6_29 dX6_addMan_116 ?_
                  refine lv_iconst (pc := 119) (v := 1) hx hb dX6_addMan_119 (by decide) ?_
                  refine lv_isub (pc := 120) hx hb dX6_addMan_120 ?_
                  exact g_ret (pc := 121) C hW hS rfl dX6_addMan_121 (congrArg (fun q => some (Value.int q)) (o_r h).1) (o_r h).2
                · replace h := o_neg hc7 h
                  refine lv_bipush (pc := 55) (v := -4) hx hb dX6_addMan_55 (by decide) ?_
                  exact g_ret (pc := 57) C hW hS rfl dX6_addMan_57 (congrArg (fun q => some (Value.int q)) (o_r h).1) (o_r h).2
            · replace h := o_neg hc5 h
              refine lv_bipush (pc := 33) (v := -2) hx hb dX6_addMan_33 (by decide) ?_
              exact g_ret (pc := 35) C hW hS rfl dX6_addMan_35 (congrArg (fun q => some (Value.int q)) (o_r h).1) (o_r h).2
        · replace h := o_neg hc3 h
          refine lv_bipush (pc := 19) (v := -2) hx hb dX6_addMan_19 (by decide) ?_
          exact g_ret (pc := 21) C hW hS rfl dX6_addMan_21 (congrArg (fun q => some (Value.int q)) (o_r h).1) (o_r h).2

theorem c_X6_addVow {K : Nat}  (hK : 0 ≤ K) {σ : Mem} {σf : Mem} {v0 : Nat} {v1 : Int32} {v2 : Int32} {v3 : Int32} {v4 : Int32} {r : Int32} (hk0 : kd v0 = 6) (h : f_X6_addVow σ v0 v1 v2 v3 v4 = some (r, σf)) : MC l D (Ec ac z) inC z ac (z, aK, aV) (Ac z) yX6_addVow cX6_addVow 6 (some .int) K [.ref (z + v0), .int v1, .int v2, .int v3, .int v4] σ (some (.int r)) σf := by
  refine MC.of (fun q hq => by have := hq.1; show z ≤ q; omega) (plainFor_of_name (by decide)) (Nat.le_of_ble_eq_true rfl) ?_
  intro p e s m below meth c args C hW ls hl
  replace hl : lv_has ls 6 [(0, .ref (z + v0)), (1, .int v1), (2, .int v2), (3, .int v3), (4, .int v4)] := hl
  have hS : va_S (Ac z) s.heap s.heap [] := va_S.rf
  have hx := C.1.1
  have hb := C.1.2.1
  unfold f_X6_addVow at h
  refine lv_aload_n (pc := 0) hx hb dX6_addVow_0 rfl (lv_at hl 0 rfl) ?_
  refine gf_X6_4 (pc := 1) C hW hk0 fl_X6_33 dX6_addVow_1 ?_
  refine lv_if_lt (pc := 4) (tgt := 19) hx hb dX6_addVow_4 (by decide) (fun hc0 => ?_) (fun hc0 => ?_)
  · replace h := o_pos hc0 h
    refine lv_bipush (pc := 19) (v := -4) hx hb dX6_addVow_19 (by decide) ?_
    exact g_ret (pc := 21) C hW hS rfl dX6_addVow_21 (congrArg (fun q => some (Value.int q)) (o_r h).1) (o_r h).2
  · replace h := o_neg hc0 h
    refine lv_aload_n (pc := 7) hx hb dX6_addVow_7 rfl (lv_at hl 0 rfl) ?_
    refine gf_X6_4 (pc := 8) C hW hk0 fl_X6_33 dX6_addVow_8 ?_
    refine lv_aload_n (pc := 11) hx hb dX6_addVow_11 rfl (lv_at hl 0 rfl) ?_
    refine gf_X6_2 (pc := 12) C hW hk0 fl_X6_19 dX6_addVow_12 ?_
    refine ra_vowslen (pc := 15) C hW hk0 dX6_addVow_15 ?_
    refine lv_icmp_lt (pc := 16) (tgt := 22) hx hb dX6_addVow_16 (by decide) (fun hc1 => ?_) (fun hc1 => ?_)
    · replace h := o_pos hc1 h
      refine lv_aload_n (pc := 22) hx hb dX6_addVow_22 rfl (lv_at hl 0 rfl) ?_
      refine gf_X6_2 (pc := 23) C hW hk0 fl_X6_19 dX6_addVow_23 ?_
      refine lv_aload_n (pc := 26) hx hb dX6_addVow_26 rfl (lv_at hl 0 rfl) ?_
      refine gf_X6_4 (pc := 27) C hW hk0 fl_X6_33 dX6_addVow_27 ?_
      obtain ⟨hc2, h⟩ := o_chk h
      refine ra_vows (pc := 30) C hW hk0 hc2 dX6_addVow_30 ?_
      refine lv_astore (pc := 31) (lv' := [(5, .ref (z + (v0 + 9 + (σ v0 4).toNatClampNeg))), (0, .ref (z + v0)), (1, .int v1), (2, .int v2), (3, .int v3), (4, .int v4)]) hx hb dX6_addVow_31 hl (by decide) rfl (fun ls hl => ?_)
      refine lv_aload (pc := 33) hx hb dX6_addVow_33 (lv_at hl 0 rfl) ?_
      refine lv_iload_n (pc := 35) hx hb dX6_addVow_35 rfl (lv_at hl 2 rfl) ?_
      refine pf_X7_0 (pc := 36) C hW hS (kd_vow hk0 hc2) fl_X6_68 dX6_addVow_36 (fun H locs hW hS => ?_)
      refine lv_aload (pc := 39) hx hb dX6_addVow_39 (lv_at hl 0 rfl) ?_
      refine lv_iload_n (pc := 41) hx hb dX6_addVow_41 rfl (lv_at hl 3 rfl) ?_
      refine pf_X7_1 (pc := 42) C hW hS (kd_vow hk0 hc2) fl_X6_71 dX6_addVow_42 (fun H locs hW hS => ?_)
      obtain ⟨σ4, hσ4, h⟩ := o_d h
      replace hW : WC D ac z σ4 H := by rw [← hσ4]; exact hW
      refine lv_aload (pc := 45) hx hb dX6_addVow_45 (lv_at hl 0 rfl) ?_
      refine lv_iload_n (pc := 47) hx hb dX6_addVow_47 rfl (lv_at hl 4 rfl) ?_
      refine pf_X7_2 (pc := 48) C hW hS (kd_vow hk0 hc2) fl_X6_74 dX6_addVow_48 (fun H locs hW hS => ?_)
      refine lv_aload (pc := 51) hx hb dX6_addVow_51 (lv_at hl 0 rfl) ?_
      refine lv_iload (pc := 53) hx hb dX6_addVow_53 (lv_at hl 5 rfl) ?_
      refine pf_X7_3 (pc := 55) C hW hS (kd_vow hk0 hc2) fl_X6_77 dX6_addVow_55 (fun H locs hW hS => ?_)
      obtain ⟨σ5, hσ5, h⟩ := o_d h
      replace hW : WC D ac z σ5 H := by rw [← hσ5]; exact hW
      refine lv_aload (pc := 58) hx hb dX6_addVow_58 (lv_at hl 0 rfl) ?_
      refine lv_iconst (pc := 60) (v := 0) hx hb dX6_addVow_60 (by decide) ?_
      refine pf_X7_4 (pc := 61) C hW hS (kd_vow hk0 hc2) fl_X6_80 dX6_addVow_61 (fun H locs hW hS => ?_)
      obtain ⟨σ6, hσ6, h⟩ := o_d h
      replace hW : WC D ac z σ6 H := by rw [← hσ6]; exact hW
      refine lv_aload (pc := 64) hx hb dX6_addVow_64 (lv_at hl 0 rfl) ?_
      refine lv_iconst (pc := 66) (v := -1) hx hb dX6_addVow_66 (by decide) ?_
      refine pf_X7_5 (pc := 67) C hW hS (kd_vow hk0 hc2) fl_X6_83 dX6_addVow_67 (fun H locs hW hS => ?_)
      obtain ⟨σ7, hσ7, h⟩ := o_d h
      replace hW : WC D ac z σ7 H := by rw [← hσ7]; exact hW
      refine lv_aload_n (pc := 70) hx hb dX6_addVow_70 rfl (lv_at hl 1 rfl) ?_
      refine lv_dup (pc := 71) hx hb dX6_addVow_71 rfl ?_
      refine gf_X6_4 (pc := 72) C hW hk0 fl_X6_33 dX6_addVow_72 ?_
      refine lv_iconst (pc := 75) (v := 1) hx hb dX6_addVow_75 (by decide) ?_
      refine lv_iadd (pc := 76) hx hb dX6_addVow_76 ?_
      refine pf_X6_4 (pc := 77) C hW hS hk0 fl_X6_33 dX6_addVow_77 (fun H locs hW hS => ?_)
      refine lv_aload_n (pc := 80) hx hb dX6_addVow_80 rfl (lv_at hl 1 rfl) ?_
      refine gf_X6_4 (pc := 81) C hW hk0 fl_X6_33 dX6_addVow_81 ?_
      refine lv_iconst (pc := 84) (v := 1) hx hb dX6_addVow_84 (by decide) ?_
      refine lv_isub (pc := 85) hx hb dX6_addVow_85 ?_
      exact g_ret (pc := 86) C hW hS rfl dX6_addVow_86 (congrArg (fun q => some (Value.int q)) (o_r h).1) (o_r h).2
    · replace h := o_neg hc1 h
      refine lv_bipush (pc := 19) (v := -4) hx hb dX6_addVow_19 (by decide) ?_
      exact g_ret (pc := 21) C hW hS rfl dX6_addVow_21 (congrArg (fun q => some (Value.int q)) (o_r h).1) (o_r h).2

theorem w_X6_owed_b58 (C : CX cX6_owed 4 RX6 (some .int) D ac p m c s args meth (z, aK, aV) (Ac z)) (hK : 0 ≤ K) {r : Int32}   (σ : Mem) (v0 : Nat) (v1 : Int32) (v2 : Int32) (v3 : Int32) (s4 : Int32 → Int32 → Option Int32) (hs4 : ∀ (v2 : Int32) (v3 : Int32) {H : Heap} {locs : List Loc} {ls : Array Slot} (_ : WC D ac z σ H) (_ : va_S (Ac z) s.heap H locs) (_ : lv_has ls 4 [(0, .ref (z + v0)), (1, .int v1), (2, .int v2), (3, .int v3)]) (_ : s4 v2 v3 = some r), W p l e (rma K 0 0) s m args below meth c H locs 0 0 (MQ below (QV D (Ec ac z) inC z (some (.int r)) σ (Ac z)) args s 0 0 (Ac z)) (F0 m 4 ls [])) {H : Heap} {locs : List Loc} {ls : Array Slot} (tv0 : kd v0 = 6) (hW : WC D ac z σ H) (hS : va_S (Ac z) s.heap H locs) (hl : lv_has ls 4 [(0, .ref (z + v0)), (1, .int v1), (2, .int v2), (3, .int v3)]) (h : f_X6_owed_b58 s4 σ v0 v1 v2 v3 = some r) : W p l e (rma K 0 0) s m args below meth c H locs 0 0 (MQ below (QV D (Ec ac z) inC z (some (.int r)) σ (Ac z)) args s 0 0 (Ac z)) (F0 m 58 ls []) := by
  have hx := C.1.1
  have hb := C.1.2.1
  unfold f_X6_owed_b58 at h
  refine lv_iinc (pc := 58) (v := (v3 + 1)) (lv' := [(3, .int (v3 + 1)), (0, .ref (z + v0)), (1, .int v1), (2, .int v2)]) hx hb dX6_owed_58 hl (k := 3) rfl rfl (by decide) rfl (fun ls hl => ?_)
  refine lv_goto (pc := 61) (tgt := 4) hx hb dX6_owed_61 (by decide) ?_
  exact hs4 v2 (v3 + 1) hW hS (lv_sub hl [1, 2, 3, 0] rfl) h

theorem w_X6_owed_b4 (C : CX cX6_owed 4 RX6 (some .int) D ac p m c s args meth (z, aK, aV) (Ac z)) (hK : 0 ≤ K) {r : Int32}   (σ : Mem) (v0 : Nat) (v1 : Int32)  : ∀ (n : Nat) (v2 : Int32) (v3 : Int32) {H : Heap} {locs : List Loc} {ls : Array Slot} (tv0 : kd v0 = 6) (hW : WC D ac z σ H) (hS : va_S (Ac z) s.heap H locs) (hl : lv_has ls 4 [(0, .ref (z + v0)), (1, .int v1), (2, .int v2), (3, .int v3)]) (h : f_X6_owed_b4 σ v0 v1 n v2 v3 = some r), W p l e (rma K 0 0) s m args below meth c H locs 0 0 (MQ below (QV D (Ec ac z) inC z (some (.int r)) σ (Ac z)) args s 0 0 (Ac z)) (F0 m 4 ls []) := by
  have hx := C.1.1
  have hb := C.1.2.1
  intro n
  induction n with
  | zero =>
    intro v2 v3 H locs ls tv0 hW hS hl h
    cases h
  | succ n ih =>
    intro v2 v3 H locs ls tv0 hW hS hl h
    rw [f_X6_owed_b4.eq_2] at h
    refine lv_iload_n (pc := 4) hx hb dX6_owed_4 rfl (lv_at hl 3 rfl) ?_
    refine lv_aload_n (pc := 5) hx hb dX6_owed_5 rfl (lv_at hl 0 rfl) ?_
    refine gf_X6_4 (pc := 6) C hW tv0 fl_X6_33 dX6_owed_6 ?_
    refine lv_icmp_ge (pc := 9) (tgt := 64) hx hb dX6_owed_9 (by decide) (fun hc0 => ?_) (fun hc0 => ?_)
    · replace h := o_pos hc0 h
      refine lv_iload_n (pc := 64) hx hb dX6_owed_64 rfl (lv_at hl 2 rfl) ?_
      exact g_ret (pc := 65) C hW hS rfl dX6_owed_65 (congrArg (fun q => some (Value.int q)) (Option.some.inj h).symm) rfl
    · replace h := o_neg hc0 h
      refine lv_iload_n (pc := 12) hx hb dX6_owed_12 rfl (lv_at hl 3 rfl) ?_
      refine lv_aload_n (pc := 13) hx hb dX6_owed_13 rfl (lv_at hl 0 rfl) ?_
      refine gf_X6_2 (pc := 14) C hW tv0 fl_X6_19 dX6_owed_14 ?_
      refine ra_vowslen (pc := 17) C hW tv0 dX6_owed_17 ?_
      refine lv_icmp_ge (pc := 18) (tgt := 64) hx hb dX6_owed_18 (by decide) (fun hc1 => ?_) (fun hc1 => ?_)
      · replace h := o_pos hc1 h
        refine lv_iload_n (pc := 64) hx hb dX6_owed_64 rfl (lv_at hl 2 rfl) ?_
        exact g_ret (pc := 65) C hW hS rfl dX6_owed_65 (congrArg (fun q => some (Value.int q)) (Option.some.inj h).symm) rfl
      · replace h := o_neg hc1 h
        refine lv_aload_n (pc := 21) hx hb dX6_owed_21 rfl (lv_at hl 0 rfl) ?_
        refine gf_X6_2 (pc := 22) C hW tv0 fl_X6_19 dX6_owed_22 ?_
        refine lv_iload_n (pc := 25) hx hb dX6_owed_25 rfl (lv_at hl 3 rfl) ?_
        obtain ⟨hc2, h⟩ := o_chk h
        refine ra_vows (pc := 26) C hW tv0 hc2 dX6_owed_26 ?_
        refine gf_X7_4 (pc := 27) C hW (kd_vow tv0 hc2) fl_X6_80 dX6_owed_27 ?_
        refine lv_if_ne (pc := 30) (tgt := 58) hx hb dX6_owed_30 (by decide) (fun hc3 => ?_) (fun hc3 => ?_)
        · replace h := o_neg hc3 h
          exact w_X6_owed_b58 C hK σ v0 v1 v2 v3 (f_X6_owed_b4 σ v0 v1 n) (fun v2 v3 {H : Heap} {locs : List Loc} {ls : Array Slot}  hW hS hl h => ih v2 v3 tv0 hW hS hl h) tv0 hW hS (lv_sub hl [0, 1, 2, 3] rfl) h
        · replace h := o_pos hc3 h
          refine lv_aload_n (pc := 33) hx hb dX6_owed_33 rfl (lv_at hl 0 rfl) ?_
          refine gf_X6_2 (pc := 34) C hW tv0 fl_X6_19 dX6_owed_34 ?_
          refine lv_iload_n (pc := 37) hx hb dX6_owed_37 rfl (lv_at hl 3 rfl) ?_
          obtain ⟨hc4, h⟩ := o_chk h
          refine ra_vows (pc := 38) C hW tv0 hc4 dX6_owed_38 ?_
          refine gf_X7_0 (pc := 39) C hW (kd_vow tv0 hc4) fl_X6_68 dX6_owed_39 ?_
          refine lv_iload_n (pc := 42) hx hb dX6_owed_42 rfl (lv_at hl 1 rfl) ?_
          refine lv_icmp_ne (pc := 43) (tgt := 58) hx hb dX6_owed_43 (by decide) (fun hc5 => ?_) (fun hc5 => ?_)
          · replace h := o_neg hc5 h
            exact w_X6_owed_b58 C hK σ v0 v1 v2 v3 (f_X6_owed_b4 σ v0 v1 n) (fun v2 v3 {H : Heap} {locs : List Loc} {ls : Array Slot}  hW hS hl h => ih v2 v3 tv0 hW hS hl h) tv0 hW hS (lv_sub hl [0, 1, 2, 3] rfl) h
          · replace h := o_pos hc5 h
            refine lv_iload_n (pc := 46) hx hb dX6_owed_46 rfl (lv_at hl 2 rfl) ?_
            refine lv_aload_n (pc := 47) hx hb dX6_owed_47 rfl (lv_at hl 0 rfl) ?_
            refine gf_X6_2 (pc := 48) C hW tv0 fl_X6_19 dX6_owed_48 ?_
            refine lv_iload_n (pc := 51) hx hb dX6_owed_51 rfl (lv_at hl 3 rfl) ?_
            obtain ⟨hc6, h⟩ := o_chk h
            refine ra_vows (pc := 52) C hW tv0 hc6 dX6_owed_52 ?_
            refine gf_X7_2 (pc := 53) C hW (kd_vow tv0 hc6) fl_X6_74 dX6_owed_53 ?_
            refine lv_iadd (pc := 56) hx hb dX6_owed_56 ?_
            refine lv_istore_n (pc := 57) (lv' := [(2, .int (v2 + (σ (v0 + 9 + v3.toNatClampNeg) 2))), (0, .ref (z + v0)), (1, .int v1), (3, .int v3)]) hx hb dX6_owed_57 rfl hl (by decide) rfl (fun ls hl => ?_)
            exact w_X6_owed_b58 C hK σ v0 v1 (v2 + (σ (v0 + 9 + v3.toNatClampNeg) 2)) v3 (f_X6_owed_b4 σ v0 v1 n) (fun v2 v3 {H : Heap} {locs : List Loc} {ls : Array Slot}  hW hS hl h => ih v2 v3 tv0 hW hS hl h) tv0 hW hS (lv_sub hl [1, 2, 0, 3] rfl) h

theorem c_X6_owed {K : Nat}  (hK : 0 ≤ K) {σ : Mem} {v0 : Nat} {v1 : Int32} {r : Int32} (hk0 : kd v0 = 6) (h : f_X6_owed σ v0 v1 = some r) : MC l D (Ec ac z) inC z ac (z, aK, aV) (Ac z) yX6_owed cX6_owed 4 (some .int) K [.ref (z + v0), .int v1] σ (some (.int r)) σ := by
  refine MC.of (fun q hq => by have := hq.1; show z ≤ q; omega) (plainFor_of_name (by decide)) (Nat.le_of_ble_eq_true rfl) ?_
  intro p e s m below meth c args C hW ls hl
  replace hl : lv_has ls 4 [(0, .ref (z + v0)), (1, .int v1)] := hl
  have hS : va_S (Ac z) s.heap s.heap [] := va_S.rf
  have hx := C.1.1
  have hb := C.1.2.1
  unfold f_X6_owed at h
  refine lv_iconst (pc := 0) (v := 0) hx hb dX6_owed_0 (by decide) ?_
  refine lv_istore_n (pc := 1) (lv' := [(2, .int (0 : Int32)), (0, .ref (z + v0)), (1, .int v1)]) hx hb dX6_owed_1 rfl hl (by decide) rfl (fun ls hl => ?_)
  refine lv_iconst (pc := 2) (v := 0) hx hb dX6_owed_2 (by decide) ?_
  refine lv_istore_n (pc := 3) (lv' := [(3, .int (0 : Int32)), (2, .int (0 : Int32)), (0, .ref (z + v0)), (1, .int v1)]) hx hb dX6_owed_3 rfl hl (by decide) rfl (fun ls hl => ?_)
  exact w_X6_owed_b4 C hK σ v0 v1 FU (0 : Int32) (0 : Int32) hk0 hW hS (lv_sub hl [2, 3, 1, 0] rfl) h

theorem w_X6_owedTo_b81 (C : CX cX6_owedTo 5 RX6 (some .int) D ac p m c s args meth (z, aK, aV) (Ac z)) (hK : 0 ≤ K) {r : Int32}   (σ : Mem) (v0 : Nat) (v1 : Int32) (v2 : Int32) (v3 : Int32) (v4 : Int32) (s5 : Int32 → Int32 → Option Int32) (hs5 : ∀ (v3 : Int32) (v4 : Int32) {H : Heap} {locs : List Loc} {ls : Array Slot} (_ : WC D ac z σ H) (_ : va_S (Ac z) s.heap H locs) (_ : lv_has ls 5 [(0, .ref (z + v0)), (1, .int v1), (2, .int v2), (3, .int v3), (4, .int v4)]) (_ : s5 v3 v4 = some r), W p l e (rma K 0 0) s m args below meth c H locs 0 0 (MQ below (QV D (Ec ac z) inC z (some (.int r)) σ (Ac z)) args s 0 0 (Ac z)) (F0 m 5 ls [])) {H : Heap} {locs : List Loc} {ls : Array Slot} (tv0 : kd v0 = 6) (hW : WC D ac z σ H) (hS : va_S (Ac z) s.heap H locs) (hl : lv_has ls 5 [(0, .ref (z + v0)), (1, .int v1), (2, .int v2), (3, .int v3), (4, .int v4)]) (h : f_X6_owedTo_b81 s5 σ v0 v1 v2 v3 v4 = some r) : W p l e (rma K 0 0) s m args below meth c H locs 0 0 (MQ below (QV D (Ec ac z) inC z (some (.int r)) σ (Ac z)) args s 0 0 (Ac z)) (F0 m 81 ls []) := by
  have hx := C.1.1
  have hb := C.1.2.1
  unfold f_X6_owedTo_b81 at h
  refine lv_iinc (pc := 81) (v := (v4 + 1)) (lv' := [(4, .int (v4 + 1)), (0, .ref (z + v0)), (1, .int v1), (2, .int v2), (3, .int v3)]) hx hb dX6_owedTo_81 hl (k := 4) rfl rfl (by decide) rfl (fun ls hl => ?_)
  refine lv_goto (pc := 84) (tgt := 5) hx hb dX6_owedTo_84 (by decide) ?_
  exact hs5 v3 (v4 + 1) hW hS (lv_sub hl [1, 2, 3, 4, 0] rfl) h

theorem w_X6_owedTo_b5 (C : CX cX6_owedTo 5 RX6 (some .int) D ac p m c s args meth (z, aK, aV) (Ac z)) (hK : 0 ≤ K) {r : Int32}   (σ : Mem) (v0 : Nat) (v1 : Int32) (v2 : Int32)  : ∀ (n : Nat) (v3 : Int32) (v4 : Int32) {H : Heap} {locs : List Loc} {ls : Array Slot} (tv0 : kd v0 = 6) (hW : WC D ac z σ H) (hS : va_S (Ac z) s.heap H locs) (hl : lv_has ls 5 [(0, .ref (z + v0)), (1, .int v1), (2, .int v2), (3, .int v3), (4, .int v4)]) (h : f_X6_owedTo_b5 σ v0 v1 v2 n v3 v4 = some r), W p l e (rma K 0 0) s m args below meth c H locs 0 0 (MQ below (QV D (Ec ac z) inC z (some (.int r)) σ (Ac z)) args s 0 0 (Ac z)) (F0 m 5 ls []) := by
  have hx := C.1.1
  have hb := C.1.2.1
  intro n
  induction n with
  | zero =>
    intro v3 v4 H locs ls tv0 hW hS hl h
    cases h
  | succ n ih =>
    intro v3 v4 H locs ls tv0 hW hS hl h
    rw [f_X6_owedTo_b5.eq_2] at h
    refine lv_iload (pc := 5) hx hb dX6_owedTo_5 (lv_at hl 4 rfl) ?_
    refine lv_aload_n (pc := 7) hx hb dX6_owedTo_7 rfl (lv_at hl 0 rfl) ?_
    refine gf_X6_4 (pc := 8) C hW tv0 fl_X6_33 dX6_owedTo_8 ?_
    refine lv_icmp_ge (pc := 11) (tgt := 87) hx hb dX6_owedTo_11 (by decide) (fun hc0 => ?_) (fun hc0 => ?_)
    · replace h := o_pos hc0 h
      refine lv_iload_n (pc := 87) hx hb dX6_owedTo_87 rfl (lv_at hl 3 rfl) ?_
      exact g_ret (pc := 88) C hW hS rfl dX6_owedTo_88 (congrArg (fun q => some (Value.int q)) (Option.some.inj h).symm) rfl
    · replace h := o_neg hc0 h
      refine lv_iload (pc := 14) hx hb dX6_owedTo_14 (lv_at hl 4 rfl) ?_
      refine lv_aload_n (pc := 16) hx hb dX6_owedTo_16 rfl (lv_at hl 0 rfl) ?_
      refine gf_X6_2 (pc := 17) C hW tv0 fl_X6_19 dX6_owedTo_17 ?_
      refine ra_vowslen (pc := 20) C hW tv0 dX6_owedTo_20 ?_
      refine lv_icmp_ge (pc := 21) (tgt := 87) hx hb dX6_owedTo_21 (by decide) (fun hc1 => ?_) (fun hc1 => ?_)
      · replace h := o_pos hc1 h
        refine lv_iload_n (pc := 87) hx hb dX6_owedTo_87 rfl (lv_at hl 3 rfl) ?_
        exact g_ret (pc := 88) C hW hS rfl dX6_owedTo_88 (congrArg (fun q => some (Value.int q)) (Option.some.inj h).symm) rfl
      · replace h := o_neg hc1 h
        refine lv_aload_n (pc := 24) hx hb dX6_owedTo_24 rfl (lv_at hl 0 rfl) ?_
        refine gf_X6_2 (pc := 25) C hW tv0 fl_X6_19 dX6_owedTo_25 ?_
        refine lv_iload (pc := 28) hx hb dX6_owedTo_28 (lv_at hl 4 rfl) ?_
        obtain ⟨hc2, h⟩ := o_chk h
        refine ra_vows (pc := 30) C hW tv0 hc2 dX6_owedTo_30 ?_
        refine gf_X7_4 (pc := 31) C hW (kd_vow tv0 hc2) fl_X6_80 dX6_owedTo_31 ?_
        refine lv_if_ne (pc := 34) (tgt := 81) hx hb dX6_owedTo_34 (by decide) (fun hc3 => ?_) (fun hc3 => ?_)
        · replace h := o_neg hc3 h
          exact w_X6_owedTo_b81 C hK σ v0 v1 v2 v3 v4 (f_X6_owedTo_b5 σ v0 v1 v2 n) (fun v3 v4 {H : Heap} {locs : List Loc} {ls : Array Slot}  hW hS hl h => ih v3 v4 tv0 hW hS hl h) tv0 hW hS (lv_sub hl [0, 1, 2, 3, 4] rfl) h
        · replace h := o_pos hc3 h
          refine lv_aload_n (pc := 37) hx hb dX6_owedTo_37 rfl (lv_at hl 0 rfl) ?_
          refine gf_X6_2 (pc := 38) C hW tv0 fl_X6_19 dX6_owedTo_38 ?_
          refine lv_iload (pc := 41) hx hb dX6_owedTo_41 (lv_at hl 4 rfl) ?_
          obtain ⟨hc4, h⟩ := o_chk h
          refine ra_vows (pc := 43) C hW tv0 hc4 dX6_owedTo_43 ?_
          refine gf_X7_1 (pc := 44) C hW (kd_vow tv0 hc4) fl_X6_71 dX6_owedTo_44 ?_
          refine lv_iload_n (pc := 47) hx hb dX6_owedTo_47 rfl (lv_at hl 1 rfl) ?_
          refine lv_icmp_ne (pc := 48) (tgt := 81) hx hb dX6_owedTo_48 (by decide) (fun hc5 => ?_) (fun hc5 => ?_)
          · replace h := o_neg hc5 h
            exact w_X6_owedTo_b81 C hK σ v0 v1 v2 v3 v4 (f_X6_owedTo_b5 σ v0 v1 v2 n) (fun v3 v4 {H : Heap} {locs : List Loc} {ls : Array Slot}  hW hS hl h => ih v3 v4 tv0 hW hS hl h) tv0 hW hS (lv_sub hl [0, 1, 2, 3, 4] rfl) h
          · replace h := o_pos hc5 h
            refine lv_iload_n (pc := 51) hx hb dX6_owedTo_51 rfl (lv_at hl 2 rfl) ?_
            refine lv_aload_n (pc := 52) hx hb dX6_owedTo_52 rfl (lv_at hl 0 rfl) ?_
            refine gf_X6_2 (pc := 53) C hW tv0 fl_X6_19 dX6_owedTo_53 ?_
            refine lv_iload (pc := 56) hx hb dX6_owedTo_56 (lv_at hl 4 rfl) ?_
            obtain ⟨hc6, h⟩ := o_chk h
            refine ra_vows (pc := 58) C hW tv0 hc6 dX6_owedTo_58 ?_
            refine gf_X7_0 (pc := 59) C hW (kd_vow tv0 hc6) fl_X6_68 dX6_owedTo_59 ?_
            refine lv_ishr (pc := 62) hx hb dX6_owedTo_62 ?_
            refine lv_iconst (pc := 63) (v := 1) hx hb dX6_owedTo_63 (by decide) ?_
            refine lv_iand (pc := 64) hx hb dX6_owedTo_64 ?_
            refine lv_if_ne (pc := 65) (tgt := 81) hx hb dX6_owedTo_65 (by decide) (fun hc7 => ?_) (fun hc7 => ?_)
            · replace h := o_neg hc7 h
              exact w_X6_owedTo_b81 C hK σ v0 v1 v2 v3 v4 (f_X6_owedTo_b5 σ v0 v1 v2 n) (fun v3 v4 {H : Heap} {locs : List Loc} {ls : Array Slot}  hW hS hl h => ih v3 v4 tv0 hW hS hl h) tv0 hW hS (lv_sub hl [0, 1, 2, 3, 4] rfl) h
            · replace h := o_pos hc7 h
              refine lv_iload_n (pc := 68) hx hb dX6_owedTo_68 rfl (lv_at hl 3 rfl) ?_
              refine lv_aload_n (pc := 69) hx hb dX6_owedTo_69 rfl (lv_at hl 0 rfl) ?_
              refine gf_X6_2 (pc := 70) C hW tv0 fl_X6_19 dX6_owedTo_70 ?_
              refine lv_iload (pc := 73) hx hb dX6_owedTo_73 (lv_at hl 4 rfl) ?_
              obtain ⟨hc8, h⟩ := o_chk h
              refine ra_vows (pc := 75) C hW tv0 hc8 dX6_owedTo_75 ?_
              refine gf_X7_2 (pc := 76) C hW (kd_vow tv0 hc8) fl_X6_74 dX6_owedTo_76 ?_
              refine lv_iadd (pc := 79) hx hb dX6_owedTo_79 ?_
              refine lv_istore_n (pc := 80) (lv' := [(3, .int (v3 + (σ (v0 + 9 + v4.toNatClampNeg) 2))), (0, .ref (z + v0)), (1, .int v1), (2, .int v2), (4, .int v4)]) hx hb dX6_owedTo_80 rfl hl (by decide) rfl (fun ls hl => ?_)
              exact w_X6_owedTo_b81 C hK σ v0 v1 v2 (v3 + (σ (v0 + 9 + v4.toNatClampNeg) 2)) v4 (f_X6_owedTo_b5 σ v0 v1 v2 n) (fun v3 v4 {H : Heap} {locs : List Loc} {ls : Array Slot}  hW hS hl h => ih v3 v4 tv0 hW hS hl h) tv0 hW hS (lv_sub hl [1, 2, 3, 0, 4] rfl) h

theorem c_X6_owedTo {K : Nat}  (hK : 0 ≤ K) {σ : Mem} {v0 : Nat} {v1 : Int32} {v2 : Int32} {r : Int32} (hk0 : kd v0 = 6) (h : f_X6_owedTo σ v0 v1 v2 = some r) : MC l D (Ec ac z) inC z ac (z, aK, aV) (Ac z) yX6_owedTo cX6_owedTo 5 (some .int) K [.ref (z + v0), .int v1, .int v2] σ (some (.int r)) σ := by
  refine MC.of (fun q hq => by have := hq.1; show z ≤ q; omega) (plainFor_of_name (by decide)) (Nat.le_of_ble_eq_true rfl) ?_
  intro p e s m below meth c args C hW ls hl
  replace hl : lv_has ls 5 [(0, .ref (z + v0)), (1, .int v1), (2, .int v2)] := hl
  have hS : va_S (Ac z) s.heap s.heap [] := va_S.rf
  have hx := C.1.1
  have hb := C.1.2.1
  unfold f_X6_owedTo at h
  refine lv_iconst (pc := 0) (v := 0) hx hb dX6_owedTo_0 (by decide) ?_
  refine lv_istore_n (pc := 1) (lv' := [(3, .int (0 : Int32)), (0, .ref (z + v0)), (1, .int v1), (2, .int v2)]) hx hb dX6_owedTo_1 rfl hl (by decide) rfl (fun ls hl => ?_)
  refine lv_iconst (pc := 2) (v := 0) hx hb dX6_owedTo_2 (by decide) ?_
  refine lv_istore (pc := 3) (lv' := [(4, .int (0 : Int32)), (3, .int (0 : Int32)), (0, .ref (z + v0)), (1, .int v1), (2, .int v2)]) hx hb dX6_owedTo_3 hl (by decide) rfl (fun ls hl => ?_)
  exact w_X6_owedTo_b5 C hK σ v0 v1 v2 FU (0 : Int32) (0 : Int32) hk0 hW hS (lv_sub hl [2, 3, 4, 1, 0] rfl) h

theorem c_X6_matures {K : Nat}  (hK : 1 ≤ K) {σ : Mem} {v0 : Nat} {v1 : Nat} {r : Int32} (hk0 : kd v0 = 6) (hk1 : kd v1 = 10) (h : f_X6_matures σ v0 v1 = some r) : MC l D (Ec ac z) inC z ac (z, aK, aV) (Ac z) yX6_matures cX6_matures 3 (some .int) K [.ref (z + v0), .ref (z + v1)] σ (some (.int r)) σ := by
  refine MC.of (fun q hq => by have := hq.1; show z ≤ q; omega) (plainFor_of_name (by decide)) (Nat.le_of_ble_eq_true rfl) ?_
  intro p e s m below meth c args C hW ls hl
  replace hl : lv_has ls 3 [(0, .ref (z + v0)), (1, .ref (z + v1))] := hl
  have hS : va_S (Ac z) s.heap s.heap [] := va_S.rf
  have hx := C.1.1
  have hb := C.1.2.1
  unfold f_X6_matures at h
  refine lv_aload_n (pc := 0) hx hb dX6_matures_0 rfl (lv_at hl 0 rfl) ?_
  refine lv_aload_n (pc := 1) hx hb dX6_matures_1 rfl (lv_at hl 1 rfl) ?_
  refine gf_X7_5 (pc := 2) C hW hk1 fl_X6_83 dX6_matures_2 ?_
  obtain ⟨r2, hc0, h⟩ := o_b h
  refine g_virt (pc := 5) (st2 := [rv z r2]) (rest := []) C hW hS (c_X6_vowAt (K := K - 1) (by omega) hk0 hc0) mw_X6_86 (kin_6 hk0) (Ek_6 hk0) rfl (hRoom (by omega) (by decide)) rfl rfl rfl (Nat.le_of_ble_eq_true rfl) hl.1 dX6_matures_5 (fun H locs hW hS => ?_)
  refine g_astoreq_n (pc := 8) (o := r2) (lv' := [(2, rv z r2), (0, .ref (z + v0)), (1, .ref (z + v1))]) C dX6_matures_8 rfl hl (by decide) rfl (fun ls hl => ?_)
  refine g_aloadq_n (pc := 9) (o := r2) C dX6_matures_9 rfl (lv_at hl 0 rfl) ?_
  refine g_ifnonnull (pc := 10) (o := r2) (tgt := 20) C dX6_matures_10 (by decide) (fun hn => ?_) (fun q3 hn => ?_)
  · subst hn
    replace h := o_nn h
    replace hl : lv_has ls 3 [(2, .null), (0, .ref (z + v0)), (1, .ref (z + v1))] := hl
    refine lv_aload_n (pc := 13) hx hb dX6_matures_13 rfl (lv_at hl 2 rfl) ?_
    refine gf_X7_3 (pc := 14) C hW hk1 fl_X6_77 dX6_matures_14 ?_
    refine lv_goto (pc := 17) (tgt := 31) hx hb dX6_matures_17 (by decide) ?_
    exact g_ret (pc := 31) C hW hS rfl dX6_matures_31 (congrArg (fun q => some (Value.int q)) (Option.some.inj h).symm) rfl
  · subst hn
    replace h := o_ns h
    replace hl : lv_has ls 3 [(2, .ref (z + q3)), (0, .ref (z + v0)), (1, .ref (z + v1))] := hl
    refine lv_aload_n (pc := 20) hx hb dX6_matures_20 rfl (lv_at hl 2 rfl) ?_
    refine gf_X7_3 (pc := 21) C hW hk1 fl_X6_77 dX6_matures_21 ?_
    refine lv_aload_n (pc := 24) hx hb dX6_matures_24 rfl (lv_at hl 0 rfl) ?_
    refine gf_X7_3 (pc := 25) C hW ((ty_X6_vowAt hk0 hc0) q3 rfl) fl_X6_77 dX6_matures_25 ?_
    refine g_stat (pc := 28) (st2 := [.int (f_J9_max_7cf53 (σ v1 3) (σ q3 3))]) (rest := []) C hW hS (c_J9_max_7cf53 (K := K - 1) (by omega) rfl) mw_X6_90 (hRoom (by omega) (by decide)) rfl rfl rfl (Nat.le_of_ble_eq_true rfl) hl.1 dX6_matures_28 (fun H locs hW hS => ?_)
    exact g_ret (pc := 31) C hW hS rfl dX6_matures_31 (congrArg (fun q => some (Value.int q)) (Option.some.inj h).symm) rfl

theorem c_X6_startTally {K : Nat}  (hK : 0 ≤ K) {σ : Mem} {σf : Mem} {v0 : Nat} (hk0 : kd v0 = 6) (h : f_X6_startTally σ v0 = σf) : MC l D (Ec ac z) inC z ac (z, aK, aV) (Ac z) yX6_startTally cX6_startTally 1 none K [.ref (z + v0)] σ none σf := by
  refine MC.of (fun q hq => by have := hq.1; show z ≤ q; omega) (plainFor_of_name (by decide)) (Nat.le_of_ble_eq_true rfl) ?_
  intro p e s m below meth c args C hW ls hl
  replace hl : lv_has ls 1 [(0, .ref (z + v0))] := hl
  have hS : va_S (Ac z) s.heap s.heap [] := va_S.rf
  have hx := C.1.1
  have hb := C.1.2.1
  unfold f_X6_startTally at h
  refine lv_aload_n (pc := 0) hx hb dX6_startTally_0 rfl (lv_at hl 0 rfl) ?_
  refine lv_iconst (pc := 1) (v := 0) hx hb dX6_startTally_1 (by decide) ?_
  refine pf_X6_7 (pc := 2) C hW hS hk0 fl_X6_96 dX6_startTally_2 (fun H locs hW hS => ?_)
  refine lv_aload_n (pc := 5) hx hb dX6_startTally_5 rfl (lv_at hl 0 rfl) ?_
  refine lv_iconst (pc := 6) (v := -1) hx hb dX6_startTally_6 (by decide) ?_
  refine pf_X6_8 (pc := 7) C hW hS hk0 fl_X6_99 dX6_startTally_7 (fun H locs hW hS => ?_)
  refine lv_aload_n (pc := 10) hx hb dX6_startTally_10 rfl (lv_at hl 0 rfl) ?_
  refine lv_iconst (pc := 11) (v := -1) hx hb dX6_startTally_11 (by decide) ?_
  refine pf_X6_9 (pc := 12) C hW hS hk0 fl_X6_102 dX6_startTally_12 (fun H locs hW hS => ?_)
  obtain ⟨σ1, hσ1, h⟩ := o_d h
  replace hW : WC D ac z σ1 H := by rw [← hσ1]; exact hW
  refine lv_aload_n (pc := 15) hx hb dX6_startTally_15 rfl (lv_at hl 0 rfl) ?_
  refine lv_iconst (pc := 16) (v := 0) hx hb dX6_startTally_16 (by decide) ?_
  refine pf_X6_10 (pc := 17) C hW hS hk0 fl_X6_105 dX6_startTally_17 (fun H locs hW hS => ?_)
  refine lv_aload_n (pc := 20) hx hb dX6_startTally_20 rfl (lv_at hl 0 rfl) ?_
  refine lv_iconst (pc := 21) (v := 0) hx hb dX6_startTally_21 (by decide) ?_
  refine pf_X6_11 (pc := 22) C hW hS hk0 fl_X6_108 dX6_startTally_22 (fun H locs hW hS => ?_)
  obtain ⟨σ2, hσ2, h⟩ := o_d h
  replace hW : WC D ac z σ2 H := by rw [← hσ2]; exact hW
  exact g_vret (pc := 25) C hW hS dX6_startTally_25 rfl h.symm

theorem c_X6_pays {K : Nat}  (hK : 3 ≤ K) {σ : Mem} {σf : Mem} {v0 : Nat} {v1 : Nat} {r : Int32} (hk0 : kd v0 = 6) (hk1 : kd v1 = 10) (h : f_X6_pays σ v0 v1 = some (r, σf)) : MC l D (Ec ac z) inC z ac (z, aK, aV) (Ac z) yX6_pays cX6_pays 3 (some .boolean) K [.ref (z + v0), .ref (z + v1)] σ (some (.int r)) σf := by
  refine MC.of (fun q hq => by have := hq.1; show z ≤ q; omega) (plainFor_of_name (by decide)) (Nat.le_of_ble_eq_true rfl) ?_
  intro p e s m below meth c args C hW ls hl
  replace hl : lv_has ls 3 [(0, .ref (z + v0)), (1, .ref (z + v1))] := hl
  have hS : va_S (Ac z) s.heap s.heap [] := va_S.rf
  have hx := C.1.1
  have hb := C.1.2.1
  unfold f_X6_pays at h
  refine lv_aload_n (pc := 0) hx hb dX6_pays_0 rfl (lv_at hl 0 rfl) ?_
  refine lv_aload_n (pc := 1) hx hb dX6_pays_1 rfl (lv_at hl 1 rfl) ?_
  refine gf_X7_0 (pc := 2) C hW hk1 fl_X6_68 dX6_pays_2 ?_
  obtain ⟨r2, hc0, h⟩ := o_b h
  refine g_virt (pc := 5) (st2 := [rv z r2]) (rest := []) C hW hS (c_X6_manAt (K := K - 1) (by omega) hk0 hc0) mw_X6_136 (kin_6 hk0) (Ek_6 hk0) rfl (hRoom (by omega) (by decide)) rfl rfl rfl (Nat.le_of_ble_eq_true rfl) hl.1 dX6_pays_5 (fun H locs hW hS => ?_)
  refine g_astoreq_n (pc := 8) (o := r2) (lv' := [(2, rv z r2), (0, .ref (z + v0)), (1, .ref (z + v1))]) C dX6_pays_8 rfl hl (by decide) rfl (fun ls hl => ?_)
  refine g_aloadq_n (pc := 9) (o := r2) C dX6_pays_9 rfl (lv_at hl 0 rfl) ?_
  refine g_ifnull (pc := 10) (o := r2) (tgt := 24) C dX6_pays_10 (by decide) (fun hn => ?_) (fun q3 hn => ?_)
  · subst hn
    replace h := o_nn h
    replace hl : lv_has ls 3 [(2, .null), (0, .ref (z + v0)), (1, .ref (z + v1))] := hl
    refine lv_iconst (pc := 24) (v := 0) hx hb dX6_pays_24 (by decide) ?_
    exact g_ret (pc := 25) C hW hS rfl dX6_pays_25 (congrArg (fun q => some (Value.int q)) (o_r h).1) (o_r h).2
  · subst hn
    replace h := o_ns h
    replace hl : lv_has ls 3 [(2, .ref (z + q3)), (0, .ref (z + v0)), (1, .ref (z + v1))] := hl
    refine lv_aload_n (pc := 13) hx hb dX6_pays_13 rfl (lv_at hl 0 rfl) ?_
    refine g_virt (pc := 14) (st2 := [.int (f_X1_counts σ q3)]) (rest := []) C hW hS (c_X1_counts (K := K - 1) (by omega) ((ty_X6_manAt hk0 hc0) q3 rfl) rfl) mw_X6_140 (kin_9 ((ty_X6_manAt hk0 hc0) q3 rfl)) (Ek_9 ((ty_X6_manAt hk0 hc0) q3 rfl)) rfl (hRoom (by omega) (by decide)) rfl rfl rfl (Nat.le_of_ble_eq_true rfl) hl.1 dX6_pays_14 (fun H locs hW hS => ?_)
    refine lv_aload_n (pc := 17) hx hb dX6_pays_17 rfl (lv_at hl 2 rfl) ?_
    refine gf_X7_2 (pc := 18) C hW hk1 fl_X6_74 dX6_pays_18 ?_
    refine lv_icmp_ge (pc := 21) (tgt := 26) hx hb dX6_pays_21 (by decide) (fun hc3 => ?_) (fun hc3 => ?_)
    · replace h := o_pos hc3 h
      refine lv_aload_n (pc := 26) hx hb dX6_pays_26 rfl (lv_at hl 0 rfl) ?_
      refine lv_aload_n (pc := 27) hx hb dX6_pays_27 rfl (lv_at hl 2 rfl) ?_
      refine gf_X7_2 (pc := 28) C hW hk1 fl_X6_74 dX6_pays_28 ?_
      refine lv_aload_n (pc := 31) hx hb dX6_pays_31 rfl (lv_at hl 1 rfl) ?_
      refine gf_X6_0 (pc := 32) C hW hk0 fl_X6_23 dX6_pays_32 ?_
      refine lv_aload_n (pc := 35) hx hb dX6_pays_35 rfl (lv_at hl 1 rfl) ?_
      refine gf_X6_6 (pc := 36) C hW hk0 fl_X6_39 dX6_pays_36 ?_
      refine lv_iconst (pc := 39) (v := 1) hx hb dX6_pays_39 (by decide) ?_
      refine lv_aload_n (pc := 40) hx hb dX6_pays_40 rfl (lv_at hl 0 rfl) ?_
      refine lv_aload_n (pc := 41) hx hb dX6_pays_41 rfl (lv_at hl 1 rfl) ?_
      refine gf_X6_5 (pc := 42) C hW hk0 fl_X6_36 dX6_pays_42 ?_
      refine lv_aload_n (pc := 45) hx hb dX6_pays_45 rfl (lv_at hl 1 rfl) ?_
      refine lv_aload_n (pc := 46) hx hb dX6_pays_46 rfl (lv_at hl 2 rfl) ?_
      refine gf_X7_0 (pc := 47) C hW hk1 fl_X6_68 dX6_pays_47 ?_
      obtain ⟨r6, hc4, h⟩ := o_b h
      refine g_virt (pc := 50) (st2 := [.int r6, .int (σ v0 5), .ref (z + q3), .int (1 : Int32), .int (σ v0 6), .ref (z + 1), .int (σ v1 2), .ref (z + q3)]) (rest := [.int (σ v0 5), .ref (z + q3), .int (1 : Int32), .int (σ v0 6), .ref (z + 1), .int (σ v1 2), .ref (z + q3)]) C hW hS (c_X6_owed (K := K - 1) (by omega) hk0 hc4) mw_X6_111 (kin_6 hk0) (Ek_6 hk0) rfl (hRoom (by omega) (by decide)) rfl rfl rfl (Nat.le_of_ble_eq_true rfl) hl.1 dX6_pays_50 (fun H locs hW hS => ?_)
      obtain ⟨r8, σ9, hc6, h⟩ := o_b2 h
      refine g_virt (pc := 53) (st2 := [.int r8, .int (σ v1 2), .ref (z + q3)]) (rest := [.int (σ v1 2), .ref (z + q3)]) C hW hS (c_X3_says (K := K - 1) (by omega) ((ty_X6_manAt hk0 hc0) q3 rfl) hc6) mw_X6_144 (kin_1 kdc_1) (Ek_1 kdc_1) rfl (hRoom (by omega) (by decide)) rfl rfl rfl (Nat.le_of_ble_eq_true rfl) hl.1 dX6_pays_53 (fun H locs hW hS => ?_)
      refine lv_iadd (pc := 56) hx hb dX6_pays_56 ?_
      refine g_virt (pc := 57) (st2 := []) (rest := []) C hW hS (c_X1_cut (K := K - 1) (by omega) ((ty_X6_manAt hk0 hc0) q3 rfl) rfl) mw_X6_148 (kin_9 ((ty_X6_manAt hk0 hc0) q3 rfl)) (Ek_9 ((ty_X6_manAt hk0 hc0) q3 rfl)) rfl (hRoom (by omega) (by decide)) rfl rfl rfl (Nat.le_of_ble_eq_true rfl) hl.1 dX6_pays_57 (fun H locs hW hS => ?_)
      obtain ⟨σ10, hσ10, h⟩ := o_d h
      replace hW : WC D ac z σ10 H := by rw [← hσ10]; exact hW
      refine lv_aload_n (pc := 60) hx hb dX6_pays_60 rfl (lv_at hl 2 rfl) ?_
      refine lv_iconst (pc := 61) (v := 1) hx hb dX6_pays_61 (by decide) ?_
      refine pf_X7_4 (pc := 62) C hW hS hk1 fl_X6_80 dX6_pays_62 (fun H locs hW hS => ?_)
      refine lv_aload_n (pc := 65) hx hb dX6_pays_65 rfl (lv_at hl 1 rfl) ?_
      refine lv_dup (pc := 66) hx hb dX6_pays_66 rfl ?_
      refine gf_X6_10 (pc := 67) C hW hk0 fl_X6_105 dX6_pays_67 ?_
      refine lv_aload_n (pc := 70) hx hb dX6_pays_70 rfl (lv_at hl 2 rfl) ?_
      refine gf_X7_2 (pc := 71) C hW hk1 fl_X6_74 dX6_pays_71 ?_
      refine lv_iadd (pc := 74) hx hb dX6_pays_74 ?_
      refine pf_X6_10 (pc := 75) C hW hS hk0 fl_X6_105 dX6_pays_75 (fun H locs hW hS => ?_)
      obtain ⟨σ11, hσ11, h⟩ := o_d h
      replace hW : WC D ac z σ11 H := by rw [← hσ11]; exact hW
      refine lv_iconst (pc := 78) (v := 1) hx hb dX6_pays_78 (by decide) ?_
      exact g_ret (pc := 79) C hW hS rfl dX6_pays_79 (congrArg (fun q => some (Value.int q)) (o_r h).1) (o_r h).2
    · replace h := o_neg hc3 h
      refine lv_iconst (pc := 24) (v := 0) hx hb dX6_pays_24 (by decide) ?_
      exact g_ret (pc := 25) C hW hS rfl dX6_pays_25 (congrArg (fun q => some (Value.int q)) (o_r h).1) (o_r h).2

theorem c_X6_isLate {K : Nat}  (hK : 2 ≤ K) {σ : Mem} {v0 : Nat} {v1 : Nat} {r : Int32} (hk0 : kd v0 = 6) (hk1 : kd v1 = 10) (h : f_X6_isLate σ v0 v1 = some r) : MC l D (Ec ac z) inC z ac (z, aK, aV) (Ac z) yX6_isLate cX6_isLate 3 (some .boolean) K [.ref (z + v0), .ref (z + v1)] σ (some (.int r)) σ := by
  refine MC.of (fun q hq => by have := hq.1; show z ≤ q; omega) (plainFor_of_name (by decide)) (Nat.le_of_ble_eq_true rfl) ?_
  intro p e s m below meth c args C hW ls hl
  replace hl : lv_has ls 3 [(0, .ref (z + v0)), (1, .ref (z + v1))] := hl
  have hS : va_S (Ac z) s.heap s.heap [] := va_S.rf
  have hx := C.1.1
  have hb := C.1.2.1
  unfold f_X6_isLate at h
  refine lv_aload_n (pc := 0) hx hb dX6_isLate_0 rfl (lv_at hl 0 rfl) ?_
  refine lv_aload_n (pc := 1) hx hb dX6_isLate_1 rfl (lv_at hl 1 rfl) ?_
  refine gf_X7_0 (pc := 2) C hW hk1 fl_X6_68 dX6_isLate_2 ?_
  obtain ⟨r2, hc0, h⟩ := o_b h
  refine g_virt (pc := 5) (st2 := [rv z r2]) (rest := []) C hW hS (c_X6_manAt (K := K - 1) (by omega) hk0 hc0) mw_X6_136 (kin_6 hk0) (Ek_6 hk0) rfl (hRoom (by omega) (by decide)) rfl rfl rfl (Nat.le_of_ble_eq_true rfl) hl.1 dX6_isLate_5 (fun H locs hW hS => ?_)
  refine g_astoreq_n (pc := 8) (o := r2) (lv' := [(2, rv z r2), (0, .ref (z + v0)), (1, .ref (z + v1))]) C dX6_isLate_8 rfl hl (by decide) rfl (fun ls hl => ?_)
  refine g_aloadq_n (pc := 9) (o := r2) C dX6_isLate_9 rfl (lv_at hl 0 rfl) ?_
  refine g_ifnull (pc := 10) (o := r2) (tgt := 34) C dX6_isLate_10 (by decide) (fun hn => ?_) (fun q3 hn => ?_)
  · subst hn
    replace h := o_nn h
    replace hl : lv_has ls 3 [(2, .null), (0, .ref (z + v0)), (1, .ref (z + v1))] := hl
    refine lv_iconst (pc := 34) (v := 0) hx hb dX6_isLate_34 (by decide) ?_
    exact g_ret (pc := 35) C hW hS rfl dX6_isLate_35 (congrArg (fun q => some (Value.int q)) (Option.some.inj h).symm) rfl
  · subst hn
    replace h := o_ns h
    replace hl : lv_has ls 3 [(2, .ref (z + q3)), (0, .ref (z + v0)), (1, .ref (z + v1))] := hl
    refine lv_aload_n (pc := 13) hx hb dX6_isLate_13 rfl (lv_at hl 1 rfl) ?_
    refine gf_X6_5 (pc := 14) C hW hk0 fl_X6_36 dX6_isLate_14 ?_
    refine lv_aload_n (pc := 17) hx hb dX6_isLate_17 rfl (lv_at hl 1 rfl) ?_
    refine lv_aload_n (pc := 18) hx hb dX6_isLate_18 rfl (lv_at hl 2 rfl) ?_
    obtain ⟨r5, hc3, h⟩ := o_b h
    refine g_virt (pc := 19) (st2 := [.int r5, .int (σ v0 5)]) (rest := [.int (σ v0 5)]) C hW hS (c_X6_matures (K := K - 1) (by omega) hk0 hk1 hc3) mw_X6_121 (kin_6 hk0) (Ek_6 hk0) rfl (hRoom (by omega) (by decide)) rfl rfl rfl (Nat.le_of_ble_eq_true rfl) hl.1 dX6_isLate_19 (fun H locs hW hS => ?_)
    refine lv_aload_n (pc := 22) hx hb dX6_isLate_22 rfl (lv_at hl 0 rfl) ?_
    refine g_virt (pc := 23) (st2 := [.int (f_X1_grace σ q3), .int r5, .int (σ v0 5)]) (rest := [.int r5, .int (σ v0 5)]) C hW hS (c_X1_grace (K := K - 1) (by omega) ((ty_X6_manAt hk0 hc0) q3 rfl) rfl) mw_X6_152 (kin_9 ((ty_X6_manAt hk0 hc0) q3 rfl)) (Ek_9 ((ty_X6_manAt hk0 hc0) q3 rfl)) rfl (hRoom (by omega) (by decide)) rfl rfl rfl (Nat.le_of_ble_eq_true rfl) hl.1 dX6_isLate_23 (fun H locs hW hS => ?_)
    refine lv_iadd (pc := 26) hx hb dX6_isLate_26 ?_
    refine lv_icmp_lt (pc := 27) (tgt := 34) hx hb dX6_isLate_27 (by decide) (fun hc5 => ?_) (fun hc5 => ?_)
    · replace h := o_pos hc5 h
      refine lv_iconst (pc := 34) (v := 0) hx hb dX6_isLate_34 (by decide) ?_
      exact g_ret (pc := 35) C hW hS rfl dX6_isLate_35 (congrArg (fun q => some (Value.int q)) (Option.some.inj h).symm) rfl
    · replace h := o_neg hc5 h
      refine lv_iconst (pc := 30) (v := 1) hx hb dX6_isLate_30 (by decide) ?_
      refine lv_goto (pc := 31) (tgt := 35) hx hb dX6_isLate_31 (by decide) ?_
      exact g_ret (pc := 35) C hW hS rfl dX6_isLate_35 (congrArg (fun q => some (Value.int q)) (Option.some.inj h).symm) rfl

theorem w_X6_shear_b118 (C : CX cX6_shear 5 RX6 none D ac p m c s args meth (z, aK, aV) (Ac z)) (hK : 3 ≤ K) {σf : Mem}   (σ : Mem) (v0 : Nat) (v1 : Int32) (v2 : Int32)  {H : Heap} {locs : List Loc} {ls : Array Slot} (tv0 : kd v0 = 6) (hW : WC D ac z σ H) (hS : va_S (Ac z) s.heap H locs) (hl : lv_has ls 5 [(0, .ref (z + v0)), (1, .int v1), (2, .int v2)]) (h : f_X6_shear_b118 σ v0 v1 v2 = some σf) : W p l e (rma K 0 0) s m args below meth c H locs 0 0 (MQ below (QV D (Ec ac z) inC z none σf (Ac z)) args s 0 0 (Ac z)) (F0 m 118 ls []) := by
  have hx := C.1.1
  have hb := C.1.2.1
  unfold f_X6_shear_b118 at h
  refine lv_aload_n (pc := 118) hx hb dX6_shear_118 rfl (lv_at hl 0 rfl) ?_
  refine gf_X6_7 (pc := 119) C hW tv0 fl_X6_96 dX6_shear_119 ?_
  refine lv_if_ne (pc := 122) (tgt := 135) hx hb dX6_shear_122 (by decide) (fun hc17 => ?_) (fun hc17 => ?_)
  · replace h := o_neg hc17 h
    refine lv_aload_n (pc := 135) hx hb dX6_shear_135 rfl (lv_at hl 0 rfl) ?_
    refine lv_dup (pc := 136) hx hb dX6_shear_136 rfl ?_
    refine gf_X6_7 (pc := 137) C hW tv0 fl_X6_96 dX6_shear_137 ?_
    refine lv_iconst (pc := 140) (v := 1) hx hb dX6_shear_140 (by decide) ?_
    refine lv_iadd (pc := 141) hx hb dX6_shear_141 ?_
    refine pf_X6_7 (pc := 142) C hW hS tv0 fl_X6_96 dX6_shear_142 (fun H locs hW hS => ?_)
    exact g_vret (pc := 145) C hW hS dX6_shear_145 rfl (Option.some.inj h).symm
  · replace h := o_pos hc17 h
    refine lv_aload_n (pc := 125) hx hb dX6_shear_125 rfl (lv_at hl 0 rfl) ?_
    refine lv_iload_n (pc := 126) hx hb dX6_shear_126 rfl (lv_at hl 1 rfl) ?_
    refine pf_X6_8 (pc := 127) C hW hS tv0 fl_X6_99 dX6_shear_127 (fun H locs hW hS => ?_)
    refine lv_aload_n (pc := 130) hx hb dX6_shear_130 rfl (lv_at hl 0 rfl) ?_
    refine lv_iload_n (pc := 131) hx hb dX6_shear_131 rfl (lv_at hl 2 rfl) ?_
    refine pf_X6_9 (pc := 132) C hW hS tv0 fl_X6_102 dX6_shear_132 (fun H locs hW hS => ?_)
    refine lv_aload_n (pc := 135) hx hb dX6_shear_135 rfl (lv_at hl 0 rfl) ?_
    refine lv_dup (pc := 136) hx hb dX6_shear_136 rfl ?_
    refine gf_X6_7 (pc := 137) C hW tv0 fl_X6_96 dX6_shear_137 ?_
    refine lv_iconst (pc := 140) (v := 1) hx hb dX6_shear_140 (by decide) ?_
    refine lv_iadd (pc := 141) hx hb dX6_shear_141 ?_
    refine pf_X6_7 (pc := 142) C hW hS tv0 fl_X6_96 dX6_shear_142 (fun H locs hW hS => ?_)
    obtain ⟨σ19, hσ19, h⟩ := o_d h
    replace hW : WC D ac z σ19 H := by rw [← hσ19]; exact hW
    exact g_vret (pc := 145) C hW hS dX6_shear_145 rfl (Option.some.inj h).symm

theorem w_X6_shear_b112 (C : CX cX6_shear 5 RX6 none D ac p m c s args meth (z, aK, aV) (Ac z)) (hK : 3 ≤ K) {σf : Mem}   (σ : Mem) (v0 : Nat) (v1 : Int32) (v2 : Int32) (v4 : Int32) (s55 : Mem → Int32 → Option Mem) (hs55 : ∀ (σ : Mem) (v4 : Int32) {H : Heap} {locs : List Loc} {ls : Array Slot} (_ : WC D ac z σ H) (_ : va_S (Ac z) s.heap H locs) (_ : lv_has ls 5 [(0, .ref (z + v0)), (1, .int v1), (2, .int v2), (4, .int v4)]) (_ : s55 σ v4 = some σf), W p l e (rma K 0 0) s m args below meth c H locs 0 0 (MQ below (QV D (Ec ac z) inC z none σf (Ac z)) args s 0 0 (Ac z)) (F0 m 55 ls [])) {H : Heap} {locs : List Loc} {ls : Array Slot} (tv0 : kd v0 = 6) (hW : WC D ac z σ H) (hS : va_S (Ac z) s.heap H locs) (hl : lv_has ls 5 [(0, .ref (z + v0)), (1, .int v1), (2, .int v2), (4, .int v4)]) (h : f_X6_shear_b112 s55 σ v0 v1 v2 v4 = some σf) : W p l e (rma K 0 0) s m args below meth c H locs 0 0 (MQ below (QV D (Ec ac z) inC z none σf (Ac z)) args s 0 0 (Ac z)) (F0 m 112 ls []) := by
  have hx := C.1.1
  have hb := C.1.2.1
  unfold f_X6_shear_b112 at h
  refine lv_iinc (pc := 112) (v := (v4 + 1)) (lv' := [(4, .int (v4 + 1)), (0, .ref (z + v0)), (1, .int v1), (2, .int v2)]) hx hb dX6_shear_112 hl (k := 3) rfl rfl (by decide) rfl (fun ls hl => ?_)
  refine lv_goto (pc := 115) (tgt := 55) hx hb dX6_shear_115 (by decide) ?_
  exact hs55 σ (v4 + 1) hW hS (lv_sub hl [1, 2, 3, 0] rfl) h

theorem w_X6_shear_b55 (C : CX cX6_shear 5 RX6 none D ac p m c s args meth (z, aK, aV) (Ac z)) (hK : 3 ≤ K) {σf : Mem}   (v0 : Nat) (v1 : Int32) (v2 : Int32)  : ∀ (n : Nat) (σ : Mem) (v4 : Int32) {H : Heap} {locs : List Loc} {ls : Array Slot} (tv0 : kd v0 = 6) (hW : WC D ac z σ H) (hS : va_S (Ac z) s.heap H locs) (hl : lv_has ls 5 [(0, .ref (z + v0)), (1, .int v1), (2, .int v2), (4, .int v4)]) (h : f_X6_shear_b55 v0 v1 v2 n σ v4 = some σf), W p l e (rma K 0 0) s m args below meth c H locs 0 0 (MQ below (QV D (Ec ac z) inC z none σf (Ac z)) args s 0 0 (Ac z)) (F0 m 55 ls []) := by
  have hx := C.1.1
  have hb := C.1.2.1
  intro n
  induction n with
  | zero =>
    intro σ v4 H locs ls tv0 hW hS hl h
    cases h
  | succ n ih =>
    intro σ v4 H locs ls tv0 hW hS hl h
    rw [f_X6_shear_b55.eq_2] at h
    refine lv_iload (pc := 55) hx hb dX6_shear_55 (lv_at hl 3 rfl) ?_
    refine lv_aload_n (pc := 57) hx hb dX6_shear_57 rfl (lv_at hl 0 rfl) ?_
    refine gf_X6_4 (pc := 58) C hW tv0 fl_X6_33 dX6_shear_58 ?_
    refine lv_icmp_ge (pc := 61) (tgt := 118) hx hb dX6_shear_61 (by decide) (fun hc9 => ?_) (fun hc9 => ?_)
    · replace h := o_pos hc9 h
      exact w_X6_shear_b118 C hK σ v0 v1 v2 tv0 hW hS (lv_sub hl [0, 1, 2] rfl) h
    · replace h := o_neg hc9 h
      refine lv_iload (pc := 64) hx hb dX6_shear_64 (lv_at hl 3 rfl) ?_
      refine lv_aload_n (pc := 66) hx hb dX6_shear_66 rfl (lv_at hl 0 rfl) ?_
      refine gf_X6_2 (pc := 67) C hW tv0 fl_X6_19 dX6_shear_67 ?_
      refine ra_vowslen (pc := 70) C hW tv0 dX6_shear_70 ?_
      refine lv_icmp_ge (pc := 71) (tgt := 118) hx hb dX6_shear_71 (by decide) (fun hc10 => ?_) (fun hc10 => ?_)
      · replace h := o_pos hc10 h
        exact w_X6_shear_b118 C hK σ v0 v1 v2 tv0 hW hS (lv_sub hl [0, 1, 2] rfl) h
      · replace h := o_neg hc10 h
        refine lv_aload_n (pc := 74) hx hb dX6_shear_74 rfl (lv_at hl 0 rfl) ?_
        refine gf_X6_2 (pc := 75) C hW tv0 fl_X6_19 dX6_shear_75 ?_
        refine lv_iload (pc := 78) hx hb dX6_shear_78 (lv_at hl 3 rfl) ?_
        obtain ⟨hc11, h⟩ := o_chk h
        refine ra_vows (pc := 80) C hW tv0 hc11 dX6_shear_80 ?_
        refine gf_X7_4 (pc := 81) C hW (kd_vow tv0 hc11) fl_X6_80 dX6_shear_81 ?_
        refine lv_if_ne (pc := 84) (tgt := 112) hx hb dX6_shear_84 (by decide) (fun hc12 => ?_) (fun hc12 => ?_)
        · replace h := o_neg hc12 h
          exact w_X6_shear_b112 C hK σ v0 v1 v2 v4 (f_X6_shear_b55 v0 v1 v2 n) (fun σ v4 {H : Heap} {locs : List Loc} {ls : Array Slot}  hW hS hl h => ih σ v4 tv0 hW hS hl h) tv0 hW hS (lv_sub hl [0, 1, 2, 3] rfl) h
        · replace h := o_pos hc12 h
          refine lv_aload_n (pc := 87) hx hb dX6_shear_87 rfl (lv_at hl 0 rfl) ?_
          refine gf_X6_2 (pc := 88) C hW tv0 fl_X6_19 dX6_shear_88 ?_
          refine lv_iload (pc := 91) hx hb dX6_shear_91 (lv_at hl 3 rfl) ?_
          obtain ⟨hc13, h⟩ := o_chk h
          refine ra_vows (pc := 93) C hW tv0 hc13 dX6_shear_93 ?_
          refine gf_X7_0 (pc := 94) C hW (kd_vow tv0 hc13) fl_X6_68 dX6_shear_94 ?_
          refine lv_iload_n (pc := 97) hx hb dX6_shear_97 rfl (lv_at hl 1 rfl) ?_
          refine lv_icmp_ne (pc := 98) (tgt := 112) hx hb dX6_shear_98 (by decide) (fun hc14 => ?_) (fun hc14 => ?_)
          · replace h := o_neg hc14 h
            exact w_X6_shear_b112 C hK σ v0 v1 v2 v4 (f_X6_shear_b55 v0 v1 v2 n) (fun σ v4 {H : Heap} {locs : List Loc} {ls : Array Slot}  hW hS hl h => ih σ v4 tv0 hW hS hl h) tv0 hW hS (lv_sub hl [0, 1, 2, 3] rfl) h
          · replace h := o_pos hc14 h
            refine lv_aload_n (pc := 101) hx hb dX6_shear_101 rfl (lv_at hl 0 rfl) ?_
            refine gf_X6_2 (pc := 102) C hW tv0 fl_X6_19 dX6_shear_102 ?_
            refine lv_iload (pc := 105) hx hb dX6_shear_105 (lv_at hl 3 rfl) ?_
            obtain ⟨hc15, h⟩ := o_chk h
            refine ra_vows (pc := 107) C hW tv0 hc15 dX6_shear_107 ?_
            refine lv_iconst (pc := 108) (v := 2) hx hb dX6_shear_108 (by decide) ?_
            refine pf_X7_4 (pc := 109) C hW hS (kd_vow tv0 hc15) fl_X6_80 dX6_shear_109 (fun H locs hW hS => ?_)
            obtain ⟨σ17, hσ17, h⟩ := o_d h
            replace hW : WC D ac z σ17 H := by rw [← hσ17]; exact hW
            exact w_X6_shear_b112 C hK σ17 v0 v1 v2 v4 (f_X6_shear_b55 v0 v1 v2 n) (fun σ v4 {H : Heap} {locs : List Loc} {ls : Array Slot}  hW hS hl h => ih σ v4 tv0 hW hS hl h) tv0 hW hS (lv_sub hl [0, 1, 2, 3] rfl) h

theorem c_X6_shear {K : Nat}  (hK : 3 ≤ K) {σ : Mem} {σf : Mem} {v0 : Nat} {v1 : Int32} {v2 : Int32} (hk0 : kd v0 = 6) (h : f_X6_shear σ v0 v1 v2 = some σf) : MC l D (Ec ac z) inC z ac (z, aK, aV) (Ac z) yX6_shear cX6_shear 5 none K [.ref (z + v0), .int v1, .int v2] σ none σf := by
  refine MC.of (fun q hq => by have := hq.1; show z ≤ q; omega) (plainFor_of_name (by decide)) (Nat.le_of_ble_eq_true rfl) ?_
  intro p e s m below meth c args C hW ls hl
  replace hl : lv_has ls 5 [(0, .ref (z + v0)), (1, .int v1), (2, .int v2)] := hl
  have hS : va_S (Ac z) s.heap s.heap [] := va_S.rf
  have hx := C.1.1
  have hb := C.1.2.1
  unfold f_X6_shear at h
  refine lv_aload_n (pc := 0) hx hb dX6_shear_0 rfl (lv_at hl 0 rfl) ?_
  refine lv_iload_n (pc := 1) hx hb dX6_shear_1 rfl (lv_at hl 1 rfl) ?_
  obtain ⟨r2, hc0, h⟩ := o_b h
  refine g_virt (pc := 2) (st2 := [rv z r2]) (rest := []) C hW hS (c_X6_manAt (K := K - 1) (by omega) hk0 hc0) mw_X6_136 (kin_6 hk0) (Ek_6 hk0) rfl (hRoom (by omega) (by decide)) rfl rfl rfl (Nat.le_of_ble_eq_true rfl) hl.1 dX6_shear_2 (fun H locs hW hS => ?_)
  refine g_astoreq_n (pc := 5) (o := r2) (lv' := [(3, rv z r2), (0, .ref (z + v0)), (1, .int v1), (2, .int v2)]) C dX6_shear_5 rfl hl (by decide) rfl (fun ls hl => ?_)
  refine g_aloadq_n (pc := 6) (o := r2) C dX6_shear_6 rfl (lv_at hl 0 rfl) ?_
  refine g_ifnonnull (pc := 7) (o := r2) (tgt := 11) C dX6_shear_7 (by decide) (fun hn => ?_) (fun q3 hn => ?_)
  · subst hn
    replace h := o_nn h
    replace hl : lv_has ls 5 [(3, .null), (0, .ref (z + v0)), (1, .int v1), (2, .int v2)] := hl
    exact g_vret (pc := 10) C hW hS dX6_shear_10 rfl (Option.some.inj h).symm
  · subst hn
    replace h := o_ns h
    replace hl : lv_has ls 5 [(3, .ref (z + q3)), (0, .ref (z + v0)), (1, .int v1), (2, .int v2)] := hl
    refine lv_aload_n (pc := 11) hx hb dX6_shear_11 rfl (lv_at hl 1 rfl) ?_
    refine lv_dup (pc := 12) hx hb dX6_shear_12 rfl ?_
    refine gf_X6_11 (pc := 13) C hW hk0 fl_X6_108 dX6_shear_13 ?_
    refine lv_aload_n (pc := 16) hx hb dX6_shear_16 rfl (lv_at hl 1 rfl) ?_
    refine gf_X6_0 (pc := 17) C hW hk0 fl_X6_23 dX6_shear_17 ?_
    refine lv_aload_n (pc := 20) hx hb dX6_shear_20 rfl (lv_at hl 1 rfl) ?_
    refine gf_X6_6 (pc := 21) C hW hk0 fl_X6_39 dX6_shear_21 ?_
    refine lv_iconst (pc := 24) (v := 2) hx hb dX6_shear_24 (by decide) ?_
    refine lv_aload_n (pc := 25) hx hb dX6_shear_25 rfl (lv_at hl 0 rfl) ?_
    refine lv_aload_n (pc := 26) hx hb dX6_shear_26 rfl (lv_at hl 1 rfl) ?_
    refine gf_X6_5 (pc := 27) C hW hk0 fl_X6_36 dX6_shear_27 ?_
    refine lv_aload_n (pc := 30) hx hb dX6_shear_30 rfl (lv_at hl 1 rfl) ?_
    refine lv_iload_n (pc := 31) hx hb dX6_shear_31 rfl (lv_at hl 2 rfl) ?_
    obtain ⟨r5, hc3, h⟩ := o_b h
    refine g_virt (pc := 32) (st2 := [.int r5, .int (σ v0 5), .ref (z + q3), .int (2 : Int32), .int (σ v0 6), .ref (z + 1), .int (σ v0 11), .ref (z + v0)]) (rest := [.int (σ v0 5), .ref (z + q3), .int (2 : Int32), .int (σ v0 6), .ref (z + 1), .int (σ v0 11), .ref (z + v0)]) C hW hS (c_X6_owed (K := K - 1) (by omega) hk0 hc3) mw_X6_111 (kin_6 hk0) (Ek_6 hk0) rfl (hRoom (by omega) (by decide)) rfl rfl rfl (Nat.le_of_ble_eq_true rfl) hl.1 dX6_shear_32 (fun H locs hW hS => ?_)
    obtain ⟨r7, σ8, hc5, h⟩ := o_b2 h
    refine g_virt (pc := 35) (st2 := [.int r7, .int (σ v0 11), .ref (z + v0)]) (rest := [.int (σ v0 11), .ref (z + v0)]) C hW hS (c_X3_says (K := K - 1) (by omega) ((ty_X6_manAt hk0 hc0) q3 rfl) hc5) mw_X6_144 (kin_1 kdc_1) (Ek_1 kdc_1) rfl (hRoom (by omega) (by decide)) rfl rfl rfl (Nat.le_of_ble_eq_true rfl) hl.1 dX6_shear_35 (fun H locs hW hS => ?_)
    refine lv_iadd (pc := 38) hx hb dX6_shear_38 ?_
    refine pf_X6_11 (pc := 39) C hW hS hk0 fl_X6_108 dX6_shear_39 (fun H locs hW hS => ?_)
    refine lv_aload_n (pc := 42) hx hb dX6_shear_42 rfl (lv_at hl 0 rfl) ?_
    refine lv_iconst (pc := 43) (v := 1) hx hb dX6_shear_43 (by decide) ?_
    refine pf_X1_5 (pc := 44) C hW hS ((ty_X6_manAt hk0 hc0) q3 rfl) fl_X6_64 dX6_shear_44 (by decide) (fun H locs hW hS => ?_)
    obtain ⟨σ9, hσ9, h⟩ := o_d h
    replace hW : WC D ac z σ9 H := by rw [← hσ9]; exact hW
    refine lv_aload_n (pc := 47) hx hb dX6_shear_47 rfl (lv_at hl 0 rfl) ?_
    refine lv_iconst (pc := 48) (v := 0) hx hb dX6_shear_48 (by decide) ?_
    refine pf_X1_2 (pc := 49) C hW hS ((ty_X6_manAt hk0 hc0) q3 rfl) fl_X6_55 dX6_shear_49 (fun H locs hW hS => ?_)
    refine lv_iconst (pc := 52) (v := 0) hx hb dX6_shear_52 (by decide) ?_
    refine lv_istore (pc := 53) (lv' := [(4, .int (0 : Int32)), (3, .ref (z + q3)), (0, .ref (z + v0)), (1, .int v1), (2, .int v2)]) hx hb dX6_shear_53 hl (by decide) rfl (fun ls hl => ?_)
    exact w_X6_shear_b55 C hK v0 v1 v2 FU (ms σ9 q3 2 (0 : Int32)) (0 : Int32) hk0 hW hS (lv_sub hl [2, 3, 4, 0] rfl) h

theorem w_X6_liveWeek_b130 (C : CX cX6_liveWeek 4 RX6 none D ac p m c s args meth (z, aK, aV) (Ac z)) (hK : 4 ≤ K) {σf : Mem}   (σ : Mem) (v0 : Nat) (v1 : Int32) (v2 : Int32) (s62 : Mem → Int32 → Option Mem) (hs62 : ∀ (σ : Mem) (v2 : Int32) {H : Heap} {locs : List Loc} {ls : Array Slot} (_ : WC D ac z σ H) (_ : va_S (Ac z) s.heap H locs) (_ : lv_has ls 4 [(0, .ref (z + v0)), (1, .int v1), (2, .int v2)]) (_ : s62 σ v2 = some σf), W p l e (rma K 0 0) s m args below meth c H locs 0 0 (MQ below (QV D (Ec ac z) inC z none σf (Ac z)) args s 0 0 (Ac z)) (F0 m 62 ls [])) {H : Heap} {locs : List Loc} {ls : Array Slot} (tv0 : kd v0 = 6) (hW : WC D ac z σ H) (hS : va_S (Ac z) s.heap H locs) (hl : lv_has ls 4 [(0, .ref (z + v0)), (1, .int v1), (2, .int v2)]) (h : f_X6_liveWeek_b130 s62 σ v0 v1 v2 = some σf) : W p l e (rma K 0 0) s m args below meth c H locs 0 0 (MQ below (QV D (Ec ac z) inC z none σf (Ac z)) args s 0 0 (Ac z)) (F0 m 130 ls []) := by
  have hx := C.1.1
  have hb := C.1.2.1
  unfold f_X6_liveWeek_b130 at h
  refine lv_iinc (pc := 130) (v := (v2 + 1)) (lv' := [(2, .int (v2 + 1)), (0, .ref (z + v0)), (1, .int v1)]) hx hb dX6_liveWeek_130 hl (k := 2) rfl rfl (by decide) rfl (fun ls hl => ?_)
  refine lv_goto (pc := 133) (tgt := 62) hx hb dX6_liveWeek_133 (by decide) ?_
  exact hs62 σ (v2 + 1) hW hS (lv_sub hl [1, 2, 0] rfl) h

theorem w_X6_liveWeek_b62 (C : CX cX6_liveWeek 4 RX6 none D ac p m c s args meth (z, aK, aV) (Ac z)) (hK : 4 ≤ K) {σf : Mem}   (v0 : Nat) (v1 : Int32)  : ∀ (n : Nat) (σ : Mem) (v2 : Int32) {H : Heap} {locs : List Loc} {ls : Array Slot} (tv0 : kd v0 = 6) (hW : WC D ac z σ H) (hS : va_S (Ac z) s.heap H locs) (hl : lv_has ls 4 [(0, .ref (z + v0)), (1, .int v1), (2, .int v2)]) (h : f_X6_liveWeek_b62 v0 v1 n σ v2 = some σf), W p l e (rma K 0 0) s m args below meth c H locs 0 0 (MQ below (QV D (Ec ac z) inC z none σf (Ac z)) args s 0 0 (Ac z)) (F0 m 62 ls []) := by
  have hx := C.1.1
  have hb := C.1.2.1
  intro n
  induction n with
  | zero =>
    intro σ v2 H locs ls tv0 hW hS hl h
    cases h
  | succ n ih =>
    intro σ v2 H locs ls tv0 hW hS hl h
    rw [f_X6_liveWeek_b62.eq_2] at h
    refine lv_iload_n (pc := 62) hx hb dX6_liveWeek_62 rfl (lv_at hl 2 rfl) ?_
    refine lv_aload_n (pc := 63) hx hb dX6_liveWeek_63 rfl (lv_at hl 0 rfl) ?_
    refine gf_X6_4 (pc := 64) C hW tv0 fl_X6_33 dX6_liveWeek_64 ?_
    refine lv_icmp_ge (pc := 67) (tgt := 136) hx hb dX6_liveWeek_67 (by decide) (fun hc9 => ?_) (fun hc9 => ?_)
    · replace h := o_pos hc9 h
      refine lv_aload_n (pc := 136) hx hb dX6_liveWeek_136 rfl (lv_at hl 0 rfl) ?_
      refine lv_dup (pc := 137) hx hb dX6_liveWeek_137 rfl ?_
      refine gf_X6_5 (pc := 138) C hW tv0 fl_X6_36 dX6_liveWeek_138 ?_
      refine lv_iconst (pc := 141) (v := 1) hx hb dX6_liveWeek_141 (by decide) ?_
      refine lv_iadd (pc := 142) hx hb dX6_liveWeek_142 ?_
      refine pf_X6_5 (pc := 143) C hW hS tv0 fl_X6_36 dX6_liveWeek_143 (fun H locs hW hS => ?_)
      exact g_vret (pc := 146) C hW hS dX6_liveWeek_146 rfl (Option.some.inj h).symm
    · replace h := o_neg hc9 h
      refine lv_iload_n (pc := 70) hx hb dX6_liveWeek_70 rfl (lv_at hl 2 rfl) ?_
      refine lv_aload_n (pc := 71) hx hb dX6_liveWeek_71 rfl (lv_at hl 0 rfl) ?_
      refine gf_X6_2 (pc := 72) C hW tv0 fl_X6_19 dX6_liveWeek_72 ?_
      refine ra_vowslen (pc := 75) C hW tv0 dX6_liveWeek_75 ?_
      refine lv_icmp_ge (pc := 76) (tgt := 136) hx hb dX6_liveWeek_76 (by decide) (fun hc10 => ?_) (fun hc10 => ?_)
      · replace h := o_pos hc10 h
        refine lv_aload_n (pc := 136) hx hb dX6_liveWeek_136 rfl (lv_at hl 0 rfl) ?_
        refine lv_dup (pc := 137) hx hb dX6_liveWeek_137 rfl ?_
        refine gf_X6_5 (pc := 138) C hW tv0 fl_X6_36 dX6_liveWeek_138 ?_
        refine lv_iconst (pc := 141) (v := 1) hx hb dX6_liveWeek_141 (by decide) ?_
        refine lv_iadd (pc := 142) hx hb dX6_liveWeek_142 ?_
        refine pf_X6_5 (pc := 143) C hW hS tv0 fl_X6_36 dX6_liveWeek_143 (fun H locs hW hS => ?_)
        exact g_vret (pc := 146) C hW hS dX6_liveWeek_146 rfl (Option.some.inj h).symm
      · replace h := o_neg hc10 h
        refine lv_aload_n (pc := 79) hx hb dX6_liveWeek_79 rfl (lv_at hl 0 rfl) ?_
        refine gf_X6_2 (pc := 80) C hW tv0 fl_X6_19 dX6_liveWeek_80 ?_
        refine lv_iload_n (pc := 83) hx hb dX6_liveWeek_83 rfl (lv_at hl 2 rfl) ?_
        obtain ⟨hc11, h⟩ := o_chk h
        refine ra_vows (pc := 84) C hW tv0 hc11 dX6_liveWeek_84 ?_
        refine lv_astore_n (pc := 85) (lv' := [(3, .ref (z + (v0 + 9 + v2.toNatClampNeg))), (0, .ref (z + v0)), (1, .int v1), (2, .int v2)]) hx hb dX6_liveWeek_85 rfl hl (by decide) rfl (fun ls hl => ?_)
        refine lv_aload_n (pc := 86) hx hb dX6_liveWeek_86 rfl (lv_at hl 0 rfl) ?_
        refine gf_X7_4 (pc := 87) C hW (kd_vow tv0 hc11) fl_X6_80 dX6_liveWeek_87 ?_
        refine lv_if_ne (pc := 90) (tgt := 130) hx hb dX6_liveWeek_90 (by decide) (fun hc12 => ?_) (fun hc12 => ?_)
        · replace h := o_neg hc12 h
          exact w_X6_liveWeek_b130 C hK σ v0 v1 v2 (f_X6_liveWeek_b62 v0 v1 n) (fun σ v2 {H : Heap} {locs : List Loc} {ls : Array Slot}  hW hS hl h => ih σ v2 tv0 hW hS hl h) tv0 hW hS (lv_sub hl [1, 2, 3] rfl) h
        · replace h := o_pos hc12 h
          refine lv_aload_n (pc := 93) hx hb dX6_liveWeek_93 rfl (lv_at hl 1 rfl) ?_
          refine lv_aload_n (pc := 94) hx hb dX6_liveWeek_94 rfl (lv_at hl 0 rfl) ?_
          obtain ⟨r15, hc13, h⟩ := o_b h
          refine g_virt (pc := 95) (st2 := [.int r15]) (rest := []) C hW hS (c_X6_matures (K := K - 1) (by omega) tv0 (kd_vow tv0 hc11) hc13) mw_X6_121 (kin_6 tv0) (Ek_6 tv0) rfl (hRoom (by omega) (by decide)) rfl rfl rfl (Nat.le_of_ble_eq_true rfl) hl.1 dX6_liveWeek_95 (fun H locs hW hS => ?_)
          refine lv_aload_n (pc := 98) hx hb dX6_liveWeek_98 rfl (lv_at hl 1 rfl) ?_
          refine gf_X6_5 (pc := 99) C hW tv0 fl_X6_36 dX6_liveWeek_99 ?_
          refine lv_icmp_gt (pc := 102) (tgt := 130) hx hb dX6_liveWeek_102 (by decide) (fun hc15 => ?_) (fun hc15 => ?_)
          · replace h := o_pos hc15 h
            exact w_X6_liveWeek_b130 C hK σ v0 v1 v2 (f_X6_liveWeek_b62 v0 v1 n) (fun σ v2 {H : Heap} {locs : List Loc} {ls : Array Slot}  hW hS hl h => ih σ v2 tv0 hW hS hl h) tv0 hW hS (lv_sub hl [1, 2, 3] rfl) h
          · replace h := o_neg hc15 h
            refine lv_aload_n (pc := 105) hx hb dX6_liveWeek_105 rfl (lv_at hl 1 rfl) ?_
            refine lv_aload_n (pc := 106) hx hb dX6_liveWeek_106 rfl (lv_at hl 0 rfl) ?_
            obtain ⟨r18, σ19, hc16, h⟩ := o_b2 h
            refine g_virt (pc := 107) (st2 := [.int r18]) (rest := []) C hW hS (c_X6_pays (K := K - 1) (by omega) tv0 (kd_vow tv0 hc11) hc16) mw_X6_125 (kin_6 tv0) (Ek_6 tv0) rfl (hRoom (by omega) (by decide)) rfl rfl rfl (Nat.le_of_ble_eq_true rfl) hl.1 dX6_liveWeek_107 (fun H locs hW hS => ?_)
            refine lv_if_ne (pc := 110) (tgt := 130) hx hb dX6_liveWeek_110 (by decide) (fun hc19 => ?_) (fun hc19 => ?_)
            · replace h := o_neg hc19 h
              exact w_X6_liveWeek_b130 C hK σ19 v0 v1 v2 (f_X6_liveWeek_b62 v0 v1 n) (fun σ v2 {H : Heap} {locs : List Loc} {ls : Array Slot}  hW hS hl h => ih σ v2 tv0 hW hS hl h) tv0 hW hS (lv_sub hl [1, 2, 3] rfl) h
            · replace h := o_pos hc19 h
              refine lv_aload_n (pc := 113) hx hb dX6_liveWeek_113 rfl (lv_at hl 1 rfl) ?_
              refine lv_aload_n (pc := 114) hx hb dX6_liveWeek_114 rfl (lv_at hl 0 rfl) ?_
              obtain ⟨r22, hc20, h⟩ := o_b h
              refine g_virt (pc := 115) (st2 := [.int r22]) (rest := []) C hW hS (c_X6_isLate (K := K - 1) (by omega) tv0 (kd_vow tv0 hc11) hc20) mw_X6_129 (kin_6 tv0) (Ek_6 tv0) rfl (hRoom (by omega) (by decide)) rfl rfl rfl (Nat.le_of_ble_eq_true rfl) hl.1 dX6_liveWeek_115 (fun H locs hW hS => ?_)
              refine lv_if_eq (pc := 118) (tgt := 130) hx hb dX6_liveWeek_118 (by decide) (fun hc22 => ?_) (fun hc22 => ?_)
              · replace h := o_pos hc22 h
                exact w_X6_liveWeek_b130 C hK σ19 v0 v1 v2 (f_X6_liveWeek_b62 v0 v1 n) (fun σ v2 {H : Heap} {locs : List Loc} {ls : Array Slot}  hW hS hl h => ih σ v2 tv0 hW hS hl h) tv0 hW hS (lv_sub hl [1, 2, 3] rfl) h
              · replace h := o_neg hc22 h
                refine lv_aload_n (pc := 121) hx hb dX6_liveWeek_121 rfl (lv_at hl 1 rfl) ?_
                refine lv_aload_n (pc := 122) hx hb dX6_liveWeek_122 rfl (lv_at hl 0 rfl) ?_
                refine gf_X7_0 (pc := 123) C hW (kd_vow tv0 hc11) fl_X6_68 dX6_liveWeek_123 ?_
                refine lv_iload_n (pc := 126) hx hb dX6_liveWeek_126 rfl (lv_at hl 2 rfl) ?_
                obtain ⟨σ25, hc23, h⟩ := o_b h
                refine g_virt (pc := 127) (st2 := []) (rest := []) C hW hS (c_X6_shear (K := K - 1) (by omega) tv0 hc23) mw_X6_132 (kin_6 tv0) (Ek_6 tv0) rfl (hRoom (by omega) (by decide)) rfl rfl rfl (Nat.le_of_ble_eq_true rfl) hl.1 dX6_liveWeek_127 (fun H locs hW hS => ?_)
                exact w_X6_liveWeek_b130 C hK σ25 v0 v1 v2 (f_X6_liveWeek_b62 v0 v1 n) (fun σ v2 {H : Heap} {locs : List Loc} {ls : Array Slot}  hW hS hl h => ih σ v2 tv0 hW hS hl h) tv0 hW hS (lv_sub hl [1, 2, 3] rfl) h

theorem w_X6_liveWeek_b60 (C : CX cX6_liveWeek 4 RX6 none D ac p m c s args meth (z, aK, aV) (Ac z)) (hK : 4 ≤ K) {σf : Mem}   (σ : Mem) (v0 : Nat) (v1 : Int32)  {H : Heap} {locs : List Loc} {ls : Array Slot} (tv0 : kd v0 = 6) (hW : WC D ac z σ H) (hS : va_S (Ac z) s.heap H locs) (hl : lv_has ls 4 [(0, .ref (z + v0)), (1, .int v1)]) (h : f_X6_liveWeek_b60 σ v0 v1 = some σf) : W p l e (rma K 0 0) s m args below meth c H locs 0 0 (MQ below (QV D (Ec ac z) inC z none σf (Ac z)) args s 0 0 (Ac z)) (F0 m 60 ls []) := by
  have hx := C.1.1
  have hb := C.1.2.1
  unfold f_X6_liveWeek_b60 at h
  refine lv_iconst (pc := 60) (v := 0) hx hb dX6_liveWeek_60 (by decide) ?_
  refine lv_istore_n (pc := 61) (lv' := [(2, .int (0 : Int32)), (0, .ref (z + v0)), (1, .int v1)]) hx hb dX6_liveWeek_61 rfl hl (by decide) rfl (fun ls hl => ?_)
  exact w_X6_liveWeek_b62 C hK v0 v1 FU σ (0 : Int32) tv0 hW hS (lv_sub hl [1, 2, 0] rfl) h

theorem w_X6_liveWeek_b2 (C : CX cX6_liveWeek 4 RX6 none D ac p m c s args meth (z, aK, aV) (Ac z)) (hK : 4 ≤ K) {σf : Mem}   (v0 : Nat) (v1 : Int32)  : ∀ (n : Nat) (σ : Mem) (v2 : Int32) {H : Heap} {locs : List Loc} {ls : Array Slot} (tv0 : kd v0 = 6) (hW : WC D ac z σ H) (hS : va_S (Ac z) s.heap H locs) (hl : lv_has ls 4 [(0, .ref (z + v0)), (1, .int v1), (2, .int v2)]) (h : f_X6_liveWeek_b2 v0 v1 n σ v2 = some σf), W p l e (rma K 0 0) s m args below meth c H locs 0 0 (MQ below (QV D (Ec ac z) inC z none σf (Ac z)) args s 0 0 (Ac z)) (F0 m 2 ls []) := by
  have hx := C.1.1
  have hb := C.1.2.1
  intro n
  induction n with
  | zero =>
    intro σ v2 H locs ls tv0 hW hS hl h
    cases h
  | succ n ih =>
    intro σ v2 H locs ls tv0 hW hS hl h
    rw [f_X6_liveWeek_b2.eq_2] at h
    refine lv_iload_n (pc := 2) hx hb dX6_liveWeek_2 rfl (lv_at hl 2 rfl) ?_
    refine lv_aload_n (pc := 3) hx hb dX6_liveWeek_3 rfl (lv_at hl 0 rfl) ?_
    refine gf_X6_3 (pc := 4) C hW tv0 fl_X6_29 dX6_liveWeek_4 ?_
    refine lv_icmp_ge (pc := 7) (tgt := 60) hx hb dX6_liveWeek_7 (by decide) (fun hc0 => ?_) (fun hc0 => ?_)
    · replace h := o_pos hc0 h
      exact w_X6_liveWeek_b60 C hK σ v0 v1 tv0 hW hS (lv_sub hl [0, 1] rfl) h
    · replace h := o_neg hc0 h
      refine lv_iload_n (pc := 10) hx hb dX6_liveWeek_10 rfl (lv_at hl 2 rfl) ?_
      refine lv_aload_n (pc := 11) hx hb dX6_liveWeek_11 rfl (lv_at hl 0 rfl) ?_
      refine gf_X6_1 (pc := 12) C hW tv0 fl_X6_11 dX6_liveWeek_12 ?_
      refine ra_menlen (pc := 15) C hW tv0 dX6_liveWeek_15 ?_
      refine lv_icmp_ge (pc := 16) (tgt := 60) hx hb dX6_liveWeek_16 (by decide) (fun hc1 => ?_) (fun hc1 => ?_)
      · replace h := o_pos hc1 h
        exact w_X6_liveWeek_b60 C hK σ v0 v1 tv0 hW hS (lv_sub hl [0, 1] rfl) h
      · replace h := o_neg hc1 h
        refine lv_aload_n (pc := 19) hx hb dX6_liveWeek_19 rfl (lv_at hl 0 rfl) ?_
        refine gf_X6_1 (pc := 20) C hW tv0 fl_X6_11 dX6_liveWeek_20 ?_
        refine lv_iload_n (pc := 23) hx hb dX6_liveWeek_23 rfl (lv_at hl 2 rfl) ?_
        obtain ⟨hc2, h⟩ := o_chk h
        refine ra_men (pc := 24) C hW tv0 hc2 dX6_liveWeek_24 ?_
        refine lv_aload_n (pc := 25) hx hb dX6_liveWeek_25 rfl (lv_at hl 0 rfl) ?_
        refine gf_X6_0 (pc := 26) C hW tv0 fl_X6_23 dX6_liveWeek_26 ?_
        refine lv_aload_n (pc := 29) hx hb dX6_liveWeek_29 rfl (lv_at hl 0 rfl) ?_
        refine gf_X6_6 (pc := 30) C hW tv0 fl_X6_39 dX6_liveWeek_30 ?_
        refine lv_aload_n (pc := 33) hx hb dX6_liveWeek_33 rfl (lv_at hl 0 rfl) ?_
        refine gf_X6_1 (pc := 34) C hW tv0 fl_X6_11 dX6_liveWeek_34 ?_
        refine lv_iload_n (pc := 37) hx hb dX6_liveWeek_37 rfl (lv_at hl 2 rfl) ?_
        obtain ⟨hc3, h⟩ := o_chk h
        refine ra_men (pc := 38) C hW tv0 hc3 dX6_liveWeek_38 ?_
        refine lv_aload_n (pc := 39) hx hb dX6_liveWeek_39 rfl (lv_at hl 0 rfl) ?_
        refine gf_X6_5 (pc := 40) C hW tv0 fl_X6_36 dX6_liveWeek_40 ?_
        refine lv_aload_n (pc := 43) hx hb dX6_liveWeek_43 rfl (lv_at hl 0 rfl) ?_
        refine lv_iload_n (pc := 44) hx hb dX6_liveWeek_44 rfl (lv_at hl 2 rfl) ?_
        obtain ⟨r6, hc4, h⟩ := o_b h
        refine g_virt (pc := 45) (st2 := [.int r6, .int (σ v0 5), .ref (z + (v0 + 3 + v2.toNatClampNeg)), .int (σ v0 6), .ref (z + 1), .ref (z + (v0 + 3 + v2.toNatClampNeg))]) (rest := [.int (σ v0 5), .ref (z + (v0 + 3 + v2.toNatClampNeg)), .int (σ v0 6), .ref (z + 1), .ref (z + (v0 + 3 + v2.toNatClampNeg))]) C hW hS (c_X6_owed (K := K - 1) (by omega) tv0 hc4) mw_X6_111 (kin_6 tv0) (Ek_6 tv0) rfl (hRoom (by omega) (by decide)) rfl rfl rfl (Nat.le_of_ble_eq_true rfl) hl.1 dX6_liveWeek_45 (fun H locs hW hS => ?_)
        obtain ⟨r8, σ9, hc6, h⟩ := o_b2 h
        refine g_virt (pc := 48) (st2 := [.int r8, .ref (z + (v0 + 3 + v2.toNatClampNeg))]) (rest := [.ref (z + (v0 + 3 + v2.toNatClampNeg))]) C hW hS (c_X3_grown (K := K - 1) (by omega) (kd_man tv0 hc3) hc6) mw_X6_115 (kin_1 kdc_1) (Ek_1 kdc_1) rfl (hRoom (by omega) (by decide)) rfl rfl rfl (Nat.le_of_ble_eq_true rfl) hl.1 dX6_liveWeek_48 (fun H locs hW hS => ?_)
        refine pf_X1_2 (pc := 51) C hW hS (kd_man tv0 hc2) fl_X6_55 dX6_liveWeek_51 (fun H locs hW hS => ?_)
        refine lv_iinc (pc := 54) (v := (v2 + 1)) (lv' := [(2, .int (v2 + 1)), (0, .ref (z + v0)), (1, .int v1)]) hx hb dX6_liveWeek_54 hl (k := 2) rfl rfl (by decide) rfl (fun ls hl => ?_)
        refine lv_goto (pc := 57) (tgt := 2) hx hb dX6_liveWeek_57 (by decide) ?_
        exact ih (ms σ9 (v0 + 3 + v2.toNatClampNeg) 2 r8) (v2 + 1) tv0 hW hS (lv_sub hl [1, 2, 0] rfl) h

theorem c_X6_liveWeek {K : Nat}  (hK : 4 ≤ K) {σ : Mem} {σf : Mem} {v0 : Nat} {v1 : Int32} (hk0 : kd v0 = 6) (h : f_X6_liveWeek σ v0 v1 = some σf) : MC l D (Ec ac z) inC z ac (z, aK, aV) (Ac z) yX6_liveWeek cX6_liveWeek 4 none K [.ref (z + v0), .int v1] σ none σf := by
  refine MC.of (fun q hq => by have := hq.1; show z ≤ q; omega) (plainFor_of_name (by decide)) (Nat.le_of_ble_eq_true rfl) ?_
  intro p e s m below meth c args C hW ls hl
  replace hl : lv_has ls 4 [(0, .ref (z + v0)), (1, .int v1)] := hl
  have hS : va_S (Ac z) s.heap s.heap [] := va_S.rf
  have hx := C.1.1
  have hb := C.1.2.1
  unfold f_X6_liveWeek at h
  refine lv_iconst (pc := 0) (v := 0) hx hb dX6_liveWeek_0 (by decide) ?_
  refine lv_istore_n (pc := 1) (lv' := [(2, .int (0 : Int32)), (0, .ref (z + v0)), (1, .int v1)]) hx hb dX6_liveWeek_1 rfl hl (by decide) rfl (fun ls hl => ?_)
  exact w_X6_liveWeek_b2 C hK v0 v1 FU σ (0 : Int32) hk0 hW hS (lv_sub hl [1, 2, 0] rfl) h

theorem w_X6_drawOil_b5 (C : CX cX6_drawOil 6 RX6 (some .long) D ac p m c s args meth (z, aK, aV) (Ac z)) (hK : 0 ≤ K) {r : Int64} {σf : Mem}   (v0 : Nat)  : ∀ (n : Nat) (σ : Mem) (v3 : Int64) (v5 : Int32) {H : Heap} {locs : List Loc} {ls : Array Slot} (tv0 : kd v0 = 6) (hW : WC D ac z σ H) (hS : va_S (Ac z) s.heap H locs) (hl : lv_has ls 6 [(0, .ref (z + v0)), (3, .long v3), (5, .int v5)]) (h : f_X6_drawOil_b5 v0 n σ v3 v5 = some (r, σf)), W p l e (rma K 0 0) s m args below meth c H locs 0 0 (MQ below (QV D (Ec ac z) inC z (some (.long r)) σf (Ac z)) args s 0 0 (Ac z)) (F0 m 5 ls []) := by
  have hx := C.1.1
  have hb := C.1.2.1
  intro n
  induction n with
  | zero =>
    intro σ v3 v5 H locs ls tv0 hW hS hl h
    cases h
  | succ n ih =>
    intro σ v3 v5 H locs ls tv0 hW hS hl h
    rw [f_X6_drawOil_b5.eq_2] at h
    refine lv_iload (pc := 5) hx hb dX6_drawOil_5 (lv_at hl 2 rfl) ?_
    refine lv_aload_n (pc := 7) hx hb dX6_drawOil_7 rfl (lv_at hl 0 rfl) ?_
    refine gf_X6_3 (pc := 8) C hW tv0 fl_X6_29 dX6_drawOil_8 ?_
    refine lv_icmp_ge (pc := 11) (tgt := 56) hx hb dX6_drawOil_11 (by decide) (fun hc0 => ?_) (fun hc0 => ?_)
    · replace h := o_pos hc0 h
      refine lv_lload_n (pc := 56) hx hb dX6_drawOil_56 rfl (lv_at hl 1 rfl) ?_
      exact g_lret (pc := 57) C hW hS dX6_drawOil_57 (congrArg (fun q => some (Value.long q)) (o_r h).1) (o_r h).2
    · replace h := o_neg hc0 h
      refine lv_iload (pc := 14) hx hb dX6_drawOil_14 (lv_at hl 2 rfl) ?_
      refine lv_aload_n (pc := 16) hx hb dX6_drawOil_16 rfl (lv_at hl 0 rfl) ?_
      refine gf_X6_1 (pc := 17) C hW tv0 fl_X6_11 dX6_drawOil_17 ?_
      refine ra_menlen (pc := 20) C hW tv0 dX6_drawOil_20 ?_
      refine lv_icmp_ge (pc := 21) (tgt := 56) hx hb dX6_drawOil_21 (by decide) (fun hc1 => ?_) (fun hc1 => ?_)
      · replace h := o_pos hc1 h
        refine lv_lload_n (pc := 56) hx hb dX6_drawOil_56 rfl (lv_at hl 1 rfl) ?_
        exact g_lret (pc := 57) C hW hS dX6_drawOil_57 (congrArg (fun q => some (Value.long q)) (o_r h).1) (o_r h).2
      · replace h := o_neg hc1 h
        refine lv_lload_n (pc := 24) hx hb dX6_drawOil_24 rfl (lv_at hl 1 rfl) ?_
        refine lv_ldc2 (pc := 25) hx hb C.1.2.2.2.1 (C.1.2.2.2.2 _ cn_X6_155) dX6_drawOil_25 ?_
        refine lv_lmul (pc := 28) hx hb dX6_drawOil_28 ?_
        refine lv_ldc2 (pc := 29) hx hb C.1.2.2.2.1 (C.1.2.2.2.2 _ cn_X6_157) dX6_drawOil_29 ?_
        refine lv_lrem (pc := 32) hx hb dX6_drawOil_32 (by decide) ?_
        obtain ⟨x3, hxx3, h⟩ := o_d h
        refine g_topl hxx3 ?_
        refine lv_lstore_n (pc := 33) (lv' := [(3, .long x3), (0, .ref (z + v0)), (5, .int v5)]) hx hb dX6_drawOil_33 rfl hl (by decide) rfl (fun ls hl => ?_)
        refine lv_aload_n (pc := 34) hx hb dX6_drawOil_34 rfl (lv_at hl 1 rfl) ?_
        refine gf_X6_1 (pc := 35) C hW tv0 fl_X6_11 dX6_drawOil_35 ?_
        refine lv_iload (pc := 38) hx hb dX6_drawOil_38 (lv_at hl 2 rfl) ?_
        obtain ⟨hc3, h⟩ := o_chk h
        refine ra_men (pc := 40) C hW tv0 hc3 dX6_drawOil_40 ?_
        refine lv_lload_n (pc := 41) hx hb dX6_drawOil_41 rfl (lv_at hl 0 rfl) ?_
        refine lv_ldc2 (pc := 42) hx hb C.1.2.2.2.1 (C.1.2.2.2.2 _ cn_X6_159) dX6_drawOil_42 ?_
        refine lv_lrem (pc := 45) hx hb dX6_drawOil_45 (by decide) ?_
        refine lv_l2i (pc := 46) (v := ((lrm x3 (10 : Int64)).toInt32)) hx hb dX6_drawOil_46 rfl ?_
        refine pf_X1_3 (pc := 47) C hW hS (kd_man tv0 hc3) fl_X6_58 dX6_drawOil_47 (fun H locs hW hS => ?_)
        obtain ⟨σ5, hσ5, h⟩ := o_d h
        replace hW : WC D ac z σ5 H := by rw [← hσ5]; exact hW
        refine lv_iinc (pc := 50) (v := (v5 + 1)) (lv' := [(5, .int (v5 + 1)), (3, .long x3), (0, .ref (z + v0))]) hx hb dX6_drawOil_50 hl (k := 2) rfl rfl (by decide) rfl (fun ls hl => ?_)
        refine lv_goto (pc := 53) (tgt := 5) hx hb dX6_drawOil_53 (by decide) ?_
        exact ih σ5 x3 (v5 + 1) tv0 hW hS (lv_sub hl [2, 1, 0] rfl) h

theorem c_X6_drawOil {K : Nat}  (hK : 0 ≤ K) {σ : Mem} {σf : Mem} {v0 : Nat} {v1 : Int64} {r : Int64} (hk0 : kd v0 = 6) (h : f_X6_drawOil σ v0 v1 = some (r, σf)) : MC l D (Ec ac z) inC z ac (z, aK, aV) (Ac z) yX6_drawOil cX6_drawOil 6 (some .long) K [.ref (z + v0), .long v1] σ (some (.long r)) σf := by
  refine MC.of (fun q hq => by have := hq.1; show z ≤ q; omega) (plainFor_of_name (by decide)) (Nat.le_of_ble_eq_true rfl) ?_
  intro p e s m below meth c args C hW ls hl
  replace hl : lv_has ls 6 [(0, .ref (z + v0)), (1, .long v1)] := hl
  have hS : va_S (Ac z) s.heap s.heap [] := va_S.rf
  have hx := C.1.1
  have hb := C.1.2.1
  unfold f_X6_drawOil at h
  refine lv_lload_n (pc := 0) hx hb dX6_drawOil_0 rfl (lv_at hl 1 rfl) ?_
  refine lv_lstore_n (pc := 1) (lv' := [(3, .long v1), (0, .ref (z + v0)), (1, .long v1)]) hx hb dX6_drawOil_1 rfl hl (by decide) rfl (fun ls hl => ?_)
  refine lv_iconst (pc := 2) (v := 0) hx hb dX6_drawOil_2 (by decide) ?_
  refine lv_istore (pc := 3) (lv' := [(5, .int (0 : Int32)), (3, .long v1), (0, .ref (z + v0)), (1, .long v1)]) hx hb dX6_drawOil_3 hl (by decide) rfl (fun ls hl => ?_)
  exact w_X6_drawOil_b5 C hK v0 FU σ v1 (0 : Int32) hk0 hW hS (lv_sub hl [2, 1, 0] rfl) h

theorem w_X6_closeRing_b109 (C : CX cX6_closeRing 9 RX6 (some .int) D ac p m c s args meth (z, aK, aV) (Ac z)) {B : Nat} (hK : B + 1 ≤ K) {r : Int32}  (rf_closeRing : Mem → Nat → Int32 → Int32 → Int32 → Int32 → Int32 → Option Int32) (hrf_closeRing : ∀ {K : Nat} (_ : B ≤ K) {σ : Mem} {v0 : Nat} {v1 : Int32} {v2 : Int32} {v3 : Int32} {v4 : Int32} {v5 : Int32} {r : Int32} (_ : kd v0 = 6) (_ : rf_closeRing σ v0 v1 v2 v3 v4 v5 = some r), MC l D (Ec ac z) inC z ac (z, aK, aV) (Ac z) yX6_closeRing cX6_closeRing 9 (some .int) K [.ref (z + v0), .int v1, .int v2, .int v3, .int v4, .int v5] σ (some (.int r)) σ) (σ : Mem) (v0 : Nat) (v1 : Int32) (v2 : Int32) (v3 : Int32) (v4 : Int32) (v5 : Int32) (v6 : Int32) (s28 : Int32 → Option Int32) (hs28 : ∀ (v6 : Int32) {H : Heap} {locs : List Loc} {ls : Array Slot} (_ : WC D ac z σ H) (_ : va_S (Ac z) s.heap H locs) (_ : lv_has ls 9 [(0, .ref (z + v0)), (1, .int v1), (2, .int v2), (3, .int v3), (4, .int v4), (5, .int v5), (6, .int v6)]) (_ : s28 v6 = some r), W p l e (rma K 0 0) s m args below meth c H locs 0 0 (MQ below (QV D (Ec ac z) inC z (some (.int r)) σ (Ac z)) args s 0 0 (Ac z)) (F0 m 28 ls [])) {H : Heap} {locs : List Loc} {ls : Array Slot} (tv0 : kd v0 = 6) (hW : WC D ac z σ H) (hS : va_S (Ac z) s.heap H locs) (hl : lv_has ls 9 [(0, .ref (z + v0)), (1, .int v1), (2, .int v2), (3, .int v3), (4, .int v4), (5, .int v5), (6, .int v6)]) (h : f_X6_closeRing_b109 rf_closeRing s28 σ v0 v1 v2 v3 v4 v5 v6 = some r) : W p l e (rma K 0 0) s m args below meth c H locs 0 0 (MQ below (QV D (Ec ac z) inC z (some (.int r)) σ (Ac z)) args s 0 0 (Ac z)) (F0 m 109 ls []) := by
  have hx := C.1.1
  have hb := C.1.2.1
  unfold f_X6_closeRing_b109 at h
  refine lv_iinc (pc := 109) (v := (v6 + 1)) (lv' := [(6, .int (v6 + 1)), (0, .ref (z + v0)), (1, .int v1), (2, .int v2), (3, .int v3), (4, .int v4), (5, .int v5)]) hx hb dX6_closeRing_109 hl (k := 6) rfl rfl (by decide) rfl (fun ls hl => ?_)
  refine lv_goto (pc := 112) (tgt := 28) hx hb dX6_closeRing_112 (by decide) ?_
  exact hs28 (v6 + 1) hW hS (lv_sub hl [1, 2, 3, 4, 5, 6, 0] rfl) h

theorem w_X6_closeRing_b28 (C : CX cX6_closeRing 9 RX6 (some .int) D ac p m c s args meth (z, aK, aV) (Ac z)) {B : Nat} (hK : B + 1 ≤ K) {r : Int32}  (rf_closeRing : Mem → Nat → Int32 → Int32 → Int32 → Int32 → Int32 → Option Int32) (hrf_closeRing : ∀ {K : Nat} (_ : B ≤ K) {σ : Mem} {v0 : Nat} {v1 : Int32} {v2 : Int32} {v3 : Int32} {v4 : Int32} {v5 : Int32} {r : Int32} (_ : kd v0 = 6) (_ : rf_closeRing σ v0 v1 v2 v3 v4 v5 = some r), MC l D (Ec ac z) inC z ac (z, aK, aV) (Ac z) yX6_closeRing cX6_closeRing 9 (some .int) K [.ref (z + v0), .int v1, .int v2, .int v3, .int v4, .int v5] σ (some (.int r)) σ) (σ : Mem) (v0 : Nat) (v1 : Int32) (v2 : Int32) (v3 : Int32) (v4 : Int32) (v5 : Int32)  : ∀ (n : Nat) (v6 : Int32) {H : Heap} {locs : List Loc} {ls : Array Slot} (tv0 : kd v0 = 6) (hW : WC D ac z σ H) (hS : va_S (Ac z) s.heap H locs) (hl : lv_has ls 9 [(0, .ref (z + v0)), (1, .int v1), (2, .int v2), (3, .int v3), (4, .int v4), (5, .int v5), (6, .int v6)]) (h : f_X6_closeRing_b28 rf_closeRing σ v0 v1 v2 v3 v4 v5 n v6 = some r), W p l e (rma K 0 0) s m args below meth c H locs 0 0 (MQ below (QV D (Ec ac z) inC z (some (.int r)) σ (Ac z)) args s 0 0 (Ac z)) (F0 m 28 ls []) := by
  have hx := C.1.1
  have hb := C.1.2.1
  intro n
  induction n with
  | zero =>
    intro v6 H locs ls tv0 hW hS hl h
    cases h
  | succ n ih =>
    intro v6 H locs ls tv0 hW hS hl h
    rw [f_X6_closeRing_b28.eq_2] at h
    refine lv_iload (pc := 28) hx hb dX6_closeRing_28 (lv_at hl 6 rfl) ?_
    refine lv_aload_n (pc := 30) hx hb dX6_closeRing_30 rfl (lv_at hl 0 rfl) ?_
    refine gf_X6_4 (pc := 31) C hW tv0 fl_X6_33 dX6_closeRing_31 ?_
    refine lv_icmp_ge (pc := 34) (tgt := 115) hx hb dX6_closeRing_34 (by decide) (fun hc3 => ?_) (fun hc3 => ?_)
    · replace h := o_pos hc3 h
      refine lv_iconst (pc := 115) (v := 0) hx hb dX6_closeRing_115 (by decide) ?_
      exact g_ret (pc := 116) C hW hS rfl dX6_closeRing_116 (congrArg (fun q => some (Value.int q)) (Option.some.inj h).symm) rfl
    · replace h := o_neg hc3 h
      refine lv_iload (pc := 37) hx hb dX6_closeRing_37 (lv_at hl 6 rfl) ?_
      refine lv_aload_n (pc := 39) hx hb dX6_closeRing_39 rfl (lv_at hl 0 rfl) ?_
      refine gf_X6_2 (pc := 40) C hW tv0 fl_X6_19 dX6_closeRing_40 ?_
      refine ra_vowslen (pc := 43) C hW tv0 dX6_closeRing_43 ?_
      refine lv_icmp_ge (pc := 44) (tgt := 115) hx hb dX6_closeRing_44 (by decide) (fun hc4 => ?_) (fun hc4 => ?_)
      · replace h := o_pos hc4 h
        refine lv_iconst (pc := 115) (v := 0) hx hb dX6_closeRing_115 (by decide) ?_
        exact g_ret (pc := 116) C hW hS rfl dX6_closeRing_116 (congrArg (fun q => some (Value.int q)) (Option.some.inj h).symm) rfl
      · replace h := o_neg hc4 h
        refine lv_aload_n (pc := 47) hx hb dX6_closeRing_47 rfl (lv_at hl 0 rfl) ?_
        refine gf_X6_2 (pc := 48) C hW tv0 fl_X6_19 dX6_closeRing_48 ?_
        refine lv_iload (pc := 51) hx hb dX6_closeRing_51 (lv_at hl 6 rfl) ?_
        obtain ⟨hc5, h⟩ := o_chk h
        refine ra_vows (pc := 53) C hW tv0 hc5 dX6_closeRing_53 ?_
        refine lv_astore (pc := 54) (lv' := [(7, .ref (z + (v0 + 9 + v6.toNatClampNeg))), (0, .ref (z + v0)), (1, .int v1), (2, .int v2), (3, .int v3), (4, .int v4), (5, .int v5), (6, .int v6)]) hx hb dX6_closeRing_54 hl (by decide) rfl (fun ls hl => ?_)
        refine lv_aload (pc := 56) hx hb dX6_closeRing_56 (lv_at hl 0 rfl) ?_
        refine gf_X7_4 (pc := 58) C hW (kd_vow tv0 hc5) fl_X6_80 dX6_closeRing_58 ?_
        refine lv_if_ne (pc := 61) (tgt := 109) hx hb dX6_closeRing_61 (by decide) (fun hc6 => ?_) (fun hc6 => ?_)
        · replace h := o_neg hc6 h
          exact w_X6_closeRing_b109 C hK rf_closeRing hrf_closeRing σ v0 v1 v2 v3 v4 v5 v6 (f_X6_closeRing_b28 rf_closeRing σ v0 v1 v2 v3 v4 v5 n) (fun v6 {H : Heap} {locs : List Loc} {ls : Array Slot}  hW hS hl h => ih v6 tv0 hW hS hl h) tv0 hW hS (lv_sub hl [1, 2, 3, 4, 5, 6, 7] rfl) h
        · replace h := o_pos hc6 h
          refine lv_aload (pc := 64) hx hb dX6_closeRing_64 (lv_at hl 0 rfl) ?_
          refine gf_X7_0 (pc := 66) C hW (kd_vow tv0 hc5) fl_X6_68 dX6_closeRing_66 ?_
          refine lv_iload_n (pc := 69) hx hb dX6_closeRing_69 rfl (lv_at hl 3 rfl) ?_
          refine lv_icmp_ne (pc := 70) (tgt := 109) hx hb dX6_closeRing_70 (by decide) (fun hc7 => ?_) (fun hc7 => ?_)
          · replace h := o_neg hc7 h
            exact w_X6_closeRing_b109 C hK rf_closeRing hrf_closeRing σ v0 v1 v2 v3 v4 v5 v6 (f_X6_closeRing_b28 rf_closeRing σ v0 v1 v2 v3 v4 v5 n) (fun v6 {H : Heap} {locs : List Loc} {ls : Array Slot}  hW hS hl h => ih v6 tv0 hW hS hl h) tv0 hW hS (lv_sub hl [1, 2, 3, 4, 5, 6, 7] rfl) h
          · replace h := o_pos hc7 h
            refine lv_aload_n (pc := 73) hx hb dX6_closeRing_73 rfl (lv_at hl 1 rfl) ?_
            refine lv_iload_n (pc := 74) hx hb dX6_closeRing_74 rfl (lv_at hl 2 rfl) ?_
            refine lv_aload (pc := 75) hx hb dX6_closeRing_75 (lv_at hl 0 rfl) ?_
            refine gf_X7_1 (pc := 77) C hW (kd_vow tv0 hc5) fl_X6_71 dX6_closeRing_77 ?_
            refine lv_iload_n (pc := 80) hx hb dX6_closeRing_80 rfl (lv_at hl 4 rfl) ?_
            refine lv_iconst (pc := 81) (v := 1) hx hb dX6_closeRing_81 (by decide) ?_
            refine lv_iload_n (pc := 82) hx hb dX6_closeRing_82 rfl (lv_at hl 3 rfl) ?_
            refine lv_ishl (pc := 83) hx hb dX6_closeRing_83 ?_
            refine lv_ior (pc := 84) hx hb dX6_closeRing_84 ?_
            refine lv_iload (pc := 85) hx hb dX6_closeRing_85 (lv_at hl 5 rfl) ?_
            refine lv_iconst (pc := 87) (v := 1) hx hb dX6_closeRing_87 (by decide) ?_
            refine lv_iload (pc := 88) hx hb dX6_closeRing_88 (lv_at hl 7 rfl) ?_
            refine lv_ishl (pc := 90) hx hb dX6_closeRing_90 ?_
            refine lv_ior (pc := 91) hx hb dX6_closeRing_91 ?_
            refine lv_iload (pc := 92) hx hb dX6_closeRing_92 (lv_at hl 6 rfl) ?_
            refine lv_iconst (pc := 94) (v := 1) hx hb dX6_closeRing_94 (by decide) ?_
            refine lv_iadd (pc := 95) hx hb dX6_closeRing_95 ?_
            obtain ⟨r10, hc8, h⟩ := o_b h
            refine g_stat (pc := 96) (st2 := [.int r10]) (rest := []) C hW hS (hrf_closeRing (K := K - 1) (by omega) tv0 hc8) mw_X6_161 (hRoom (by omega) (by decide)) rfl rfl rfl (Nat.le_of_ble_eq_true rfl) hl.1 dX6_closeRing_96 (fun H locs hW hS => ?_)
            refine lv_istore (pc := 99) (lv' := [(8, .int r10), (7, .ref (z + (v0 + 9 + v6.toNatClampNeg))), (0, .ref (z + v0)), (1, .int v1), (2, .int v2), (3, .int v3), (4, .int v4), (5, .int v5), (6, .int v6)]) hx hb dX6_closeRing_99 hl (by decide) rfl (fun ls hl => ?_)
            refine lv_iload (pc := 101) hx hb dX6_closeRing_101 (lv_at hl 0 rfl) ?_
            refine lv_if_eq (pc := 103) (tgt := 109) hx hb dX6_closeRing_103 (by decide) (fun hc10 => ?_) (fun hc10 => ?_)
            · replace h := o_pos hc10 h
              exact w_X6_closeRing_b109 C hK rf_closeRing hrf_closeRing σ v0 v1 v2 v3 v4 v5 v6 (f_X6_closeRing_b28 rf_closeRing σ v0 v1 v2 v3 v4 v5 n) (fun v6 {H : Heap} {locs : List Loc} {ls : Array Slot}  hW hS hl h => ih v6 tv0 hW hS hl h) tv0 hW hS (lv_sub hl [2, 3, 4, 5, 6, 7, 8] rfl) h
            · replace h := o_neg hc10 h
              refine lv_iload (pc := 106) hx hb dX6_closeRing_106 (lv_at hl 0 rfl) ?_
              exact g_ret (pc := 108) C hW hS rfl dX6_closeRing_108 (congrArg (fun q => some (Value.int q)) (Option.some.inj h).symm) rfl

theorem c_X6_closeRing {K : Nat} {B : Nat} (rf_closeRing : Mem → Nat → Int32 → Int32 → Int32 → Int32 → Int32 → Option Int32) (hrf_closeRing : ∀ {K : Nat} (_ : B ≤ K) {σ : Mem} {v0 : Nat} {v1 : Int32} {v2 : Int32} {v3 : Int32} {v4 : Int32} {v5 : Int32} {r : Int32} (_ : kd v0 = 6) (_ : rf_closeRing σ v0 v1 v2 v3 v4 v5 = some r), MC l D (Ec ac z) inC z ac (z, aK, aV) (Ac z) yX6_closeRing cX6_closeRing 9 (some .int) K [.ref (z + v0), .int v1, .int v2, .int v3, .int v4, .int v5] σ (some (.int r)) σ) (hK : B + 1 ≤ K) {σ : Mem} {v0 : Nat} {v1 : Int32} {v2 : Int32} {v3 : Int32} {v4 : Int32} {v5 : Int32} {r : Int32} (hk0 : kd v0 = 6) (h : f_X6_closeRing rf_closeRing σ v0 v1 v2 v3 v4 v5 = some r) : MC l D (Ec ac z) inC z ac (z, aK, aV) (Ac z) yX6_closeRing cX6_closeRing 9 (some .int) K [.ref (z + v0), .int v1, .int v2, .int v3, .int v4, .int v5] σ (some (.int r)) σ := by
  refine MC.of (fun q hq => by have := hq.1; show z ≤ q; omega) (plainFor_of_name (by decide)) (Nat.le_of_ble_eq_true rfl) ?_
  intro p e s m below meth c args C hW ls hl
  replace hl : lv_has ls 9 [(0, .ref (z + v0)), (1, .int v1), (2, .int v2), (3, .int v3), (4, .int v4), (5, .int v5)] := hl
  have hS : va_S (Ac z) s.heap s.heap [] := va_S.rf
  have hx := C.1.1
  have hb := C.1.2.1
  unfold f_X6_closeRing at h
  refine lv_iload_n (pc := 0) hx hb dX6_closeRing_0 rfl (lv_at hl 2 rfl) ?_
  refine lv_iload_n (pc := 1) hx hb dX6_closeRing_1 rfl (lv_at hl 1 rfl) ?_
  refine lv_icmp_ne (pc := 2) (tgt := 8) hx hb dX6_closeRing_2 (by decide) (fun hc0 => ?_) (fun hc0 => ?_)
  · replace h := o_neg hc0 h
    refine lv_iload (pc := 8) hx hb dX6_closeRing_8 (lv_at hl 5 rfl) ?_
    refine lv_bipush (pc := 10) (v := 6) hx hb dX6_closeRing_10 (by decide) ?_
    refine lv_icmp_ge (pc := 12) (tgt := 23) hx hb dX6_closeRing_12 (by decide) (fun hc1 => ?_) (fun hc1 => ?_)
    · replace h := o_pos hc1 h
      refine lv_iconst (pc := 23) (v := 0) hx hb dX6_closeRing_23 (by decide) ?_
      exact g_ret (pc := 24) C hW hS rfl dX6_closeRing_24 (congrArg (fun q => some (Value.int q)) (Option.some.inj h).symm) rfl
    · replace h := o_neg hc1 h
      refine lv_iload_n (pc := 15) hx hb dX6_closeRing_15 rfl (lv_at hl 3 rfl) ?_
      refine lv_iload_n (pc := 16) hx hb dX6_closeRing_16 rfl (lv_at hl 2 rfl) ?_
      refine lv_ishr (pc := 17) hx hb dX6_closeRing_17 ?_
      refine lv_iconst (pc := 18) (v := 1) hx hb dX6_closeRing_18 (by decide) ?_
      refine lv_iand (pc := 19) hx hb dX6_closeRing_19 ?_
      refine lv_if_eq (pc := 20) (tgt := 25) hx hb dX6_closeRing_20 (by decide) (fun hc2 => ?_) (fun hc2 => ?_)
      · replace h := o_pos hc2 h
        refine lv_iconst (pc := 25) (v := 0) hx hb dX6_closeRing_25 (by decide) ?_
        refine lv_istore (pc := 26) (lv' := [(6, .int (0 : Int32)), (0, .ref (z + v0)), (1, .int v1), (2, .int v2), (3, .int v3), (4, .int v4), (5, .int v5)]) hx hb dX6_closeRing_26 hl (by decide) rfl (fun ls hl => ?_)
        exact w_X6_closeRing_b28 C hK rf_closeRing hrf_closeRing σ v0 v1 v2 v3 v4 v5 FU (0 : Int32) hk0 hW hS (lv_sub hl [1, 2, 3, 4, 5, 6, 0] rfl) h
      · replace h := o_neg hc2 h
        refine lv_iconst (pc := 23) (v := 0) hx hb dX6_closeRing_23 (by decide) ?_
        exact g_ret (pc := 24) C hW hS rfl dX6_closeRing_24 (congrArg (fun q => some (Value.int q)) (Option.some.inj h).symm) rfl
  · replace h := o_pos hc0 h
    refine lv_iload (pc := 5) hx hb dX6_closeRing_5 (lv_at hl 4 rfl) ?_
    exact g_ret (pc := 7) C hW hS rfl dX6_closeRing_7 (congrArg (fun q => some (Value.int q)) (Option.some.inj h).symm) rfl

theorem c_X6_closeRing_F : ∀ (n : Nat), ∀ {K : Nat} (_ : n ≤ K) {σ : Mem} {v0 : Nat} {v1 : Int32} {v2 : Int32} {v3 : Int32} {v4 : Int32} {v5 : Int32} {r : Int32} (_ : kd v0 = 6) (_ : f_X6_closeRing_F n σ v0 v1 v2 v3 v4 v5 = some r), MC l D (Ec ac z) inC z ac (z, aK, aV) (Ac z) yX6_closeRing cX6_closeRing 9 (some .int) K [.ref (z + v0), .int v1, .int v2, .int v3, .int v4, .int v5] σ (some (.int r)) σ := by
  intro n
  induction n with
  | zero =>
    intros
    rename_i h
    cases h
  | succ n ih =>
    intro K hK σ v0 v1 v2 v3 v4 v5 r tv0 h
    exact c_X6_closeRing (B := n) (f_X6_closeRing_F n) (fun {K} => ih (K := K)) hK tv0 h

theorem c_X6_closeRing_R {K : Nat} (hK : 110 ≤ K) {σ : Mem} {v0 : Nat} {v1 : Int32} {v2 : Int32} {v3 : Int32} {v4 : Int32} {v5 : Int32} {r : Int32} (hk0 : kd v0 = 6) (h : f_X6_closeRing_R σ v0 v1 v2 v3 v4 v5 = some r) : MC l D (Ec ac z) inC z ac (z, aK, aV) (Ac z) yX6_closeRing cX6_closeRing 9 (some .int) K [.ref (z + v0), .int v1, .int v2, .int v3, .int v4, .int v5] σ (some (.int r)) σ := c_X6_closeRing_F 12 (by omega) hk0 h

theorem w_X6_firstRing_b75 (C : CX cX6_firstRing 3 RX6 (some .int) D ac p m c s args meth (z, aK, aV) (Ac z)) (hK : 111 ≤ K) {r : Int32}   (σ : Mem) (v0 : Nat) (v1 : Int32) (s2 : Int32 → Option Int32) (hs2 : ∀ (v1 : Int32) {H : Heap} {locs : List Loc} {ls : Array Slot} (_ : WC D ac z σ H) (_ : va_S (Ac z) s.heap H locs) (_ : lv_has ls 3 [(0, .ref (z + v0)), (1, .int v1)]) (_ : s2 v1 = some r), W p l e (rma K 0 0) s m args below meth c H locs 0 0 (MQ below (QV D (Ec ac z) inC z (some (.int r)) σ (Ac z)) args s 0 0 (Ac z)) (F0 m 2 ls [])) {H : Heap} {locs : List Loc} {ls : Array Slot} (tv0 : kd v0 = 6) (hW : WC D ac z σ H) (hS : va_S (Ac z) s.heap H locs) (hl : lv_has ls 3 [(0, .ref (z + v0)), (1, .int v1)]) (h : f_X6_firstRing_b75 s2 σ v0 v1 = some r) : W p l e (rma K 0 0) s m args below meth c H locs 0 0 (MQ below (QV D (Ec ac z) inC z (some (.int r)) σ (Ac z)) args s 0 0 (Ac z)) (F0 m 75 ls []) := by
  have hx := C.1.1
  have hb := C.1.2.1
  unfold f_X6_firstRing_b75 at h
  refine lv_iinc (pc := 75) (v := (v1 + 1)) (lv' := [(1, .int (v1 + 1)), (0, .ref (z + v0))]) hx hb dX6_firstRing_75 hl (k := 1) rfl rfl (by decide) rfl (fun ls hl => ?_)
  refine lv_goto (pc := 78) (tgt := 2) hx hb dX6_firstRing_78 (by decide) ?_
  exact hs2 (v1 + 1) hW hS (lv_sub hl [1, 0] rfl) h

theorem w_X6_firstRing_b2 (C : CX cX6_firstRing 3 RX6 (some .int) D ac p m c s args meth (z, aK, aV) (Ac z)) (hK : 111 ≤ K) {r : Int32}   (σ : Mem) (v0 : Nat)  : ∀ (n : Nat) (v1 : Int32) {H : Heap} {locs : List Loc} {ls : Array Slot} (tv0 : kd v0 = 6) (hW : WC D ac z σ H) (hS : va_S (Ac z) s.heap H locs) (hl : lv_has ls 3 [(0, .ref (z + v0)), (1, .int v1)]) (h : f_X6_firstRing_b2 σ v0 n v1 = some r), W p l e (rma K 0 0) s m args below meth c H locs 0 0 (MQ below (QV D (Ec ac z) inC z (some (.int r)) σ (Ac z)) args s 0 0 (Ac z)) (F0 m 2 ls []) := by
  have hx := C.1.1
  have hb := C.1.2.1
  intro n
  induction n with
  | zero =>
    intro v1 H locs ls tv0 hW hS hl h
    cases h
  | succ n ih =>
    intro v1 H locs ls tv0 hW hS hl h
    rw [f_X6_firstRing_b2.eq_2] at h
    refine lv_iload_n (pc := 2) hx hb dX6_firstRing_2 rfl (lv_at hl 1 rfl) ?_
    refine lv_aload_n (pc := 3) hx hb dX6_firstRing_3 rfl (lv_at hl 0 rfl) ?_
    refine gf_X6_4 (pc := 4) C hW tv0 fl_X6_33 dX6_firstRing_4 ?_
    refine lv_icmp_ge (pc := 7) (tgt := 81) hx hb dX6_firstRing_7 (by decide) (fun hc0 => ?_) (fun hc0 => ?_)
    · replace h := o_pos hc0 h
      refine lv_iconst (pc := 81) (v := 0) hx hb dX6_firstRing_81 (by decide) ?_
      exact g_ret (pc := 82) C hW hS rfl dX6_firstRing_82 (congrArg (fun q => some (Value.int q)) (Option.some.inj h).symm) rfl
    · replace h := o_neg hc0 h
      refine lv_iload_n (pc := 10) hx hb dX6_firstRing_10 rfl (lv_at hl 1 rfl) ?_
      refine lv_aload_n (pc := 11) hx hb dX6_firstRing_11 rfl (lv_at hl 0 rfl) ?_
      refine gf_X6_2 (pc := 12) C hW tv0 fl_X6_19 dX6_firstRing_12 ?_
      refine ra_vowslen (pc := 15) C hW tv0 dX6_firstRing_15 ?_
      refine lv_icmp_ge (pc := 16) (tgt := 81) hx hb dX6_firstRing_16 (by decide) (fun hc1 => ?_) (fun hc1 => ?_)
      · replace h := o_pos hc1 h
        refine lv_iconst (pc := 81) (v := 0) hx hb dX6_firstRing_81 (by decide) ?_
        exact g_ret (pc := 82) C hW hS rfl dX6_firstRing_82 (congrArg (fun q => some (Value.int q)) (Option.some.inj h).symm) rfl
      · replace h := o_neg hc1 h
        refine lv_aload_n (pc := 19) hx hb dX6_firstRing_19 rfl (lv_at hl 0 rfl) ?_
        refine gf_X6_2 (pc := 20) C hW tv0 fl_X6_19 dX6_firstRing_20 ?_
        refine lv_iload_n (pc := 23) hx hb dX6_firstRing_23 rfl (lv_at hl 1 rfl) ?_
        obtain ⟨hc2, h⟩ := o_chk h
        refine ra_vows (pc := 24) C hW tv0 hc2 dX6_firstRing_24 ?_
        refine gf_X7_4 (pc := 25) C hW (kd_vow tv0 hc2) fl_X6_80 dX6_firstRing_25 ?_
        refine lv_if_ne (pc := 28) (tgt := 75) hx hb dX6_firstRing_28 (by decide) (fun hc3 => ?_) (fun hc3 => ?_)
        · replace h := o_neg hc3 h
          exact w_X6_firstRing_b75 C hK σ v0 v1 (f_X6_firstRing_b2 σ v0 n) (fun v1 {H : Heap} {locs : List Loc} {ls : Array Slot}  hW hS hl h => ih v1 tv0 hW hS hl h) tv0 hW hS (lv_sub hl [0, 1] rfl) h
        · replace h := o_pos hc3 h
          refine lv_aload_n (pc := 31) hx hb dX6_firstRing_31 rfl (lv_at hl 0 rfl) ?_
          refine lv_aload_n (pc := 32) hx hb dX6_firstRing_32 rfl (lv_at hl 0 rfl) ?_
          refine gf_X6_2 (pc := 33) C hW tv0 fl_X6_19 dX6_firstRing_33 ?_
          refine lv_iload_n (pc := 36) hx hb dX6_firstRing_36 rfl (lv_at hl 1 rfl) ?_
          obtain ⟨hc4, h⟩ := o_chk h
          refine ra_vows (pc := 37) C hW tv0 hc4 dX6_firstRing_37 ?_
          refine gf_X7_0 (pc := 38) C hW (kd_vow tv0 hc4) fl_X6_68 dX6_firstRing_38 ?_
          refine lv_aload_n (pc := 41) hx hb dX6_firstRing_41 rfl (lv_at hl 0 rfl) ?_
          refine gf_X6_2 (pc := 42) C hW tv0 fl_X6_19 dX6_firstRing_42 ?_
          refine lv_iload_n (pc := 45) hx hb dX6_firstRing_45 rfl (lv_at hl 1 rfl) ?_
          obtain ⟨hc5, h⟩ := o_chk h
          refine ra_vows (pc := 46) C hW tv0 hc5 dX6_firstRing_46 ?_
          refine gf_X7_1 (pc := 47) C hW (kd_vow tv0 hc5) fl_X6_71 dX6_firstRing_47 ?_
          refine lv_iconst (pc := 50) (v := 1) hx hb dX6_firstRing_50 (by decide) ?_
          refine lv_aload_n (pc := 51) hx hb dX6_firstRing_51 rfl (lv_at hl 0 rfl) ?_
          refine gf_X6_2 (pc := 52) C hW tv0 fl_X6_19 dX6_firstRing_52 ?_
          refine lv_iload_n (pc := 55) hx hb dX6_firstRing_55 rfl (lv_at hl 1 rfl) ?_
          obtain ⟨hc6, h⟩ := o_chk h
          refine ra_vows (pc := 56) C hW tv0 hc6 dX6_firstRing_56 ?_
          refine gf_X7_0 (pc := 57) C hW (kd_vow tv0 hc6) fl_X6_68 dX6_firstRing_57 ?_
          refine lv_ishl (pc := 60) hx hb dX6_firstRing_60 ?_
          refine lv_iconst (pc := 61) (v := 1) hx hb dX6_firstRing_61 (by decide) ?_
          refine lv_iload_n (pc := 62) hx hb dX6_firstRing_62 rfl (lv_at hl 1 rfl) ?_
          refine lv_ishl (pc := 63) hx hb dX6_firstRing_63 ?_
          refine lv_iconst (pc := 64) (v := 1) hx hb dX6_firstRing_64 (by decide) ?_
          obtain ⟨r9, hc7, h⟩ := o_b h
          refine g_stat (pc := 65) (st2 := [.int r9]) (rest := []) C hW hS (c_X6_closeRing_R (K := K - 1) (by omega) tv0 hc7) mw_X6_161 (hRoom (by omega) (by decide)) rfl rfl rfl (Nat.le_of_ble_eq_true rfl) hl.1 dX6_firstRing_65 (fun H locs hW hS => ?_)
          refine lv_istore_n (pc := 68) (lv' := [(2, .int r9), (0, .ref (z + v0)), (1, .int v1)]) hx hb dX6_firstRing_68 rfl hl (by decide) rfl (fun ls hl => ?_)
          refine lv_iload_n (pc := 69) hx hb dX6_firstRing_69 rfl (lv_at hl 0 rfl) ?_
          refine lv_if_eq (pc := 70) (tgt := 75) hx hb dX6_firstRing_70 (by decide) (fun hc9 => ?_) (fun hc9 => ?_)
          · replace h := o_pos hc9 h
            exact w_X6_firstRing_b75 C hK σ v0 v1 (f_X6_firstRing_b2 σ v0 n) (fun v1 {H : Heap} {locs : List Loc} {ls : Array Slot}  hW hS hl h => ih v1 tv0 hW hS hl h) tv0 hW hS (lv_sub hl [1, 2] rfl) h
          · replace h := o_neg hc9 h
            refine lv_iload_n (pc := 73) hx hb dX6_firstRing_73 rfl (lv_at hl 0 rfl) ?_
            exact g_ret (pc := 74) C hW hS rfl dX6_firstRing_74 (congrArg (fun q => some (Value.int q)) (Option.some.inj h).symm) rfl

theorem c_X6_firstRing {K : Nat}  (hK : 111 ≤ K) {σ : Mem} {v0 : Nat} {r : Int32} (hk0 : kd v0 = 6) (h : f_X6_firstRing σ v0 = some r) : MC l D (Ec ac z) inC z ac (z, aK, aV) (Ac z) yX6_firstRing cX6_firstRing 3 (some .int) K [.ref (z + v0)] σ (some (.int r)) σ := by
  refine MC.of (fun q hq => by have := hq.1; show z ≤ q; omega) (plainFor_of_name (by decide)) (Nat.le_of_ble_eq_true rfl) ?_
  intro p e s m below meth c args C hW ls hl
  replace hl : lv_has ls 3 [(0, .ref (z + v0))] := hl
  have hS : va_S (Ac z) s.heap s.heap [] := va_S.rf
  have hx := C.1.1
  have hb := C.1.2.1
  unfold f_X6_firstRing at h
  refine lv_iconst (pc := 0) (v := 0) hx hb dX6_firstRing_0 (by decide) ?_
  refine lv_istore_n (pc := 1) (lv' := [(1, .int (0 : Int32)), (0, .ref (z + v0))]) hx hb dX6_firstRing_1 rfl hl (by decide) rfl (fun ls hl => ?_)
  exact w_X6_firstRing_b2 C hK σ v0 FU (0 : Int32) hk0 hW hS (lv_sub hl [1, 0] rfl) h

theorem w_X6_leastInches_b56 (C : CX cX6_leastInches 4 RX6 (some .int) D ac p m c s args meth (z, aK, aV) (Ac z)) (hK : 0 ≤ K) {r : Int32}   (σ : Mem) (v0 : Nat) (v1 : Int32) (v2 : Int32) (v3 : Int32) (s4 : Int32 → Int32 → Option Int32) (hs4 : ∀ (v2 : Int32) (v3 : Int32) {H : Heap} {locs : List Loc} {ls : Array Slot} (_ : WC D ac z σ H) (_ : va_S (Ac z) s.heap H locs) (_ : lv_has ls 4 [(0, .ref (z + v0)), (1, .int v1), (2, .int v2), (3, .int v3)]) (_ : s4 v2 v3 = some r), W p l e (rma K 0 0) s m args below meth c H locs 0 0 (MQ below (QV D (Ec ac z) inC z (some (.int r)) σ (Ac z)) args s 0 0 (Ac z)) (F0 m 4 ls [])) {H : Heap} {locs : List Loc} {ls : Array Slot} (tv0 : kd v0 = 6) (hW : WC D ac z σ H) (hS : va_S (Ac z) s.heap H locs) (hl : lv_has ls 4 [(0, .ref (z + v0)), (1, .int v1), (2, .int v2), (3, .int v3)]) (h : f_X6_leastInches_b56 s4 σ v0 v1 v2 v3 = some r) : W p l e (rma K 0 0) s m args below meth c H locs 0 0 (MQ below (QV D (Ec ac z) inC z (some (.int r)) σ (Ac z)) args s 0 0 (Ac z)) (F0 m 56 ls []) := by
  have hx := C.1.1
  have hb := C.1.2.1
  unfold f_X6_leastInches_b56 at h
  refine lv_iinc (pc := 56) (v := (v3 + 1)) (lv' := [(3, .int (v3 + 1)), (0, .ref (z + v0)), (1, .int v1), (2, .int v2)]) hx hb dX6_leastInches_56 hl (k := 3) rfl rfl (by decide) rfl (fun ls hl => ?_)
  refine lv_goto (pc := 59) (tgt := 4) hx hb dX6_leastInches_59 (by decide) ?_
  exact hs4 v2 (v3 + 1) hW hS (lv_sub hl [1, 2, 3, 0] rfl) h

theorem w_X6_leastInches_b46 (C : CX cX6_leastInches 4 RX6 (some .int) D ac p m c s args meth (z, aK, aV) (Ac z)) (hK : 0 ≤ K) {r : Int32}   (σ : Mem) (v0 : Nat) (v1 : Int32) (v3 : Int32) (s4 : Int32 → Int32 → Option Int32) (hs4 : ∀ (v2 : Int32) (v3 : Int32) {H : Heap} {locs : List Loc} {ls : Array Slot} (_ : WC D ac z σ H) (_ : va_S (Ac z) s.heap H locs) (_ : lv_has ls 4 [(0, .ref (z + v0)), (1, .int v1), (2, .int v2), (3, .int v3)]) (_ : s4 v2 v3 = some r), W p l e (rma K 0 0) s m args below meth c H locs 0 0 (MQ below (QV D (Ec ac z) inC z (some (.int r)) σ (Ac z)) args s 0 0 (Ac z)) (F0 m 4 ls [])) {H : Heap} {locs : List Loc} {ls : Array Slot} (tv0 : kd v0 = 6) (hW : WC D ac z σ H) (hS : va_S (Ac z) s.heap H locs) (hl : lv_has ls 4 [(0, .ref (z + v0)), (1, .int v1), (3, .int v3)]) (h : f_X6_leastInches_b46 s4 σ v0 v1 v3 = some r) : W p l e (rma K 0 0) s m args below meth c H locs 0 0 (MQ below (QV D (Ec ac z) inC z (some (.int r)) σ (Ac z)) args s 0 0 (Ac z)) (F0 m 46 ls []) := by
  have hx := C.1.1
  have hb := C.1.2.1
  unfold f_X6_leastInches_b46 at h
  refine lv_aload_n (pc := 46) hx hb dX6_leastInches_46 rfl (lv_at hl 0 rfl) ?_
  refine gf_X6_2 (pc := 47) C hW tv0 fl_X6_19 dX6_leastInches_47 ?_
  refine lv_iload_n (pc := 50) hx hb dX6_leastInches_50 rfl (lv_at hl 2 rfl) ?_
  obtain ⟨hc6, h⟩ := o_chk h
  refine ra_vows (pc := 51) C hW tv0 hc6 dX6_leastInches_51 ?_
  refine gf_X7_2 (pc := 52) C hW (kd_vow tv0 hc6) fl_X6_74 dX6_leastInches_52 ?_
  refine lv_istore_n (pc := 55) (lv' := [(2, .int (σ (v0 + 9 + v3.toNatClampNeg) 2)), (0, .ref (z + v0)), (1, .int v1), (3, .int v3)]) hx hb dX6_leastInches_55 rfl hl (by decide) rfl (fun ls hl => ?_)
  exact w_X6_leastInches_b56 C hK σ v0 v1 (σ (v0 + 9 + v3.toNatClampNeg) 2) v3 s4 hs4 tv0 hW hS (lv_sub hl [1, 2, 0, 3] rfl) h

theorem w_X6_leastInches_b4 (C : CX cX6_leastInches 4 RX6 (some .int) D ac p m c s args meth (z, aK, aV) (Ac z)) (hK : 0 ≤ K) {r : Int32}   (σ : Mem) (v0 : Nat) (v1 : Int32)  : ∀ (n : Nat) (v2 : Int32) (v3 : Int32) {H : Heap} {locs : List Loc} {ls : Array Slot} (tv0 : kd v0 = 6) (hW : WC D ac z σ H) (hS : va_S (Ac z) s.heap H locs) (hl : lv_has ls 4 [(0, .ref (z + v0)), (1, .int v1), (2, .int v2), (3, .int v3)]) (h : f_X6_leastInches_b4 σ v0 v1 n v2 v3 = some r), W p l e (rma K 0 0) s m args below meth c H locs 0 0 (MQ below (QV D (Ec ac z) inC z (some (.int r)) σ (Ac z)) args s 0 0 (Ac z)) (F0 m 4 ls []) := by
  have hx := C.1.1
  have hb := C.1.2.1
  intro n
  induction n with
  | zero =>
    intro v2 v3 H locs ls tv0 hW hS hl h
    cases h
  | succ n ih =>
    intro v2 v3 H locs ls tv0 hW hS hl h
    rw [f_X6_leastInches_b4.eq_2] at h
    refine lv_iload_n (pc := 4) hx hb dX6_leastInches_4 rfl (lv_at hl 3 rfl) ?_
    refine lv_aload_n (pc := 5) hx hb dX6_leastInches_5 rfl (lv_at hl 0 rfl) ?_
    refine gf_X6_4 (pc := 6) C hW tv0 fl_X6_33 dX6_leastInches_6 ?_
    refine lv_icmp_ge (pc := 9) (tgt := 62) hx hb dX6_leastInches_9 (by decide) (fun hc0 => ?_) (fun hc0 => ?_)
    · replace h := o_pos hc0 h
      refine lv_iload_n (pc := 62) hx hb dX6_leastInches_62 rfl (lv_at hl 2 rfl) ?_
      exact g_ret (pc := 63) C hW hS rfl dX6_leastInches_63 (congrArg (fun q => some (Value.int q)) (Option.some.inj h).symm) rfl
    · replace h := o_neg hc0 h
      refine lv_iload_n (pc := 12) hx hb dX6_leastInches_12 rfl (lv_at hl 3 rfl) ?_
      refine lv_aload_n (pc := 13) hx hb dX6_leastInches_13 rfl (lv_at hl 0 rfl) ?_
      refine gf_X6_2 (pc := 14) C hW tv0 fl_X6_19 dX6_leastInches_14 ?_
      refine ra_vowslen (pc := 17) C hW tv0 dX6_leastInches_17 ?_
      refine lv_icmp_ge (pc := 18) (tgt := 62) hx hb dX6_leastInches_18 (by decide) (fun hc1 => ?_) (fun hc1 => ?_)
      · replace h := o_pos hc1 h
        refine lv_iload_n (pc := 62) hx hb dX6_leastInches_62 rfl (lv_at hl 2 rfl) ?_
        exact g_ret (pc := 63) C hW hS rfl dX6_leastInches_63 (congrArg (fun q => some (Value.int q)) (Option.some.inj h).symm) rfl
      · replace h := o_neg hc1 h
        refine lv_iload_n (pc := 21) hx hb dX6_leastInches_21 rfl (lv_at hl 1 rfl) ?_
        refine lv_iload_n (pc := 22) hx hb dX6_leastInches_22 rfl (lv_at hl 3 rfl) ?_
        refine lv_ishr (pc := 23) hx hb dX6_leastInches_23 ?_
        refine lv_iconst (pc := 24) (v := 1) hx hb dX6_leastInches_24 (by decide) ?_
        refine lv_iand (pc := 25) hx hb dX6_leastInches_25 ?_
        refine lv_if_eq (pc := 26) (tgt := 56) hx hb dX6_leastInches_26 (by decide) (fun hc2 => ?_) (fun hc2 => ?_)
        · replace h := o_pos hc2 h
          exact w_X6_leastInches_b56 C hK σ v0 v1 v2 v3 (f_X6_leastInches_b4 σ v0 v1 n) (fun v2 v3 {H : Heap} {locs : List Loc} {ls : Array Slot}  hW hS hl h => ih v2 v3 tv0 hW hS hl h) tv0 hW hS (lv_sub hl [0, 1, 2, 3] rfl) h
        · replace h := o_neg hc2 h
          refine lv_iload_n (pc := 29) hx hb dX6_leastInches_29 rfl (lv_at hl 2 rfl) ?_
          refine lv_if_eq (pc := 30) (tgt := 46) hx hb dX6_leastInches_30 (by decide) (fun hc3 => ?_) (fun hc3 => ?_)
          · replace h := o_pos hc3 h
            exact w_X6_leastInches_b46 C hK σ v0 v1 v3 (f_X6_leastInches_b4 σ v0 v1 n) (fun v2 v3 {H : Heap} {locs : List Loc} {ls : Array Slot}  hW hS hl h => ih v2 v3 tv0 hW hS hl h) tv0 hW hS (lv_sub hl [0, 1, 3] rfl) h
          · replace h := o_neg hc3 h
            refine lv_aload_n (pc := 33) hx hb dX6_leastInches_33 rfl (lv_at hl 0 rfl) ?_
            refine gf_X6_2 (pc := 34) C hW tv0 fl_X6_19 dX6_leastInches_34 ?_
            refine lv_iload_n (pc := 37) hx hb dX6_leastInches_37 rfl (lv_at hl 3 rfl) ?_
            obtain ⟨hc4, h⟩ := o_chk h
            refine ra_vows (pc := 38) C hW tv0 hc4 dX6_leastInches_38 ?_
            refine gf_X7_2 (pc := 39) C hW (kd_vow tv0 hc4) fl_X6_74 dX6_leastInches_39 ?_
            refine lv_iload_n (pc := 42) hx hb dX6_leastInches_42 rfl (lv_at hl 2 rfl) ?_
            refine lv_icmp_ge (pc := 43) (tgt := 56) hx hb dX6_leastInches_43 (by decide) (fun hc5 => ?_) (fun hc5 => ?_)
            · replace h := o_pos hc5 h
              exact w_X6_leastInches_b56 C hK σ v0 v1 v2 v3 (f_X6_leastInches_b4 σ v0 v1 n) (fun v2 v3 {H : Heap} {locs : List Loc} {ls : Array Slot}  hW hS hl h => ih v2 v3 tv0 hW hS hl h) tv0 hW hS (lv_sub hl [0, 1, 2, 3] rfl) h
            · replace h := o_neg hc5 h
              exact w_X6_leastInches_b46 C hK σ v0 v1 v3 (f_X6_leastInches_b4 σ v0 v1 n) (fun v2 v3 {H : Heap} {locs : List Loc} {ls : Array Slot}  hW hS hl h => ih v2 v3 tv0 hW hS hl h) tv0 hW hS (lv_sub hl [0, 1, 3] rfl) h

theorem c_X6_leastInches {K : Nat}  (hK : 0 ≤ K) {σ : Mem} {v0 : Nat} {v1 : Int32} {r : Int32} (hk0 : kd v0 = 6) (h : f_X6_leastInches σ v0 v1 = some r) : MC l D (Ec ac z) inC z ac (z, aK, aV) (Ac z) yX6_leastInches cX6_leastInches 4 (some .int) K [.ref (z + v0), .int v1] σ (some (.int r)) σ := by
  refine MC.of (fun q hq => by have := hq.1; show z ≤ q; omega) (plainFor_of_name (by decide)) (Nat.le_of_ble_eq_true rfl) ?_
  intro p e s m below meth c args C hW ls hl
  replace hl : lv_has ls 4 [(0, .ref (z + v0)), (1, .int v1)] := hl
  have hS : va_S (Ac z) s.heap s.heap [] := va_S.rf
  have hx := C.1.1
  have hb := C.1.2.1
  unfold f_X6_leastInches at h
  refine lv_iconst (pc := 0) (v := 0) hx hb dX6_leastInches_0 (by decide) ?_
  refine lv_istore_n (pc := 1) (lv' := [(2, .int (0 : Int32)), (0, .ref (z + v0)), (1, .int v1)]) hx hb dX6_leastInches_1 rfl hl (by decide) rfl (fun ls hl => ?_)
  refine lv_iconst (pc := 2) (v := 0) hx hb dX6_leastInches_2 (by decide) ?_
  refine lv_istore_n (pc := 3) (lv' := [(3, .int (0 : Int32)), (2, .int (0 : Int32)), (0, .ref (z + v0)), (1, .int v1)]) hx hb dX6_leastInches_3 rfl hl (by decide) rfl (fun ls hl => ?_)
  exact w_X6_leastInches_b4 C hK σ v0 v1 FU (0 : Int32) (0 : Int32) hk0 hW hS (lv_sub hl [2, 3, 1, 0] rfl) h

theorem c_X6_unplait {K : Nat}  (hK : 1 ≤ K) {σ : Mem} {σf : Mem} {v0 : Nat} {v1 : Nat} (hk0 : kd v0 = 6) (hk1 : kd v1 = 10) (h : f_X6_unplait σ v0 v1 = some σf) : MC l D (Ec ac z) inC z ac (z, aK, aV) (Ac z) yX6_unplait cX6_unplait 3 none K [.ref (z + v0), .ref (z + v1)] σ none σf := by
  refine MC.of (fun q hq => by have := hq.1; show z ≤ q; omega) (plainFor_of_name (by decide)) (Nat.le_of_ble_eq_true rfl) ?_
  intro p e s m below meth c args C hW ls hl
  replace hl : lv_has ls 3 [(0, .ref (z + v0)), (1, .ref (z + v1))] := hl
  have hS : va_S (Ac z) s.heap s.heap [] := va_S.rf
  have hx := C.1.1
  have hb := C.1.2.1
  unfold f_X6_unplait at h
  refine lv_aload_n (pc := 0) hx hb dX6_unplait_0 rfl (lv_at hl 0 rfl) ?_
  refine lv_aload_n (pc := 1) hx hb dX6_unplait_1 rfl (lv_at hl 1 rfl) ?_
  refine gf_X7_5 (pc := 2) C hW hk1 fl_X6_83 dX6_unplait_2 ?_
  obtain ⟨r2, hc0, h⟩ := o_b h
  refine g_virt (pc := 5) (st2 := [rv z r2]) (rest := []) C hW hS (c_X6_vowAt (K := K - 1) (by omega) hk0 hc0) mw_X6_86 (kin_6 hk0) (Ek_6 hk0) rfl (hRoom (by omega) (by decide)) rfl rfl rfl (Nat.le_of_ble_eq_true rfl) hl.1 dX6_unplait_5 (fun H locs hW hS => ?_)
  refine g_astoreq_n (pc := 8) (o := r2) (lv' := [(2, rv z r2), (0, .ref (z + v0)), (1, .ref (z + v1))]) C dX6_unplait_8 rfl hl (by decide) rfl (fun ls hl => ?_)
  refine g_aloadq_n (pc := 9) (o := r2) C dX6_unplait_9 rfl (lv_at hl 0 rfl) ?_
  refine g_ifnull (pc := 10) (o := r2) (tgt := 18) C dX6_unplait_10 (by decide) (fun hn => ?_) (fun q3 hn => ?_)
  · subst hn
    replace h := o_nn h
    replace hl : lv_has ls 3 [(2, .null), (0, .ref (z + v0)), (1, .ref (z + v1))] := hl
    refine lv_aload_n (pc := 18) hx hb dX6_unplait_18 rfl (lv_at hl 2 rfl) ?_
    refine lv_iconst (pc := 19) (v := -1) hx hb dX6_unplait_19 (by decide) ?_
    refine pf_X7_5 (pc := 20) C hW hS hk1 fl_X6_83 dX6_unplait_20 (fun H locs hW hS => ?_)
    exact g_vret (pc := 23) C hW hS dX6_unplait_23 rfl (Option.some.inj h).symm
  · subst hn
    replace h := o_ns h
    replace hl : lv_has ls 3 [(2, .ref (z + q3)), (0, .ref (z + v0)), (1, .ref (z + v1))] := hl
    refine lv_aload_n (pc := 13) hx hb dX6_unplait_13 rfl (lv_at hl 0 rfl) ?_
    refine lv_iconst (pc := 14) (v := -1) hx hb dX6_unplait_14 (by decide) ?_
    refine pf_X7_5 (pc := 15) C hW hS ((ty_X6_vowAt hk0 hc0) q3 rfl) fl_X6_83 dX6_unplait_15 (fun H locs hW hS => ?_)
    refine lv_aload_n (pc := 18) hx hb dX6_unplait_18 rfl (lv_at hl 2 rfl) ?_
    refine lv_iconst (pc := 19) (v := -1) hx hb dX6_unplait_19 (by decide) ?_
    refine pf_X7_5 (pc := 20) C hW hS hk1 fl_X6_83 dX6_unplait_20 (fun H locs hW hS => ?_)
    obtain ⟨σ4, hσ4, h⟩ := o_d h
    replace hW : WC D ac z σ4 H := by rw [← hσ4]; exact hW
    exact g_vret (pc := 23) C hW hS dX6_unplait_23 rfl (Option.some.inj h).symm

theorem w_X6_clearRing_b97 (C : CX cX6_clearRing 5 RX6 (some .int) D ac p m c s args meth (z, aK, aV) (Ac z)) (hK : 2 ≤ K) {r : Int32} {σf : Mem}   (σ : Mem) (v0 : Nat) (v1 : Int32) (v2 : Int32) (v3 : Int32) (v4 : Int32) (s11 : Mem → Int32 → Int32 → Option (Int32 × Mem)) (hs11 : ∀ (σ : Mem) (v3 : Int32) (v4 : Int32) {H : Heap} {locs : List Loc} {ls : Array Slot} (_ : WC D ac z σ H) (_ : va_S (Ac z) s.heap H locs) (_ : lv_has ls 5 [(0, .ref (z + v0)), (1, .int v1), (2, .int v2), (3, .int v3), (4, .int v4)]) (_ : s11 σ v3 v4 = some (r, σf)), W p l e (rma K 0 0) s m args below meth c H locs 0 0 (MQ below (QV D (Ec ac z) inC z (some (.int r)) σf (Ac z)) args s 0 0 (Ac z)) (F0 m 11 ls [])) {H : Heap} {locs : List Loc} {ls : Array Slot} (tv0 : kd v0 = 6) (hW : WC D ac z σ H) (hS : va_S (Ac z) s.heap H locs) (hl : lv_has ls 5 [(0, .ref (z + v0)), (1, .int v1), (2, .int v2), (3, .int v3), (4, .int v4)]) (h : f_X6_clearRing_b97 s11 σ v0 v1 v2 v3 v4 = some (r, σf)) : W p l e (rma K 0 0) s m args below meth c H locs 0 0 (MQ below (QV D (Ec ac z) inC z (some (.int r)) σf (Ac z)) args s 0 0 (Ac z)) (F0 m 97 ls []) := by
  have hx := C.1.1
  have hb := C.1.2.1
  unfold f_X6_clearRing_b97 at h
  refine lv_iinc (pc := 97) (v := (v4 + 1)) (lv' := [(4, .int (v4 + 1)), (0, .ref (z + v0)), (1, .int v1), (2, .int v2), (3, .int v3)]) hx hb dX6_clearRing_97 hl (k := 4) rfl rfl (by decide) rfl (fun ls hl => ?_)
  refine lv_goto (pc := 100) (tgt := 11) hx hb dX6_clearRing_100 (by decide) ?_
  exact hs11 σ v3 (v4 + 1) hW hS (lv_sub hl [1, 2, 3, 4, 0] rfl) h

theorem w_X6_clearRing_b11 (C : CX cX6_clearRing 5 RX6 (some .int) D ac p m c s args meth (z, aK, aV) (Ac z)) (hK : 2 ≤ K) {r : Int32} {σf : Mem}   (v0 : Nat) (v1 : Int32) (v2 : Int32)  : ∀ (n : Nat) (σ : Mem) (v3 : Int32) (v4 : Int32) {H : Heap} {locs : List Loc} {ls : Array Slot} (tv0 : kd v0 = 6) (hW : WC D ac z σ H) (hS : va_S (Ac z) s.heap H locs) (hl : lv_has ls 5 [(0, .ref (z + v0)), (1, .int v1), (2, .int v2), (3, .int v3), (4, .int v4)]) (h : f_X6_clearRing_b11 v0 v1 v2 n σ v3 v4 = some (r, σf)), W p l e (rma K 0 0) s m args below meth c H locs 0 0 (MQ below (QV D (Ec ac z) inC z (some (.int r)) σf (Ac z)) args s 0 0 (Ac z)) (F0 m 11 ls []) := by
  have hx := C.1.1
  have hb := C.1.2.1
  intro n
  induction n with
  | zero =>
    intro σ v3 v4 H locs ls tv0 hW hS hl h
    cases h
  | succ n ih =>
    intro σ v3 v4 H locs ls tv0 hW hS hl h
    rw [f_X6_clearRing_b11.eq_2] at h
    refine lv_iload (pc := 11) hx hb dX6_clearRing_11 (lv_at hl 4 rfl) ?_
    refine lv_aload_n (pc := 13) hx hb dX6_clearRing_13 rfl (lv_at hl 0 rfl) ?_
    refine gf_X6_4 (pc := 14) C hW tv0 fl_X6_33 dX6_clearRing_14 ?_
    refine lv_icmp_ge (pc := 17) (tgt := 103) hx hb dX6_clearRing_17 (by decide) (fun hc2 => ?_) (fun hc2 => ?_)
    · replace h := o_pos hc2 h
      refine lv_iload_n (pc := 103) hx hb dX6_clearRing_103 rfl (lv_at hl 3 rfl) ?_
      exact g_ret (pc := 104) C hW hS rfl dX6_clearRing_104 (congrArg (fun q => some (Value.int q)) (o_r h).1) (o_r h).2
    · replace h := o_neg hc2 h
      refine lv_iload (pc := 20) hx hb dX6_clearRing_20 (lv_at hl 4 rfl) ?_
      refine lv_aload_n (pc := 22) hx hb dX6_clearRing_22 rfl (lv_at hl 0 rfl) ?_
      refine gf_X6_2 (pc := 23) C hW tv0 fl_X6_19 dX6_clearRing_23 ?_
      refine ra_vowslen (pc := 26) C hW tv0 dX6_clearRing_26 ?_
      refine lv_icmp_ge (pc := 27) (tgt := 103) hx hb dX6_clearRing_27 (by decide) (fun hc3 => ?_) (fun hc3 => ?_)
      · replace h := o_pos hc3 h
        refine lv_iload_n (pc := 103) hx hb dX6_clearRing_103 rfl (lv_at hl 3 rfl) ?_
        exact g_ret (pc := 104) C hW hS rfl dX6_clearRing_104 (congrArg (fun q => some (Value.int q)) (o_r h).1) (o_r h).2
      · replace h := o_neg hc3 h
        refine lv_iload_n (pc := 30) hx hb dX6_clearRing_30 rfl (lv_at hl 1 rfl) ?_
        refine lv_iload (pc := 31) hx hb dX6_clearRing_31 (lv_at hl 4 rfl) ?_
        refine lv_ishr (pc := 33) hx hb dX6_clearRing_33 ?_
        refine lv_iconst (pc := 34) (v := 1) hx hb dX6_clearRing_34 (by decide) ?_
        refine lv_iand (pc := 35) hx hb dX6_clearRing_35 ?_
        refine lv_if_ne (pc := 36) (tgt := 42) hx hb dX6_clearRing_36 (by decide) (fun hc4 => ?_) (fun hc4 => ?_)
        · replace h := o_neg hc4 h
          refine lv_aload_n (pc := 42) hx hb dX6_clearRing_42 rfl (lv_at hl 0 rfl) ?_
          refine gf_X6_2 (pc := 43) C hW tv0 fl_X6_19 dX6_clearRing_43 ?_
          refine lv_iload (pc := 46) hx hb dX6_clearRing_46 (lv_at hl 4 rfl) ?_
          obtain ⟨hc5, h⟩ := o_chk h
          refine ra_vows (pc := 48) C hW tv0 hc5 dX6_clearRing_48 ?_
          refine lv_dup (pc := 49) hx hb dX6_clearRing_49 rfl ?_
          refine gf_X7_2 (pc := 50) C hW (kd_vow tv0 hc5) fl_X6_74 dX6_clearRing_50 ?_
          refine lv_iload_n (pc := 53) hx hb dX6_clearRing_53 rfl (lv_at hl 2 rfl) ?_
          refine lv_isub (pc := 54) hx hb dX6_clearRing_54 ?_
          refine pf_X7_2 (pc := 55) C hW hS (kd_vow tv0 hc5) fl_X6_74 dX6_clearRing_55 (fun H locs hW hS => ?_)
          obtain ⟨σ7, hσ7, h⟩ := o_d h
          replace hW : WC D ac z σ7 H := by rw [← hσ7]; exact hW
          refine lv_iload_n (pc := 58) hx hb dX6_clearRing_58 rfl (lv_at hl 3 rfl) ?_
          refine lv_iload_n (pc := 59) hx hb dX6_clearRing_59 rfl (lv_at hl 2 rfl) ?_
          refine lv_iadd (pc := 60) hx hb dX6_clearRing_60 ?_
          refine lv_istore_n (pc := 61) (lv' := [(3, .int (v3 + v2)), (0, .ref (z + v0)), (1, .int v1), (2, .int v2), (4, .int v4)]) hx hb dX6_clearRing_61 rfl hl (by decide) rfl (fun ls hl => ?_)
          refine lv_aload_n (pc := 62) hx hb dX6_clearRing_62 rfl (lv_at hl 1 rfl) ?_
          refine gf_X6_2 (pc := 63) C hW tv0 fl_X6_19 dX6_clearRing_63 ?_
          refine lv_iload (pc := 66) hx hb dX6_clearRing_66 (lv_at hl 4 rfl) ?_
          obtain ⟨hc7, h⟩ := o_chk h
          refine ra_vows (pc := 68) C hW tv0 hc7 dX6_clearRing_68 ?_
          refine gf_X7_2 (pc := 69) C hW (kd_vow tv0 hc7) fl_X6_74 dX6_clearRing_69 ?_
          refine lv_if_ne (pc := 72) (tgt := 97) hx hb dX6_clearRing_72 (by decide) (fun hc8 => ?_) (fun hc8 => ?_)
          · replace h := o_neg hc8 h
            exact w_X6_clearRing_b97 C hK σ7 v0 v1 v2 (v3 + v2) v4 (f_X6_clearRing_b11 v0 v1 v2 n) (fun σ v3 v4 {H : Heap} {locs : List Loc} {ls : Array Slot}  hW hS hl h => ih σ v3 v4 tv0 hW hS hl h) tv0 hW hS (lv_sub hl [1, 2, 3, 0, 4] rfl) h
          · replace h := o_pos hc8 h
            refine lv_aload_n (pc := 75) hx hb dX6_clearRing_75 rfl (lv_at hl 1 rfl) ?_
            refine gf_X6_2 (pc := 76) C hW tv0 fl_X6_19 dX6_clearRing_76 ?_
            refine lv_iload (pc := 79) hx hb dX6_clearRing_79 (lv_at hl 4 rfl) ?_
            obtain ⟨hc9, h⟩ := o_chk h
            refine ra_vows (pc := 81) C hW tv0 hc9 dX6_clearRing_81 ?_
            refine lv_iconst (pc := 82) (v := 3) hx hb dX6_clearRing_82 (by decide) ?_
            refine pf_X7_4 (pc := 83) C hW hS (kd_vow tv0 hc9) fl_X6_80 dX6_clearRing_83 (fun H locs hW hS => ?_)
            obtain ⟨σ11, hσ11, h⟩ := o_d h
            replace hW : WC D ac z σ11 H := by rw [← hσ11]; exact hW
            refine lv_aload_n (pc := 86) hx hb dX6_clearRing_86 rfl (lv_at hl 1 rfl) ?_
            refine lv_aload_n (pc := 87) hx hb dX6_clearRing_87 rfl (lv_at hl 1 rfl) ?_
            refine gf_X6_2 (pc := 88) C hW tv0 fl_X6_19 dX6_clearRing_88 ?_
            refine lv_iload (pc := 91) hx hb dX6_clearRing_91 (lv_at hl 4 rfl) ?_
            obtain ⟨hc11, h⟩ := o_chk h
            refine ra_vows (pc := 93) C hW tv0 hc11 dX6_clearRing_93 ?_
            obtain ⟨σ14, hc12, h⟩ := o_b h
            refine g_virt (pc := 94) (st2 := []) (rest := []) C hW hS (c_X6_unplait (K := K - 1) (by omega) tv0 (kd_vow tv0 hc11) hc12) mw_X6_168 (kin_6 tv0) (Ek_6 tv0) rfl (hRoom (by omega) (by decide)) rfl rfl rfl (Nat.le_of_ble_eq_true rfl) hl.1 dX6_clearRing_94 (fun H locs hW hS => ?_)
            exact w_X6_clearRing_b97 C hK σ14 v0 v1 v2 (v3 + v2) v4 (f_X6_clearRing_b11 v0 v1 v2 n) (fun σ v3 v4 {H : Heap} {locs : List Loc} {ls : Array Slot}  hW hS hl h => ih σ v3 v4 tv0 hW hS hl h) tv0 hW hS (lv_sub hl [1, 2, 3, 0, 4] rfl) h
        · replace h := o_pos hc4 h
          refine lv_goto (pc := 39) (tgt := 97) hx hb dX6_clearRing_39 (by decide) ?_
          exact w_X6_clearRing_b97 C hK σ v0 v1 v2 v3 v4 (f_X6_clearRing_b11 v0 v1 v2 n) (fun σ v3 v4 {H : Heap} {locs : List Loc} {ls : Array Slot}  hW hS hl h => ih σ v3 v4 tv0 hW hS hl h) tv0 hW hS (lv_sub hl [0, 1, 2, 3, 4] rfl) h

theorem c_X6_clearRing {K : Nat}  (hK : 2 ≤ K) {σ : Mem} {σf : Mem} {v0 : Nat} {v1 : Int32} {r : Int32} (hk0 : kd v0 = 6) (h : f_X6_clearRing σ v0 v1 = some (r, σf)) : MC l D (Ec ac z) inC z ac (z, aK, aV) (Ac z) yX6_clearRing cX6_clearRing 5 (some .int) K [.ref (z + v0), .int v1] σ (some (.int r)) σf := by
  refine MC.of (fun q hq => by have := hq.1; show z ≤ q; omega) (plainFor_of_name (by decide)) (Nat.le_of_ble_eq_true rfl) ?_
  intro p e s m below meth c args C hW ls hl
  replace hl : lv_has ls 5 [(0, .ref (z + v0)), (1, .int v1)] := hl
  have hS : va_S (Ac z) s.heap s.heap [] := va_S.rf
  have hx := C.1.1
  have hb := C.1.2.1
  unfold f_X6_clearRing at h
  refine lv_aload_n (pc := 0) hx hb dX6_clearRing_0 rfl (lv_at hl 0 rfl) ?_
  refine lv_iload_n (pc := 1) hx hb dX6_clearRing_1 rfl (lv_at hl 1 rfl) ?_
  obtain ⟨r2, hc0, h⟩ := o_b h
  refine g_virt (pc := 2) (st2 := [.int r2]) (rest := []) C hW hS (c_X6_leastInches (K := K - 1) (by omega) hk0 hc0) mw_X6_165 (kin_6 hk0) (Ek_6 hk0) rfl (hRoom (by omega) (by decide)) rfl rfl rfl (Nat.le_of_ble_eq_true rfl) hl.1 dX6_clearRing_2 (fun H locs hW hS => ?_)
  refine lv_istore_n (pc := 5) (lv' := [(2, .int r2), (0, .ref (z + v0)), (1, .int v1)]) hx hb dX6_clearRing_5 rfl hl (by decide) rfl (fun ls hl => ?_)
  refine lv_iconst (pc := 6) (v := 0) hx hb dX6_clearRing_6 (by decide) ?_
  refine lv_istore_n (pc := 7) (lv' := [(3, .int (0 : Int32)), (2, .int r2), (0, .ref (z + v0)), (1, .int v1)]) hx hb dX6_clearRing_7 rfl hl (by decide) rfl (fun ls hl => ?_)
  refine lv_iconst (pc := 8) (v := 0) hx hb dX6_clearRing_8 (by decide) ?_
  refine lv_istore (pc := 9) (lv' := [(4, .int (0 : Int32)), (3, .int (0 : Int32)), (2, .int r2), (0, .ref (z + v0)), (1, .int v1)]) hx hb dX6_clearRing_9 hl (by decide) rfl (fun ls hl => ?_)
  exact w_X6_clearRing_b11 C hK v0 v1 r2 FU σ (0 : Int32) (0 : Int32) hk0 hW hS (lv_sub hl [3, 4, 2, 1, 0] rfl) h

theorem w_X6_fallenNext_b51 (C : CX cX6_fallenNext 4 RX6 (some .int) D ac p m c s args meth (z, aK, aV) (Ac z)) (hK : 2 ≤ K) {r : Int32}   (σ : Mem) (v0 : Nat) (v1 : Int32) (v2 : Int32) (v3 : Int32) (s4 : Int32 → Int32 → Option Int32) (hs4 : ∀ (v2 : Int32) (v3 : Int32) {H : Heap} {locs : List Loc} {ls : Array Slot} (_ : WC D ac z σ H) (_ : va_S (Ac z) s.heap H locs) (_ : lv_has ls 4 [(0, .ref (z + v0)), (1, .int v1), (2, .int v2), (3, .int v3)]) (_ : s4 v2 v3 = some r), W p l e (rma K 0 0) s m args below meth c H locs 0 0 (MQ below (QV D (Ec ac z) inC z (some (.int r)) σ (Ac z)) args s 0 0 (Ac z)) (F0 m 4 ls [])) {H : Heap} {locs : List Loc} {ls : Array Slot} (tv0 : kd v0 = 6) (hW : WC D ac z σ H) (hS : va_S (Ac z) s.heap H locs) (hl : lv_has ls 4 [(0, .ref (z + v0)), (1, .int v1), (2, .int v2), (3, .int v3)]) (h : f_X6_fallenNext_b51 s4 σ v0 v1 v2 v3 = some r) : W p l e (rma K 0 0) s m args below meth c H locs 0 0 (MQ below (QV D (Ec ac z) inC z (some (.int r)) σ (Ac z)) args s 0 0 (Ac z)) (F0 m 51 ls []) := by
  have hx := C.1.1
  have hb := C.1.2.1
  unfold f_X6_fallenNext_b51 at h
  refine lv_iinc (pc := 51) (v := (v3 + 1)) (lv' := [(3, .int (v3 + 1)), (0, .ref (z + v0)), (1, .int v1), (2, .int v2)]) hx hb dX6_fallenNext_51 hl (k := 3) rfl rfl (by decide) rfl (fun ls hl => ?_)
  refine lv_goto (pc := 54) (tgt := 4) hx hb dX6_fallenNext_54 (by decide) ?_
  exact hs4 v2 (v3 + 1) hW hS (lv_sub hl [1, 2, 3, 0] rfl) h

theorem w_X6_fallenNext_b4 (C : CX cX6_fallenNext 4 RX6 (some .int) D ac p m c s args meth (z, aK, aV) (Ac z)) (hK : 2 ≤ K) {r : Int32}   (σ : Mem) (v0 : Nat) (v1 : Int32)  : ∀ (n : Nat) (v2 : Int32) (v3 : Int32) {H : Heap} {locs : List Loc} {ls : Array Slot} (tv0 : kd v0 = 6) (hW : WC D ac z σ H) (hS : va_S (Ac z) s.heap H locs) (hl : lv_has ls 4 [(0, .ref (z + v0)), (1, .int v1), (2, .int v2), (3, .int v3)]) (h : f_X6_fallenNext_b4 σ v0 v1 n v2 v3 = some r), W p l e (rma K 0 0) s m args below meth c H locs 0 0 (MQ below (QV D (Ec ac z) inC z (some (.int r)) σ (Ac z)) args s 0 0 (Ac z)) (F0 m 4 ls []) := by
  have hx := C.1.1
  have hb := C.1.2.1
  intro n
  induction n with
  | zero =>
    intro v2 v3 H locs ls tv0 hW hS hl h
    cases h
  | succ n ih =>
    intro v2 v3 H locs ls tv0 hW hS hl h
    rw [f_X6_fallenNext_b4.eq_2] at h
    refine lv_iload_n (pc := 4) hx hb dX6_fallenNext_4 rfl (lv_at hl 3 rfl) ?_
    refine lv_aload_n (pc := 5) hx hb dX6_fallenNext_5 rfl (lv_at hl 0 rfl) ?_
    refine gf_X6_3 (pc := 6) C hW tv0 fl_X6_29 dX6_fallenNext_6 ?_
    refine lv_icmp_ge (pc := 9) (tgt := 57) hx hb dX6_fallenNext_9 (by decide) (fun hc0 => ?_) (fun hc0 => ?_)
    · replace h := o_pos hc0 h
      refine lv_iload_n (pc := 57) hx hb dX6_fallenNext_57 rfl (lv_at hl 2 rfl) ?_
      exact g_ret (pc := 58) C hW hS rfl dX6_fallenNext_58 (congrArg (fun q => some (Value.int q)) (Option.some.inj h).symm) rfl
    · replace h := o_neg hc0 h
      refine lv_iload_n (pc := 12) hx hb dX6_fallenNext_12 rfl (lv_at hl 3 rfl) ?_
      refine lv_aload_n (pc := 13) hx hb dX6_fallenNext_13 rfl (lv_at hl 0 rfl) ?_
      refine gf_X6_1 (pc := 14) C hW tv0 fl_X6_11 dX6_fallenNext_14 ?_
      refine ra_menlen (pc := 17) C hW tv0 dX6_fallenNext_17 ?_
      refine lv_icmp_ge (pc := 18) (tgt := 57) hx hb dX6_fallenNext_18 (by decide) (fun hc1 => ?_) (fun hc1 => ?_)
      · replace h := o_pos hc1 h
        refine lv_iload_n (pc := 57) hx hb dX6_fallenNext_57 rfl (lv_at hl 2 rfl) ?_
        exact g_ret (pc := 58) C hW hS rfl dX6_fallenNext_58 (congrArg (fun q => some (Value.int q)) (Option.some.inj h).symm) rfl
      · replace h := o_neg hc1 h
        refine lv_aload_n (pc := 21) hx hb dX6_fallenNext_21 rfl (lv_at hl 0 rfl) ?_
        refine gf_X6_1 (pc := 22) C hW tv0 fl_X6_11 dX6_fallenNext_22 ?_
        refine lv_iload_n (pc := 25) hx hb dX6_fallenNext_25 rfl (lv_at hl 3 rfl) ?_
        obtain ⟨hc2, h⟩ := o_chk h
        refine ra_men (pc := 26) C hW tv0 hc2 dX6_fallenNext_26 ?_
        refine g_virt (pc := 27) (st2 := [.int (f_X1_counts σ (v0 + 3 + v3.toNatClampNeg))]) (rest := []) C hW hS (c_X1_counts (K := K - 1) (by omega) (kd_man tv0 hc2) rfl) mw_X6_140 (kin_9 (kd_man tv0 hc2)) (Ek_9 (kd_man tv0 hc2)) rfl (hRoom (by omega) (by decide)) rfl rfl rfl (Nat.le_of_ble_eq_true rfl) hl.1 dX6_fallenNext_27 (fun H locs hW hS => ?_)
        refine lv_aload_n (pc := 30) hx hb dX6_fallenNext_30 rfl (lv_at hl 0 rfl) ?_
        refine lv_iload_n (pc := 31) hx hb dX6_fallenNext_31 rfl (lv_at hl 3 rfl) ?_
        refine lv_iload_n (pc := 32) hx hb dX6_fallenNext_32 rfl (lv_at hl 1 rfl) ?_
        obtain ⟨r5, hc3, h⟩ := o_b h
        refine g_virt (pc := 33) (st2 := [.int r5, .int (f_X1_counts σ (v0 + 3 + v3.toNatClampNeg))]) (rest := [.int (f_X1_counts σ (v0 + 3 + v3.toNatClampNeg))]) C hW hS (c_X6_owedTo (K := K - 1) (by omega) tv0 hc3) mw_X6_171 (kin_6 tv0) (Ek_6 tv0) rfl (hRoom (by omega) (by decide)) rfl rfl rfl (Nat.le_of_ble_eq_true rfl) hl.1 dX6_fallenNext_33 (fun H locs hW hS => ?_)
        refine lv_iadd (pc := 36) hx hb dX6_fallenNext_36 ?_
        refine lv_aload_n (pc := 37) hx hb dX6_fallenNext_37 rfl (lv_at hl 0 rfl) ?_
        refine lv_iload_n (pc := 38) hx hb dX6_fallenNext_38 rfl (lv_at hl 3 rfl) ?_
        obtain ⟨r7, hc5, h⟩ := o_b h
        refine g_virt (pc := 39) (st2 := [.int r7, .int ((f_X1_counts σ (v0 + 3 + v3.toNatClampNeg)) + r5)]) (rest := [.int ((f_X1_counts σ (v0 + 3 + v3.toNatClampNeg)) + r5)]) C hW hS (c_X6_owed (K := K - 1) (by omega) tv0 hc5) mw_X6_111 (kin_6 tv0) (Ek_6 tv0) rfl (hRoom (by omega) (by decide)) rfl rfl rfl (Nat.le_of_ble_eq_true rfl) hl.1 dX6_fallenNext_39 (fun H locs hW hS => ?_)
        refine lv_icmp_ge (pc := 42) (tgt := 51) hx hb dX6_fallenNext_42 (by decide) (fun hc7 => ?_) (fun hc7 => ?_)
        · replace h := o_pos hc7 h
          exact w_X6_fallenNext_b51 C hK σ v0 v1 v2 v3 (f_X6_fallenNext_b4 σ v0 v1 n) (fun v2 v3 {H : Heap} {locs : List Loc} {ls : Array Slot}  hW hS hl h => ih v2 v3 tv0 hW hS hl h) tv0 hW hS (lv_sub hl [0, 1, 2, 3] rfl) h
        · replace h := o_neg hc7 h
          refine lv_iload_n (pc := 45) hx hb dX6_fallenNext_45 rfl (lv_at hl 2 rfl) ?_
          refine lv_iconst (pc := 46) (v := 1) hx hb dX6_fallenNext_46 (by decide) ?_
          refine lv_iload_n (pc := 47) hx hb dX6_fallenNext_47 rfl (lv_at hl 3 rfl) ?_
          refine lv_ishl (pc := 48) hx hb dX6_fallenNext_48 ?_
          refine lv_ior (pc := 49) hx hb dX6_fallenNext_49 ?_
          refine lv_istore_n (pc := 50) (lv' := [(2, .int (v2 ||| ((1 : Int32) <<< (v3 &&& 31)))), (0, .ref (z + v0)), (1, .int v1), (3, .int v3)]) hx hb dX6_fallenNext_50 rfl hl (by decide) rfl (fun ls hl => ?_)
          exact w_X6_fallenNext_b51 C hK σ v0 v1 (v2 ||| ((1 : Int32) <<< (v3 &&& 31))) v3 (f_X6_fallenNext_b4 σ v0 v1 n) (fun v2 v3 {H : Heap} {locs : List Loc} {ls : Array Slot}  hW hS hl h => ih v2 v3 tv0 hW hS hl h) tv0 hW hS (lv_sub hl [1, 2, 0, 3] rfl) h

theorem c_X6_fallenNext {K : Nat}  (hK : 2 ≤ K) {σ : Mem} {v0 : Nat} {v1 : Int32} {r : Int32} (hk0 : kd v0 = 6) (h : f_X6_fallenNext σ v0 v1 = some r) : MC l D (Ec ac z) inC z ac (z, aK, aV) (Ac z) yX6_fallenNext cX6_fallenNext 4 (some .int) K [.ref (z + v0), .int v1] σ (some (.int r)) σ := by
  refine MC.of (fun q hq => by have := hq.1; show z ≤ q; omega) (plainFor_of_name (by decide)) (Nat.le_of_ble_eq_true rfl) ?_
  intro p e s m below meth c args C hW ls hl
  replace hl : lv_has ls 4 [(0, .ref (z + v0)), (1, .int v1)] := hl
  have hS : va_S (Ac z) s.heap s.heap [] := va_S.rf
  have hx := C.1.1
  have hb := C.1.2.1
  unfold f_X6_fallenNext at h
  refine lv_iload_n (pc := 0) hx hb dX6_fallenNext_0 rfl (lv_at hl 1 rfl) ?_
  refine lv_istore_n (pc := 1) (lv' := [(2, .int v1), (0, .ref (z + v0)), (1, .int v1)]) hx hb dX6_fallenNext_1 rfl hl (by decide) rfl (fun ls hl => ?_)
  refine lv_iconst (pc := 2) (v := 0) hx hb dX6_fallenNext_2 (by decide) ?_
  refine lv_istore_n (pc := 3) (lv' := [(3, .int (0 : Int32)), (2, .int v1), (0, .ref (z + v0)), (1, .int v1)]) hx hb dX6_fallenNext_3 rfl hl (by decide) rfl (fun ls hl => ?_)
  exact w_X6_fallenNext_b4 C hK σ v0 v1 FU v1 (0 : Int32) hk0 hW hS (lv_sub hl [2, 3, 1, 0] rfl) h

end
