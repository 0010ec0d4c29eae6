/-! THE START: printed by wip/whole/gen_start.py -/
theorem inst_X0 : Cond.instantiable RX0 5 ∈ TB := tb_in 335 (by decide +kernel) rfl
theorem inst_X1 : Cond.instantiable RX1 6 ∈ TB := tb_in 189 (by decide +kernel) rfl
theorem inst_X2 : Cond.instantiable RX2 9 ∈ TB := tb_in 145 (by decide +kernel) rfl
theorem inst_X3 : Cond.instantiable RX3 4 ∈ TB := tb_in 107 (by decide +kernel) rfl
theorem inst_X4 : Cond.instantiable RX4 3 ∈ TB := tb_in 314 (by decide +kernel) rfl
theorem inst_X5 : Cond.instantiable RX5 3 ∈ TB := tb_in 114 (by decide +kernel) rfl
theorem inst_X6 : Cond.instantiable RX6 12 ∈ TB := tb_in 180 (by decide +kernel) rfl
theorem inst_X7 : Cond.instantiable RX7 6 ∈ TB := tb_in 230 (by decide +kernel) rfl
theorem inst_X8 : Cond.instantiable RX8 10 ∈ TB := tb_in 99 (by decide +kernel) rfl
theorem inst_X9 : Cond.instantiable RX9 48 ∈ TB := tb_in 989 (by decide +kernel) rfl
abbrev FW : List Cond := flatC (Jvm.Cond.and given_1 narrow_1)
abbrev tmS (i : Nat) : Term := Term.string RX2 (sIx.getD i 0)
theorem fw_1 : ∀ i : Nat, i < 12 → Cond.exactly (tmS i) "java/lang/String" ∈ FW := by decide +kernel
theorem fw_2 : ∀ i : Nat, i < 12 → Cond.eq (.field (tmS i) "java/lang/String" "coder" "B") (.int 0) ∈ FW := by decide +kernel
theorem fw_3 : ∀ i : Nat, i < 12 → Cond.arrayOf (.field (tmS i) "java/lang/String" "value" "[B") .byte ∈ FW := by decide +kernel
theorem fw_4 : ∀ i : Nat, i < 12 → Cond.eq (.length (.field (tmS i) "java/lang/String" "value" "[B")) (.int (Int32.ofNat (sLen.getD i 0))) ∈ FW := by decide +kernel
theorem fw_5 : ∀ i : Nat, i < 12 → ∀ j : Nat, j < sLen.getD i 0 → Cond.eq (.elem (.field (tmS i) "java/lang/String" "value" "[B") (.int (Int32.ofNat j))) (.int ((sByt.getD i []).getD j 0)) ∈ FW := by decide +kernel
theorem fw_6 : ∀ i : Nat, i < 12 → ∀ j : Nat, j < 12 → i ≠ j → Cond.not (Cond.eq (tmS i) (tmS j)) ∈ FW ∨ Cond.not (Cond.eq (tmS j) (tmS i)) ∈ FW := by decide +kernel
theorem fw_7 : Cond.eq (.static "java/lang/String" "COMPACT_STRINGS" "Z") (.int 1) ∈ FW ∧ Cond.isRef (.static "jdk/internal/util/Preconditions" "SIOOBE_FORMATTER" "Ljava/util/function/BiFunction;") ∈ FW := by decide +kernel
theorem lt_1 : ∀ i : Nat, i < 12 → Cond.stringRef RX2 (sIx.getD i 0) (sTx.getD i "") ∈ lw_tbl := by decide +kernel
theorem lt_2 : Cond.laysStatic "java/lang/String" "COMPACT_STRINGS" "Z" ∈ lw_tbl ∧ Cond.initialized "java/lang/String" ∈ lw_tbl ∧ Cond.laysStatic "jdk/internal/util/Preconditions" "SIOOBE_FORMATTER" "Ljava/util/function/BiFunction;" ∈ lw_tbl ∧ Cond.initialized "jdk/internal/util/Preconditions" ∈ lw_tbl := by decide +kernel
theorem lt_3 : (∀ q ∈ nestL, Cond.methodLinkNest q.1 q.2.1 q.2.2 "BeardsAreBonds" ∈ lw_tbl) ∧ (∀ C ∈ [RX1, RX7, RX4, RX5], Cond.arrayOver (.object C) ∈ lw_tbl) ∧ Cond.arrayClass .int ∈ lw_tbl := by decide +kernel
theorem start_SX {s : State} {b : Nat} (hts : ∀ w ∈ lw_tbl, w.before #[Value.ref b] s = true) (hgv : (Jvm.Cond.and given_1 narrow_1).before #[Value.ref b] s = true) : ∃ aK aV : Nat → Nat, SX (s.heap.size, aK, aV) s := by
  have hF := flat_of_before _ hgv
  have hA : ∀ a : Nat, a < s.heap.size → ¬ s.heap.size ≤ a := fun a h => Nat.not_le.mpr h
  obtain ⟨aK, aV, h1, h2⟩ := vk_Sof (args := #[Value.ref b]) (s := s) (N := 12) (tm := tmS) (len := sLen) (byt := sByt) (A := fun q => s.heap.size ≤ q) (by decide) (fun i hi => hF _ (fw_1 i hi)) (fun i hi => hF _ (fw_2 i hi)) (fun i hi => hF _ (fw_3 i hi)) (fun i hi => hF _ (fw_4 i hi)) (fun i hi j hj => hF _ (fw_5 i hi j hj)) (fun i j hi hj hij => (fw_6 i hi j hj hij).imp (fun h => hF _ h) (fun h => hF _ h)) hA
  exact ⟨aK, aV, fun i hi => vk_R.of (hts _ (lt_1 i hi)) (h2 i hi), h1, va_Zof (hts _ lt_2.1) (hts _ lt_2.2.1) (va_eqi (hF _ fw_7.1)) hA, va_Zqof (hts _ lt_2.2.2.1) (hts _ lt_2.2.2.2) (hF _ fw_7.2) hA, fun q hq => va_Nw.of rfl (hts _ (lt_3.1 q hq)), fun C hC => va_AO.of (hts _ (lt_3.2.1 C hC))⟩
theorem start_obj {s : State} {args : Array Value} {C : String} (h : (Cond.arrayOver (.object C)).before args s = true) : ∃ cA : ClassId, ArrOfT s cA (.object C) ∧ va_RA s cA (.object C) := by
  obtain ⟨comp, c, k, h1, h2, h3, h4, h5⟩ := Cond.arrayOver_spec h
  exact ⟨c, fun n z => ⟨fun k h => (by cases h), k, h3, comp, h4⟩, k, comp, h3, h4, h1, h5⟩
theorem start_int {s : State} {args : Array Value} (h : (Cond.arrayClass .int).before args s = true) : ∃ cA : ClassId, ArrOfT s cA .int ∧ va_RA s cA .int := by
  obtain ⟨c, k, comp, h1, h2, h3⟩ := Cond.arrayClass_spec h
  exact ⟨c, fun n z => ⟨fun k h => (by cases h), k, h2, comp, h3⟩, h1⟩
theorem start_K {s : State} {b : Nat} (hts : ∀ w ∈ lw_tbl, w.before #[Value.ref b] s = true) : ∃ (D : va_G) (ac : Nat → ClassId), va_K D cls (tysA ac) s := by
  have hTB : ∀ w ∈ TB, w.before #[Value.ref b] s = true := fun w hw => hts w (List.mem_filter.mp hw).1
  obtain ⟨c0, i0, k0⟩ := u_known hTB lays_X0 (hTB _ inst_X0)
  obtain ⟨c1, i1, k1⟩ := u_known hTB lays_X1 (hTB _ inst_X1)
  obtain ⟨c2, i2, k2⟩ := u_known hTB lays_X2 (hTB _ inst_X2)
  obtain ⟨c3, i3, k3⟩ := u_known hTB lays_X3 (hTB _ inst_X3)
  obtain ⟨c4, i4, k4⟩ := u_known hTB lays_X4 (hTB _ inst_X4)
  obtain ⟨c5, i5, k5⟩ := u_known hTB lays_X5 (hTB _ inst_X5)
  obtain ⟨c6, i6, k6⟩ := u_known hTB lays_X6 (hTB _ inst_X6)
  obtain ⟨c7, i7, k7⟩ := u_known hTB lays_X7 (hTB _ inst_X7)
  obtain ⟨c8, i8, k8⟩ := u_known hTB lays_X8 (hTB _ inst_X8)
  obtain ⟨c9, i9, k9⟩ := u_known hTB lays_X9 (hTB _ inst_X9)
  obtain ⟨a0, h0, g0⟩ := start_int (hts _ lt_3.2.2)
  obtain ⟨a1, h1, g1⟩ := start_obj (hts _ (lt_3.2.1 RX1 (by simp)))
  obtain ⟨a2, h2, g2⟩ := start_obj (hts _ (lt_3.2.1 RX7 (by simp)))
  obtain ⟨a3, h3, g3⟩ := start_obj (hts _ (lt_3.2.1 RX4 (by simp)))
  obtain ⟨a4, h4, g4⟩ := start_obj (hts _ (lt_3.2.1 RX5 (by simp)))
  refine ⟨(fun k => [c0, c1, c2, c3, c4, c5, c6, c7, c8, c9].getD k c0, fun k => [i0, i1, i2, i3, i4, i5, i6, i7, i8, i9].getD k i0), fun k => [a0, a1, a2, a3, a4].getD k a0, ?_, ?_⟩
  · intro k q hq
    match k, hq with
    | 0, hq => cases hq; exact k0
    | 1, hq => cases hq; exact k1
    | 2, hq => cases hq; exact k2
    | 3, hq => cases hq; exact k3
    | 4, hq => cases hq; exact k4
    | 5, hq => cases hq; exact k5
    | 6, hq => cases hq; exact k6
    | 7, hq => cases hq; exact k7
    | 8, hq => cases hq; exact k8
    | 9, hq => cases hq; exact k9
    | k + 10, hq => simp [cls] at hq
  · intro k q hq
    match k, hq with
    | 0, hq => cases hq; exact ⟨h0, g0⟩
    | 1, hq => cases hq; exact ⟨h1, g1⟩
    | 2, hq => cases hq; exact ⟨h2, g2⟩
    | 3, hq => cases hq; exact ⟨h3, g3⟩
    | 4, hq => cases hq; exact ⟨h4, g4⟩
    | k + 5, hq => simp [tysA] at hq

