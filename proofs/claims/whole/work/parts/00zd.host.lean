/-! THE PURE PART: copy, menBy, feed -/
theorem holds_or {σ : Mem} {q sz : Nat} (h : σ q 2 = ι sz) (hsz : sz ≤ 40) (v1 v2 : Int32) : (f_X4_holds σ q v1 v2 = ι 0 ∧ ¬ ∃ i n, i + n ≤ sz ∧ v1 = ι i ∧ v2 = ι n) ∨ (∃ i n, i + n ≤ sz ∧ v1 = ι i ∧ v2 = ι n ∧ f_X4_holds σ q v1 v2 = ι 1) := by
  unfold f_X4_holds
  rcases arg v1 with ⟨i, i1, rfl⟩ | ⟨i, i1, i2, i3⟩
  · rcases arg v2 with ⟨n, n1, rfl⟩ | ⟨n, n1, n2, n3⟩
    · by_cases c : i + n ≤ sz
      · refine Or.inr ⟨i, n, c, rfl, rfl, ?_⟩
        simp (disch := omega) only [h, ↓reduceIte, eq_self, Bool.false_eq_true, reduceCtorEq, ob_s, ob2_s, od_e, onl_n, onl_s, ι_nat, ι_add, ι_mul, ι_sub, ι_addm, lt_t, lt_f, le_t, le_f, eq_t, eq_f, inb_t, inb_f, neq_f, neq_f2, neq_nf, nlt_t, nlt_f, nle_t, nle_f, ms_at, ms_off, up_at, up_off, L0, L1, L2, L3, L4, L5, L6, L7, L8, L9, L10, L11, L12, L13, L14, L15, L16, L17, L18, L19, L20, L21, L22, L23, L24, L30, L31, L32, L40, L41, L42, L43, L45, L47, L48, L52, L57, L59, L60, L61, L63, L64, L72, L97, L99, L100, L122, L160, L161, L200, L255, L999, L1200, L1998, L99999, L100000, L1000005]
      · refine Or.inl ⟨?_, ?_⟩
        · by_cases c2 : sz < n
          · simp (disch := omega) only [h, ↓reduceIte, eq_self, Bool.false_eq_true, reduceCtorEq, ob_s, ob2_s, od_e, onl_n, onl_s, ι_nat, ι_add, ι_mul, ι_sub, ι_addm, lt_t, lt_f, le_t, le_f, eq_t, eq_f, inb_t, inb_f, neq_f, neq_f2, neq_nf, nlt_t, nlt_f, nle_t, nle_f, ms_at, ms_off, up_at, up_off, L0, L1, L2, L3, L4, L5, L6, L7, L8, L9, L10, L11, L12, L13, L14, L15, L16, L17, L18, L19, L20, L21, L22, L23, L24, L30, L31, L32, L40, L41, L42, L43, L45, L47, L48, L52, L57, L59, L60, L61, L63, L64, L72, L97, L99, L100, L122, L160, L161, L200, L255, L999, L1200, L1998, L99999, L100000, L1000005]
          · simp (disch := omega) only [h, ↓reduceIte, eq_self, Bool.false_eq_true, reduceCtorEq, ob_s, ob2_s, od_e, onl_n, onl_s, ι_nat, ι_add, ι_mul, ι_sub, ι_addm, lt_t, lt_f, le_t, le_f, eq_t, eq_f, inb_t, inb_f, neq_f, neq_f2, neq_nf, nlt_t, nlt_f, nle_t, nle_f, ms_at, ms_off, up_at, up_off, L0, L1, L2, L3, L4, L5, L6, L7, L8, L9, L10, L11, L12, L13, L14, L15, L16, L17, L18, L19, L20, L21, L22, L23, L24, L30, L31, L32, L40, L41, L42, L43, L45, L47, L48, L52, L57, L59, L60, L61, L63, L64, L72, L97, L99, L100, L122, L160, L161, L200, L255, L999, L1200, L1998, L99999, L100000, L1000005]
        · rintro ⟨a, b, c1, c2, c3⟩
          have := ι_inj i1 (by omega) c2
          have := ι_inj n1 (by omega) c3
          omega
    · have hn : ng v2 := by unfold ng; omega
      refine Or.inl ⟨?_, ?_⟩
      · simp (disch := omega) only [h, ng_lt hn, ng_le hn, ng_gt hn, ng_ge hn, ng_eq hn, ng_eq2 hn, ng_inb hn, ↓reduceIte, eq_self, Bool.false_eq_true, reduceCtorEq, ob_s, ob2_s, od_e, onl_n, onl_s, ι_nat, ι_add, ι_mul, ι_sub, ι_addm, lt_t, lt_f, le_t, le_f, eq_t, eq_f, inb_t, inb_f, neq_f, neq_f2, neq_nf, nlt_t, nlt_f, nle_t, nle_f, ms_at, ms_off, up_at, up_off, L0, L1, L2, L3, L4, L5, L6, L7, L8, L9, L10, L11, L12, L13, L14, L15, L16, L17, L18, L19, L20, L21, L22, L23, L24, L30, L31, L32, L40, L41, L42, L43, L45, L47, L48, L52, L57, L59, L60, L61, L63, L64, L72, L97, L99, L100, L122, L160, L161, L200, L255, L999, L1200, L1998, L99999, L100000, L1000005]
      · rintro ⟨a, b, c1, c2, c3⟩
        rw [c3] at hn
        unfold ng at hn
        rw [ι_int (by omega)] at hn
        omega
  · have hn : ng v1 := by unfold ng; omega
    refine Or.inl ⟨?_, ?_⟩
    · simp (disch := omega) only [h, ng_lt hn, ng_le hn, ng_gt hn, ng_ge hn, ng_eq hn, ng_eq2 hn, ng_inb hn, ↓reduceIte, eq_self, Bool.false_eq_true, reduceCtorEq, ob_s, ob2_s, od_e, onl_n, onl_s, ι_nat, ι_add, ι_mul, ι_sub, ι_addm, lt_t, lt_f, le_t, le_f, eq_t, eq_f, inb_t, inb_f, neq_f, neq_f2, neq_nf, nlt_t, nlt_f, nle_t, nle_f, ms_at, ms_off, up_at, up_off, L0, L1, L2, L3, L4, L5, L6, L7, L8, L9, L10, L11, L12, L13, L14, L15, L16, L17, L18, L19, L20, L21, L22, L23, L24, L30, L31, L32, L40, L41, L42, L43, L45, L47, L48, L52, L57, L59, L60, L61, L63, L64, L72, L97, L99, L100, L122, L160, L161, L200, L255, L999, L1200, L1998, L99999, L100000, L1000005]
    · rintro ⟨a, b, c1, c2, c3⟩
      rw [c2] at hn
      unfold ng at hn
      rw [ι_int (by omega)] at hn
      omega
theorem r_copy_up {nn a b : Nat} (h : b ≤ a) (ha : a + nn ≤ 160) (hb : b + nn ≤ 160) : ∀ d k n (τ : Mem), k + d = nn → d < n → ∃ τ', f_X9_copy_b147 (ι nn) (ι a) (ι b) n τ (ι k) = some (ι nn, τ') ∧ ∀ p j, τ' p j = if p = 11 ∧ b + k ≤ j ∧ j < b + nn then τ 11 (a + (j - b)) else τ p j := by
  intro d
  induction d with
  | zero =>
    intro k n τ hk hn
    obtain ⟨n, rfl⟩ : ∃ k, n = k + 1 := ⟨n - 1, by omega⟩
    refine ⟨τ, ?_, fun p j => by rw [if_neg (by omega)]⟩
    rw [f_X9_copy_b147, if_pos (by rw [le_t (by omega) (by omega)]; trivial)]
  | succ d ih =>
    intro k n τ hk hn
    obtain ⟨n, rfl⟩ : ∃ k, n = k + 1 := ⟨n - 1, by omega⟩
    obtain ⟨τ', g1, g2⟩ := ih (k + 1) n (ms τ 11 (b + k) (τ 11 (a + k))) (by omega) (by omega)
    refine ⟨τ', ?_, ?_⟩
    · rw [f_X9_copy_b147, if_neg (by rw [le_f (by omega) (by omega)]; exact id), if_pos (by rw [le_t h (by omega)]; trivial)]
      unfold f_X9_copy_b173
      rw [ι_add, ι_add, if_pos (inb_t (by omega) (by omega)), if_pos (inb_t (by omega) (by omega)), od_e, ι_nat (by omega), ι_nat (by omega), L1, ι_add]
      exact g1
    · intro p j
      rw [g2 p j]
      by_cases c : p = 11 ∧ b + k ≤ j ∧ j < b + nn
      · rw [if_pos c]
        by_cases c2 : j = b + k
        · rw [if_neg (by omega), ms_at c.1 c2, c2, Nat.add_sub_cancel_left]
        · rw [if_pos (by omega), ms_off (by omega)]
      · rw [if_neg c, if_neg (by omega), ms_off (by omega)]
theorem r_copy_dn {nn a b : Nat} (h : a < b) (ha : a + nn ≤ 160) (hb : b + nn ≤ 160) : ∀ d k n (τ : Mem), k + d = nn → d < n → ∃ τ', f_X9_copy_b147 (ι nn) (ι a) (ι b) n τ (ι k) = some (ι nn, τ') ∧ ∀ p j, τ' p j = if p = 11 ∧ b ≤ j ∧ j < b + d then τ 11 (a + (j - b)) else τ p j := by
  intro d
  induction d with
  | zero =>
    intro k n τ hk hn
    obtain ⟨n, rfl⟩ : ∃ k, n = k + 1 := ⟨n - 1, by omega⟩
    refine ⟨τ, ?_, fun p j => by rw [if_neg (by omega)]⟩
    rw [f_X9_copy_b147, if_pos (by rw [le_t (by omega) (by omega)]; trivial)]
  | succ d ih =>
    intro k n τ hk hn
    obtain ⟨n, rfl⟩ : ∃ k, n = k + 1 := ⟨n - 1, by omega⟩
    have e : nn - 1 - k = d := by omega
    obtain ⟨τ', g1, g2⟩ := ih (k + 1) n (ms τ 11 (b + d) (τ 11 (a + d))) (by omega) (by omega)
    refine ⟨τ', ?_, ?_⟩
    · rw [f_X9_copy_b147, if_neg (by rw [le_f (by omega) (by omega)]; exact id), if_neg (by rw [le_f h (by omega)]; exact id)]
      unfold f_X9_copy_b173
      rw [L1, ι_sub (by omega) (by omega), ι_sub (by omega) (by omega), e, ι_add, ι_add, if_pos (inb_t (by omega) (by omega)), if_pos (inb_t (by omega) (by omega)), od_e, ι_nat (by omega), ι_nat (by omega), ι_add]
      exact g1
    · intro p j
      rw [g2 p j]
      by_cases c : p = 11 ∧ b ≤ j ∧ j < b + (d + 1)
      · rw [if_pos c]
        by_cases c2 : j = b + d
        · rw [if_neg (by omega), ms_at c.1 c2, c2, Nat.add_sub_cancel_left]
        · rw [if_pos (by omega), ms_off (by omega)]
      · rw [if_neg c, if_neg (by omega), ms_off (by omega)]
theorem r_copyT {nn a b : Nat} (ha : a + nn ≤ 160) (hb : b + nn ≤ 160) {τ : Mem} : ∃ τ', f_X9_copy_b147 (ι nn) (ι a) (ι b) FU τ (ι 0) = some (ι nn, τ') ∧ ∀ p j, τ' p j = if p = 11 ∧ b ≤ j ∧ j < b + nn then τ 11 (a + (j - b)) else τ p j := by
  by_cases h : a < b
  · exact r_copy_dn h ha hb nn 0 FU τ (by omega) (by unfold FU; omega)
  · exact r_copy_up (by omega) ha hb nn 0 FU τ (by omega) (by unfold FU; omega)
theorem op_copy : OP_copy RR := by
  intro σ τ v1 v2 v3 v4 v5 hR
  obtain ⟨M, V, w, y, A, B, T, X, h0, hA, hB, hOX, hC, hS, hS9, hF, hCX, hFX, hI, hSh, hD⟩ := id hR
  obtain ⟨hM, hV, hw, hy⟩ := id h0
  obtain ⟨hB, hBs⟩ := id hB
  obtain ⟨a1, a2, a3, a4, a5, a6⟩ := id hC
  obtain ⟨b1, b2, b3, b4, b5, b6⟩ := id hF
  have hT := hOX.2.1
  have c1 := hCX.1
  have f1 := hFX.1
  unfold f_X8_copy f_X9_copy
  rcases argN 4 v1 with ⟨s, s1, s2, rfl⟩ | g1
  · obtain ⟨so, sz, ce, hN⟩ := ShN_of hSh s1
    obtain ⟨h0', h1, h2, h3, h4, h5, h6, h7, h8⟩ := id hN
    rcases argN 4 v3 with ⟨o, o1, o2, rfl⟩ | g2
    · obtain ⟨so', sz', ce', hN'⟩ := ShN_of hSh o1
      obtain ⟨q0, q1, q2, q3, q4, q5, q6, q7, q8⟩ := id hN'
      by_cases hz : so = 0
      · refine ⟨-ι 11, σ, τ, ?_, ?_, hR, rfl⟩
        · simp (disch := omega) only [c_sheetAt s1, c_sheetAt o1, h3, pl_0 hz, ↓reduceIte, eq_self, Bool.false_eq_true, reduceCtorEq, ob_s, ob2_s, od_e, onl_n, onl_s, ι_nat, ι_add, ι_mul, ι_sub, ι_addm, lt_t, lt_f, le_t, le_f, eq_t, eq_f, inb_t, inb_f, neq_f, neq_f2, neq_nf, nlt_t, nlt_f, nle_t, nle_f, ms_at, ms_off, up_at, up_off, L0, L1, L2, L3, L4, L5, L6, L7, L8, L9, L10, L11, L12, L13, L14, L15, L16, L17, L18, L19, L20, L21, L22, L23, L24, L30, L31, L32, L40, L41, L42, L43, L45, L47, L48, L52, L57, L59, L60, L61, L63, L64, L72, L97, L99, L100, L122, L160, L161, L200, L255, L999, L1200, L1998, L99999, L100000, L1000005]
        · simp (disch := omega) only [r_in, h5, pl_0 hz, ↓reduceIte, eq_self, Bool.false_eq_true, reduceCtorEq, ob_s, ob2_s, od_e, onl_n, onl_s, ι_nat, ι_add, ι_mul, ι_sub, ι_addm, lt_t, lt_f, le_t, le_f, eq_t, eq_f, inb_t, inb_f, neq_f, neq_f2, neq_nf, nlt_t, nlt_f, nle_t, nle_f, ms_at, ms_off, up_at, up_off, L0, L1, L2, L3, L4, L5, L6, L7, L8, L9, L10, L11, L12, L13, L14, L15, L16, L17, L18, L19, L20, L21, L22, L23, L24, L30, L31, L32, L40, L41, L42, L43, L45, L47, L48, L52, L57, L59, L60, L61, L63, L64, L72, L97, L99, L100, L122, L160, L161, L200, L255, L999, L1200, L1998, L99999, L100000, L1000005]
      · by_cases hz' : so' = 0
        · refine ⟨-ι 11, σ, τ, ?_, ?_, hR, rfl⟩
          · simp (disch := omega) only [c_sheetAt s1, c_sheetAt o1, h3, q3, pl_0 hz', pl_s (show 0 < so by omega), ↓reduceIte, eq_self, Bool.false_eq_true, reduceCtorEq, ob_s, ob2_s, od_e, onl_n, onl_s, ι_nat, ι_add, ι_mul, ι_sub, ι_addm, lt_t, lt_f, le_t, le_f, eq_t, eq_f, inb_t, inb_f, neq_f, neq_f2, neq_nf, nlt_t, nlt_f, nle_t, nle_f, ms_at, ms_off, up_at, up_off, L0, L1, L2, L3, L4, L5, L6, L7, L8, L9, L10, L11, L12, L13, L14, L15, L16, L17, L18, L19, L20, L21, L22, L23, L24, L30, L31, L32, L40, L41, L42, L43, L45, L47, L48, L52, L57, L59, L60, L61, L63, L64, L72, L97, L99, L100, L122, L160, L161, L200, L255, L999, L1200, L1998, L99999, L100000, L1000005]
          · simp (disch := omega) only [r_in, h5, q5, pl_0 hz', pl_s (show 0 < so by omega), ↓reduceIte, eq_self, Bool.false_eq_true, reduceCtorEq, ob_s, ob2_s, od_e, onl_n, onl_s, ι_nat, ι_add, ι_mul, ι_sub, ι_addm, lt_t, lt_f, le_t, le_f, eq_t, eq_f, inb_t, inb_f, neq_f, neq_f2, neq_nf, nlt_t, nlt_f, nle_t, nle_f, ms_at, ms_off, up_at, up_off, L0, L1, L2, L3, L4, L5, L6, L7, L8, L9, L10, L11, L12, L13, L14, L15, L16, L17, L18, L19, L20, L21, L22, L23, L24, L30, L31, L32, L40, L41, L42, L43, L45, L47, L48, L52, L57, L59, L60, L61, L63, L64, L72, L97, L99, L100, L122, L160, L161, L200, L255, L999, L1200, L1998, L99999, L100000, L1000005]
        · by_cases he : so = so'
          · have hp := pl_s (show 0 < so by omega)
            have hp' := pl_s (show 0 < so' by omega)
            have cl : f_X8_copy σ (ι s) v2 (ι o) v4 v5 = (if (f_X4_holds σ (67 + 2 * s) v2 v5) = 0 then some ((-2 - 10 : Int32), σ) else (if (f_X4_holds σ (67 + 2 * o) v4 v5) = 0 then some ((-2 - 10 : Int32), σ) else (if acok v2 v4 v5 40 40 then some (v5, (mcp σ (67 + 2 * s + 1) (v2.toNatClampNeg) (67 + 2 * o + 1) (v4.toNatClampNeg) (v5.toNatClampNeg))) else none))) := by
              unfold f_X8_copy
              rw [c_sheetAt s1, ob_s, c_sheetAt o1, ob_s, onl_s, onl_s, h3, q3, hp, hp', if_neg (show ¬ (ι (so - 1) = (-1 : Int32)) from of_eq_false (neq_f (b := 1) (by omega) (by omega) (by omega))), if_neg (show ¬ (ι (so' - 1) = (-1 : Int32)) from of_eq_false (neq_f (b := 1) (by omega) (by omega) (by omega))), if_pos (show ι (so - 1) = ι (so' - 1) by rw [he])]
              rfl
            have hbad : (¬ (∃ i n, i + n ≤ sz ∧ v2 = ι i ∧ v5 = ι n)) ∨ (¬ (∃ j n, j + n ≤ sz' ∧ v4 = ι j ∧ v5 = ι n)) → f_X9_copy τ (ι s) v2 (ι o) v4 v5 = some (-ι 12, τ) := by
              intro hb
              unfold f_X9_copy
              rcases arg v5 with ⟨n, n1, rfl⟩ | ⟨n, n1, n2, n3⟩
              · rcases arg v2 with ⟨i, i1, rfl⟩ | ⟨i, i1, i2, i3⟩
                · rcases arg v4 with ⟨j, j1, rfl⟩ | ⟨j, j1, j2, j3⟩
                  · have hb2 : ¬ i + n ≤ sz ∨ ¬ j + n ≤ sz' := by
                      rcases hb with h | h
                      · exact Or.inl (fun c => h ⟨i, n, c, rfl, rfl⟩)
                      · exact Or.inr (fun c => h ⟨j, n, c, rfl, rfl⟩)
                    by_cases c1 : sz < i
                    · simp (disch := omega) only [r_in, h5, q5, hp, hp', he, h6, ↓reduceIte, eq_self, Bool.false_eq_true, reduceCtorEq, ob_s, ob2_s, od_e, onl_n, onl_s, ι_nat, ι_add, ι_mul, ι_sub, ι_addm, lt_t, lt_f, le_t, le_f, eq_t, eq_f, inb_t, inb_f, neq_f, neq_f2, neq_nf, nlt_t, nlt_f, nle_t, nle_f, ms_at, ms_off, up_at, up_off, L0, L1, L2, L3, L4, L5, L6, L7, L8, L9, L10, L11, L12, L13, L14, L15, L16, L17, L18, L19, L20, L21, L22, L23, L24, L30, L31, L32, L40, L41, L42, L43, L45, L47, L48, L52, L57, L59, L60, L61, L63, L64, L72, L97, L99, L100, L122, L160, L161, L200, L255, L999, L1200, L1998, L99999, L100000, L1000005]
                    · by_cases c2 : sz' < j
                      · simp (disch := omega) only [r_in, h5, q5, hp, hp', he, h6, q6, ↓reduceIte, eq_self, Bool.false_eq_true, reduceCtorEq, ob_s, ob2_s, od_e, onl_n, onl_s, ι_nat, ι_add, ι_mul, ι_sub, ι_addm, lt_t, lt_f, le_t, le_f, eq_t, eq_f, inb_t, inb_f, neq_f, neq_f2, neq_nf, nlt_t, nlt_f, nle_t, nle_f, ms_at, ms_off, up_at, up_off, L0, L1, L2, L3, L4, L5, L6, L7, L8, L9, L10, L11, L12, L13, L14, L15, L16, L17, L18, L19, L20, L21, L22, L23, L24, L30, L31, L32, L40, L41, L42, L43, L45, L47, L48, L52, L57, L59, L60, L61, L63, L64, L72, L97, L99, L100, L122, L160, L161, L200, L255, L999, L1200, L1998, L99999, L100000, L1000005]
                      · by_cases c3 : sz - i < n
                        · simp (disch := omega) only [r_in, h5, q5, hp, hp', he, h6, q6, ↓reduceIte, eq_self, Bool.false_eq_true, reduceCtorEq, ob_s, ob2_s, od_e, onl_n, onl_s, ι_nat, ι_add, ι_mul, ι_sub, ι_addm, lt_t, lt_f, le_t, le_f, eq_t, eq_f, inb_t, inb_f, neq_f, neq_f2, neq_nf, nlt_t, nlt_f, nle_t, nle_f, ms_at, ms_off, up_at, up_off, L0, L1, L2, L3, L4, L5, L6, L7, L8, L9, L10, L11, L12, L13, L14, L15, L16, L17, L18, L19, L20, L21, L22, L23, L24, L30, L31, L32, L40, L41, L42, L43, L45, L47, L48, L52, L57, L59, L60, L61, L63, L64, L72, L97, L99, L100, L122, L160, L161, L200, L255, L999, L1200, L1998, L99999, L100000, L1000005]
                        · simp (disch := omega) only [r_in, h5, q5, hp, hp', he, h6, q6, ↓reduceIte, eq_self, Bool.false_eq_true, reduceCtorEq, ob_s, ob2_s, od_e, onl_n, onl_s, ι_nat, ι_add, ι_mul, ι_sub, ι_addm, lt_t, lt_f, le_t, le_f, eq_t, eq_f, inb_t, inb_f, neq_f, neq_f2, neq_nf, nlt_t, nlt_f, nle_t, nle_f, ms_at, ms_off, up_at, up_off, L0, L1, L2, L3, L4, L5, L6, L7, L8, L9, L10, L11, L12, L13, L14, L15, L16, L17, L18, L19, L20, L21, L22, L23, L24, L30, L31, L32, L40, L41, L42, L43, L45, L47, L48, L52, L57, L59, L60, L61, L63, L64, L72, L97, L99, L100, L122, L160, L161, L200, L255, L999, L1200, L1998, L99999, L100000, L1000005]
                  · have hn : ng v4 := by unfold ng; omega
                    simp (disch := omega) only [r_in, h5, q5, hp, hp', he, ng_lt hn, ng_le hn, ng_gt hn, ng_ge hn, ng_eq hn, ng_eq2 hn, ng_inb hn, ↓reduceIte, eq_self, Bool.false_eq_true, reduceCtorEq, ob_s, ob2_s, od_e, onl_n, onl_s, ι_nat, ι_add, ι_mul, ι_sub, ι_addm, lt_t, lt_f, le_t, le_f, eq_t, eq_f, inb_t, inb_f, neq_f, neq_f2, neq_nf, nlt_t, nlt_f, nle_t, nle_f, ms_at, ms_off, up_at, up_off, L0, L1, L2, L3, L4, L5, L6, L7, L8, L9, L10, L11, L12, L13, L14, L15, L16, L17, L18, L19, L20, L21, L22, L23, L24, L30, L31, L32, L40, L41, L42, L43, L45, L47, L48, L52, L57, L59, L60, L61, L63, L64, L72, L97, L99, L100, L122, L160, L161, L200, L255, L999, L1200, L1998, L99999, L100000, L1000005]
                · have hn : ng v2 := by unfold ng; omega
                  simp (disch := omega) only [r_in, h5, q5, hp, hp', he, ng_lt hn, ng_le hn, ng_gt hn, ng_ge hn, ng_eq hn, ng_eq2 hn, ng_inb hn, ↓reduceIte, eq_self, Bool.false_eq_true, reduceCtorEq, ob_s, ob2_s, od_e, onl_n, onl_s, ι_nat, ι_add, ι_mul, ι_sub, ι_addm, lt_t, lt_f, le_t, le_f, eq_t, eq_f, inb_t, inb_f, neq_f, neq_f2, neq_nf, nlt_t, nlt_f, nle_t, nle_f, ms_at, ms_off, up_at, up_off, L0, L1, L2, L3, L4, L5, L6, L7, L8, L9, L10, L11, L12, L13, L14, L15, L16, L17, L18, L19, L20, L21, L22, L23, L24, L30, L31, L32, L40, L41, L42, L43, L45, L47, L48, L52, L57, L59, L60, L61, L63, L64, L72, L97, L99, L100, L122, L160, L161, L200, L255, L999, L1200, L1998, L99999, L100000, L1000005]
              · have hn : ng v5 := by unfold ng; omega
                simp (disch := omega) only [r_in, h5, q5, hp, hp', he, ng_lt hn, ng_le hn, ng_gt hn, ng_ge hn, ng_eq hn, ng_eq2 hn, ng_inb hn, ↓reduceIte, eq_self, Bool.false_eq_true, reduceCtorEq, ob_s, ob2_s, od_e, onl_n, onl_s, ι_nat, ι_add, ι_mul, ι_sub, ι_addm, lt_t, lt_f, le_t, le_f, eq_t, eq_f, inb_t, inb_f, neq_f, neq_f2, neq_nf, nlt_t, nlt_f, nle_t, nle_f, ms_at, ms_off, up_at, up_off, L0, L1, L2, L3, L4, L5, L6, L7, L8, L9, L10, L11, L12, L13, L14, L15, L16, L17, L18, L19, L20, L21, L22, L23, L24, L30, L31, L32, L40, L41, L42, L43, L45, L47, L48, L52, L57, L59, L60, L61, L63, L64, L72, L97, L99, L100, L122, L160, L161, L200, L255, L999, L1200, L1998, L99999, L100000, L1000005]
            rcases holds_or h4 h2 v2 v5 with ⟨w1, w2⟩ | ⟨i, n, w1, rfl, rfl, w4⟩
            · refine ⟨-ι 12, σ, τ, ?_, hbad (Or.inl w2), hR, rfl⟩
              refine Eq.trans cl ?_
              rw [w1, if_pos (show ι 0 = (0 : Int32) from rfl)]
              rfl
            · rcases holds_or q4 q2 v4 (ι n) with ⟨u1, u2⟩ | ⟨j, n', u1, rfl, u3, u4⟩
              · refine ⟨-ι 12, σ, τ, ?_, hbad (Or.inr u2), hR, rfl⟩
                refine Eq.trans cl ?_
                rw [w4, if_neg (by decide), u1, if_pos (show ι 0 = (0 : Int32) from rfl)]
                rfl
              · have hn' := ι_inj (by omega) (by omega) u3
                subst hn'
                have hac : acok (ι i) (ι j) (ι n) 40 40 = true := by
                  unfold acok
                  rw [L0, ι_nat (by omega), ι_nat (by omega), ι_nat (by omega), decide_eq_true (show ι 0 ≤ ι i by rw [le_t (by omega) (by omega)]; trivial), decide_eq_true (show ι 0 ≤ ι j by rw [le_t (by omega) (by omega)]; trivial), decide_eq_true (show ι 0 ≤ ι n by rw [le_t (by omega) (by omega)]; trivial), decide_eq_true (show i + n ≤ 40 by omega), decide_eq_true (show j + n ≤ 40 by omega)]
                  rfl
                obtain ⟨τ', r1, r2⟩ := r_copyT (nn := n) (a := 40 * s + i) (b := 40 * o + j) (τ := τ) (by omega) (by omega)
                refine ⟨ι n, mcp σ (67 + 2 * s + 1) i (67 + 2 * o + 1) j n, τ', ?_, ?_, ?_⟩
                · refine Eq.trans cl ?_
                  rw [w4, if_neg (by decide), u4, if_neg (by decide), if_pos hac, ι_nat (by omega), ι_nat (by omega), ι_nat (by omega)]
                · simp (disch := omega) only [r_in, h5, q5, hp, hp', he, h6, q6, r1, ↓reduceIte, eq_self, Bool.false_eq_true, reduceCtorEq, ob_s, ob2_s, od_e, onl_n, onl_s, ι_nat, ι_add, ι_mul, ι_sub, ι_addm, lt_t, lt_f, le_t, le_f, eq_t, eq_f, inb_t, inb_f, neq_f, neq_f2, neq_nf, nlt_t, nlt_f, nle_t, nle_f, ms_at, ms_off, up_at, up_off, L0, L1, L2, L3, L4, L5, L6, L7, L8, L9, L10, L11, L12, L13, L14, L15, L16, L17, L18, L19, L20, L21, L22, L23, L24, L30, L31, L32, L40, L41, L42, L43, L45, L47, L48, L52, L57, L59, L60, L61, L63, L64, L72, L97, L99, L100, L122, L160, L161, L200, L255, L999, L1200, L1998, L99999, L100000, L1000005]
                · have em : ∀ p q, mcp σ (67 + 2 * s + 1) i (67 + 2 * o + 1) j n p q = if p = 68 + 2 * o ∧ j ≤ q ∧ q < j + n then σ (68 + 2 * s) (i + (q - j)) else σ p q := by
                    intro p q
                    unfold mcp va_cpy
                    by_cases c : p = 68 + 2 * o
                    · rw [if_pos (by omega)]
                      show (if j ≤ q ∧ q < j + n then σ (67 + 2 * s + 1) (i + (q - j)) else σ (67 + 2 * o + 1) q) = _
                      rw [show 67 + 2 * s + 1 = 68 + 2 * s by omega, show 67 + 2 * o + 1 = 68 + 2 * o by omega]
                      by_cases c2 : j ≤ q ∧ q < j + n
                      · rw [if_pos c2, if_pos ⟨c, c2⟩]
                      · rw [if_neg c2, if_neg (fun h => c2 h.2), c]
                    · rw [if_neg (by omega), if_neg (by omega)]
                  refine RR_sh hR (fun k j c1 c2 => by rw [em, if_neg (by omega)]) (fun k j c1 c2 => by rw [r2, if_neg (by omega)]) (SRel_at (s := o) (so := so') (sz := sz') (ce := fun q => if j ≤ q ∧ q < j + n then ce (i + (q - j)) else ce' q) hSh ⟨o1, q1, q2, ?_, ?_, ?_, ?_, ?_, ?_⟩ ?_ ?_ ?_)
                  · rw [em, if_neg (by omega)]; exact q3
                  · rw [em, if_neg (by omega)]; exact q4
                  · rw [r2, if_neg (by omega)]; exact q5
                  · rw [r2, if_neg (by omega)]; exact q6
                  · intro q hq
                    rw [em]
                    by_cases c : j ≤ q ∧ q < j + n
                    · rw [if_pos ⟨rfl, c⟩, h7 _ (by omega)]
                      exact (if_pos c).symm
                    · rw [if_neg (fun h => c h.2), q7 _ hq]
                      exact (if_neg c).symm
                  · intro q hq
                    rw [r2]
                    by_cases c : j ≤ q ∧ q < j + n
                    · rw [if_pos (by omega), show 40 * s + i + (40 * o + q - (40 * o + j)) = 40 * s + (i + (q - j)) by omega, h8 _ (by omega)]
                      exact (if_pos c).symm
                    · rw [if_neg (by omega), q8 _ hq]
                      exact (if_neg c).symm
                  · intro k j c1 c2 c3 c4
                    rw [em, if_neg (by omega)]
                  · intro k j c1 c2 c3
                    rw [r2, if_neg (by omega)]
                  · intro q c
                    rw [r2, if_neg (by omega)]
          · refine ⟨-ι 13, σ, τ, ?_, ?_, hR, rfl⟩
            · simp (disch := omega) only [c_sheetAt s1, c_sheetAt o1, h3, q3, pl_s (show 0 < so' by omega), pl_s (show 0 < so by omega), ↓reduceIte, eq_self, Bool.false_eq_true, reduceCtorEq, ob_s, ob2_s, od_e, onl_n, onl_s, ι_nat, ι_add, ι_mul, ι_sub, ι_addm, lt_t, lt_f, le_t, le_f, eq_t, eq_f, inb_t, inb_f, neq_f, neq_f2, neq_nf, nlt_t, nlt_f, nle_t, nle_f, ms_at, ms_off, up_at, up_off, L0, L1, L2, L3, L4, L5, L6, L7, L8, L9, L10, L11, L12, L13, L14, L15, L16, L17, L18, L19, L20, L21, L22, L23, L24, L30, L31, L32, L40, L41, L42, L43, L45, L47, L48, L52, L57, L59, L60, L61, L63, L64, L72, L97, L99, L100, L122, L160, L161, L200, L255, L999, L1200, L1998, L99999, L100000, L1000005]
            · simp (disch := omega) only [r_in, h5, q5, pl_s (show 0 < so' by omega), pl_s (show 0 < so by omega), ↓reduceIte, eq_self, Bool.false_eq_true, reduceCtorEq, ob_s, ob2_s, od_e, onl_n, onl_s, ι_nat, ι_add, ι_mul, ι_sub, ι_addm, lt_t, lt_f, le_t, le_f, eq_t, eq_f, inb_t, inb_f, neq_f, neq_f2, neq_nf, nlt_t, nlt_f, nle_t, nle_f, ms_at, ms_off, up_at, up_off, L0, L1, L2, L3, L4, L5, L6, L7, L8, L9, L10, L11, L12, L13, L14, L15, L16, L17, L18, L19, L20, L21, L22, L23, L24, L30, L31, L32, L40, L41, L42, L43, L45, L47, L48, L52, L57, L59, L60, L61, L63, L64, L72, L97, L99, L100, L122, L160, L161, L200, L255, L999, L1200, L1998, L99999, L100000, L1000005]
    · refine ⟨-ι 2, σ, τ, ?_, ?_, hR, rfl⟩
      · simp (disch := omega) only [c_sheetAt s1, c_sheetNo g2, ↓reduceIte, eq_self, Bool.false_eq_true, reduceCtorEq, ob_s, ob2_s, od_e, onl_n, onl_s, ι_nat, ι_add, ι_mul, ι_sub, ι_addm, lt_t, lt_f, le_t, le_f, eq_t, eq_f, inb_t, inb_f, neq_f, neq_f2, neq_nf, nlt_t, nlt_f, nle_t, nle_f, ms_at, ms_off, up_at, up_off, L0, L1, L2, L3, L4, L5, L6, L7, L8, L9, L10, L11, L12, L13, L14, L15, L16, L17, L18, L19, L20, L21, L22, L23, L24, L30, L31, L32, L40, L41, L42, L43, L45, L47, L48, L52, L57, L59, L60, L61, L63, L64, L72, L97, L99, L100, L122, L160, L161, L200, L255, L999, L1200, L1998, L99999, L100000, L1000005]
      · simp (disch := omega) only [r_in, outN_in (n := 3) (by omega) g2, ↓reduceIte, eq_self, Bool.false_eq_true, reduceCtorEq, ob_s, ob2_s, od_e, onl_n, onl_s, ι_nat, ι_add, ι_mul, ι_sub, ι_addm, lt_t, lt_f, le_t, le_f, eq_t, eq_f, inb_t, inb_f, neq_f, neq_f2, neq_nf, nlt_t, nlt_f, nle_t, nle_f, ms_at, ms_off, up_at, up_off, L0, L1, L2, L3, L4, L5, L6, L7, L8, L9, L10, L11, L12, L13, L14, L15, L16, L17, L18, L19, L20, L21, L22, L23, L24, L30, L31, L32, L40, L41, L42, L43, L45, L47, L48, L52, L57, L59, L60, L61, L63, L64, L72, L97, L99, L100, L122, L160, L161, L200, L255, L999, L1200, L1998, L99999, L100000, L1000005]
  · refine ⟨-ι 2, σ, τ, ?_, ?_, hR, rfl⟩
    · rcases argN 4 v3 with ⟨o, o1, o2, rfl⟩ | g2
      · simp (disch := omega) only [c_sheetNo g1, c_sheetAt o1, ↓reduceIte, eq_self, Bool.false_eq_true, reduceCtorEq, ob_s, ob2_s, od_e, onl_n, onl_s, ι_nat, ι_add, ι_mul, ι_sub, ι_addm, lt_t, lt_f, le_t, le_f, eq_t, eq_f, inb_t, inb_f, neq_f, neq_f2, neq_nf, nlt_t, nlt_f, nle_t, nle_f, ms_at, ms_off, up_at, up_off, L0, L1, L2, L3, L4, L5, L6, L7, L8, L9, L10, L11, L12, L13, L14, L15, L16, L17, L18, L19, L20, L21, L22, L23, L24, L30, L31, L32, L40, L41, L42, L43, L45, L47, L48, L52, L57, L59, L60, L61, L63, L64, L72, L97, L99, L100, L122, L160, L161, L200, L255, L999, L1200, L1998, L99999, L100000, L1000005]
      · simp (disch := omega) only [c_sheetNo g1, c_sheetNo g2, ↓reduceIte, eq_self, Bool.false_eq_true, reduceCtorEq, ob_s, ob2_s, od_e, onl_n, onl_s, ι_nat, ι_add, ι_mul, ι_sub, ι_addm, lt_t, lt_f, le_t, le_f, eq_t, eq_f, inb_t, inb_f, neq_f, neq_f2, neq_nf, nlt_t, nlt_f, nle_t, nle_f, ms_at, ms_off, up_at, up_off, L0, L1, L2, L3, L4, L5, L6, L7, L8, L9, L10, L11, L12, L13, L14, L15, L16, L17, L18, L19, L20, L21, L22, L23, L24, L30, L31, L32, L40, L41, L42, L43, L45, L47, L48, L52, L57, L59, L60, L61, L63, L64, L72, L97, L99, L100, L122, L160, L161, L200, L255, L999, L1200, L1998, L99999, L100000, L1000005]
    · simp (disch := omega) only [outN_in (n := 3) (by omega) g1, ↓reduceIte, eq_self, Bool.false_eq_true, reduceCtorEq, ob_s, ob2_s, od_e, onl_n, onl_s, ι_nat, ι_add, ι_mul, ι_sub, ι_addm, lt_t, lt_f, le_t, le_f, eq_t, eq_f, inb_t, inb_f, neq_f, neq_f2, neq_nf, nlt_t, nlt_f, nle_t, nle_f, ms_at, ms_off, up_at, up_off, L0, L1, L2, L3, L4, L5, L6, L7, L8, L9, L10, L11, L12, L13, L14, L15, L16, L17, L18, L19, L20, L21, L22, L23, L24, L30, L31, L32, L40, L41, L42, L43, L45, L47, L48, L52, L57, L59, L60, L61, L63, L64, L72, L97, L99, L100, L122, L160, L161, L200, L255, L999, L1200, L1998, L99999, L100000, L1000005]
