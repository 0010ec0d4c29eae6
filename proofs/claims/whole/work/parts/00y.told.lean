/-! THE PURE PART: told clippings -/
theorem c_sheetAt {s : Nat} {σ : Mem} (hs : s < 4) : f_X8_sheetAt σ (ι s) = some (some (67 + 2 * s)) := by
  unfold f_X8_sheetAt
  simp (disch := omega) only [↓reduceIte, eq_self, Bool.false_eq_true, reduceCtorEq, ob_s, ob2_s, od_e, onl_n, onl_s, ι_nat, ι_add, ι_mul, ι_sub, ι_addm, lt_t, lt_f, le_t, le_f, eq_t, eq_f, inb_t, inb_f, neq_f, neq_f2, neq_nf, nlt_t, nlt_f, nle_t, nle_f, ms_at, ms_off, up_at, up_off, L0, L1, L2, L3, L4, L5, L6, L7, L8, L9, L10, L11, L12, L13, L14, L15, L16, L17, L18, L19, L20, L21, L22, L23, L24, L30, L31, L32, L40, L41, L42, L43, L45, L47, L48, L52, L57, L59, L60, L61, L63, L64, L72, L97, L99, L100, L122, L160, L161, L200, L255, L999, L1200, L1998, L99999, L100000, L1000005]
theorem c_sheetNo {x : Int32} {σ : Mem} (h : outN 4 x) : f_X8_sheetAt σ x = some none := by
  unfold f_X8_sheetAt
  rcases h with g | ⟨k, k1, k2, rfl⟩
  · simp (disch := omega) only [ng_lt g, ng_le g, ng_gt g, ng_ge g, ng_eq g, ng_eq2 g, ng_inb g, ↓reduceIte, eq_self, Bool.false_eq_true, reduceCtorEq, ob_s, ob2_s, od_e, onl_n, onl_s, ι_nat, ι_add, ι_mul, ι_sub, ι_addm, lt_t, lt_f, le_t, le_f, eq_t, eq_f, inb_t, inb_f, neq_f, neq_f2, neq_nf, nlt_t, nlt_f, nle_t, nle_f, ms_at, ms_off, up_at, up_off, L0, L1, L2, L3, L4, L5, L6, L7, L8, L9, L10, L11, L12, L13, L14, L15, L16, L17, L18, L19, L20, L21, L22, L23, L24, L30, L31, L32, L40, L41, L42, L43, L45, L47, L48, L52, L57, L59, L60, L61, L63, L64, L72, L97, L99, L100, L122, L160, L161, L200, L255, L999, L1200, L1998, L99999, L100000, L1000005]
  · simp (disch := omega) only [↓reduceIte, eq_self, Bool.false_eq_true, reduceCtorEq, ob_s, ob2_s, od_e, onl_n, onl_s, ι_nat, ι_add, ι_mul, ι_sub, ι_addm, lt_t, lt_f, le_t, le_f, eq_t, eq_f, inb_t, inb_f, neq_f, neq_f2, neq_nf, nlt_t, nlt_f, nle_t, nle_f, ms_at, ms_off, up_at, up_off, L0, L1, L2, L3, L4, L5, L6, L7, L8, L9, L10, L11, L12, L13, L14, L15, L16, L17, L18, L19, L20, L21, L22, L23, L24, L30, L31, L32, L40, L41, L42, L43, L45, L47, L48, L52, L57, L59, L60, L61, L63, L64, L72, L97, L99, L100, L122, L160, L161, L200, L255, L999, L1200, L1998, L99999, L100000, L1000005]
/-- sheet s is there, of sort so - 1, of sz numbers ce -/
def ShN (s so sz : Nat) (ce : Nat → Int32) (σ τ : Mem) : Prop := s < 4 ∧ so ≤ 3 ∧ sz ≤ 40 ∧ σ (67 + 2 * s) 1 = pl so ∧ σ (67 + 2 * s) 2 = ι sz ∧ τ 9 s = pl so ∧ τ 10 s = ι sz ∧ (∀ j, j < 40 → σ (68 + 2 * s) j = ce j) ∧ (∀ j, j < 40 → τ 11 (40 * s + j) = ce j)
theorem ShN_of {σ τ : Mem} (h : SRel σ τ) {s : Nat} (hs : s < 4) : ∃ so sz ce, ShN s so sz ce σ τ := by
  obtain ⟨so, sz, q1, q2, q3, q4, q5, q6, q7⟩ := h s hs
  exact ⟨so, sz, fun j => σ (68 + 2 * s) j, hs, q1, q2, q3, q4, q5, q6, fun _ _ => rfl, fun j hj => (q7 j hj).symm⟩
theorem ShN_sc {s so sz : Nat} {ce : Nat → Int32} {σ τ σ' τ' : Mem} (h : ShN s so sz ce σ τ) (hc : ∀ k j, 67 ≤ k → k < 75 → σ' k j = σ k j) (hr : ∀ k j, 9 ≤ k → k ≤ 11 → τ' k j = τ k j) : ShN s so sz ce σ' τ' := by
  obtain ⟨h0, h1, h2, h3, h4, h5, h6, h7, h8⟩ := h
  refine ⟨h0, h1, h2, ?_, ?_, ?_, ?_, ?_, ?_⟩
  · rw [hc _ _ (by omega) (by omega)]; exact h3
  · rw [hc _ _ (by omega) (by omega)]; exact h4
  · rw [hr _ _ (by omega) (by omega)]; exact h5
  · rw [hr _ _ (by omega) (by omega)]; exact h6
  · intro j hj
    rw [hc _ _ (by omega) (by omega)]; exact h7 j hj
  · intro j hj
    rw [hr _ _ (by omega) (by omega)]; exact h8 j hj
theorem refusal_ {σ τ : Mem} (hSh : SRel σ τ) (v1 : Int32) : (∃ n, 0 < n ∧ n < 100 ∧ f_X8_refusalOf_ σ v1 = some (-ι n) ∧ (n = 2 ∧ outN 4 v1 ∨ n = 11 ∧ ∃ s, s < 4 ∧ v1 = ι s ∧ τ 9 s = -ι 1)) ∨ (∃ s so sz ce, v1 = ι s ∧ ShN s so sz ce σ τ ∧ 0 < so ∧ f_X8_refusalOf_ σ v1 = some (ι 0)) := by
  unfold f_X8_refusalOf_
  rcases argN 4 v1 with ⟨s, s1, s2, rfl⟩ | g
  · obtain ⟨so, sz, ce, hN⟩ := ShN_of hSh s1
    obtain ⟨h0, h1, h2, h3, h4, h5, h6, h7, h8⟩ := id hN
    by_cases hz : so = 0
    · refine Or.inl ⟨11, by decide, by decide, ?_, Or.inr ⟨rfl, s, s1, rfl, by rw [h5, pl_0 hz]⟩⟩
      simp (disch := omega) only [c_sheetAt s1, h3, pl_0 hz, ↓reduceIte, eq_self, Bool.false_eq_true, reduceCtorEq, ob_s, ob2_s, od_e, onl_n, onl_s, ι_nat, ι_add, ι_mul, ι_sub, ι_addm, lt_t, lt_f, le_t, le_f, eq_t, eq_f, inb_t, inb_f, neq_f, neq_f2, neq_nf, nlt_t, nlt_f, nle_t, nle_f, ms_at, ms_off, up_at, up_off, L0, L1, L2, L3, L4, L5, L6, L7, L8, L9, L10, L11, L12, L13, L14, L15, L16, L17, L18, L19, L20, L21, L22, L23, L24, L30, L31, L32, L40, L41, L42, L43, L45, L47, L48, L52, L57, L59, L60, L61, L63, L64, L72, L97, L99, L100, L122, L160, L161, L200, L255, L999, L1200, L1998, L99999, L100000, L1000005]
    · refine Or.inr ⟨s, so, sz, ce, rfl, hN, by omega, ?_⟩
      simp (disch := omega) only [c_sheetAt s1, h3, pl_s (show 0 < so by omega), ↓reduceIte, eq_self, Bool.false_eq_true, reduceCtorEq, ob_s, ob2_s, od_e, onl_n, onl_s, ι_nat, ι_add, ι_mul, ι_sub, ι_addm, lt_t, lt_f, le_t, le_f, eq_t, eq_f, inb_t, inb_f, neq_f, neq_f2, neq_nf, nlt_t, nlt_f, nle_t, nle_f, ms_at, ms_off, up_at, up_off, L0, L1, L2, L3, L4, L5, L6, L7, L8, L9, L10, L11, L12, L13, L14, L15, L16, L17, L18, L19, L20, L21, L22, L23, L24, L30, L31, L32, L40, L41, L42, L43, L45, L47, L48, L52, L57, L59, L60, L61, L63, L64, L72, L97, L99, L100, L122, L160, L161, L200, L255, L999, L1200, L1998, L99999, L100000, L1000005]
  · refine Or.inl ⟨2, by decide, by decide, ?_, Or.inl ⟨rfl, g⟩⟩
    simp (disch := omega) only [c_sheetNo g, ↓reduceIte, eq_self, Bool.false_eq_true, reduceCtorEq, ob_s, ob2_s, od_e, onl_n, onl_s, ι_nat, ι_add, ι_mul, ι_sub, ι_addm, lt_t, lt_f, le_t, le_f, eq_t, eq_f, inb_t, inb_f, neq_f, neq_f2, neq_nf, nlt_t, nlt_f, nle_t, nle_f, ms_at, ms_off, up_at, up_off, L0, L1, L2, L3, L4, L5, L6, L7, L8, L9, L10, L11, L12, L13, L14, L15, L16, L17, L18, L19, L20, L21, L22, L23, L24, L30, L31, L32, L40, L41, L42, L43, L45, L47, L48, L52, L57, L59, L60, L61, L63, L64, L72, L97, L99, L100, L122, L160, L161, L200, L255, L999, L1200, L1998, L99999, L100000, L1000005]
theorem refusal {σ τ : Mem} {M : Nat} (hSh : SRel σ τ) (hM : M ≤ 6) (a1 : σ 15 3 = ι M) (b1 : τ 0 0 = ι M) (v1 v2 : Int32) : (∃ n, 0 < n ∧ n < 100 ∧ f_X8_refusalOf σ v1 v2 = some (-ι n) ∧ f_X9_toldWrong τ v1 v2 = some (-ι n)) ∨ (∃ s so sz ce i, v1 = ι s ∧ v2 = ι i ∧ i < M ∧ ShN s so sz ce σ τ ∧ f_X8_refusalOf σ v1 v2 = some (ι 0) ∧ f_X9_toldWrong τ v1 v2 = some (ι 0)) := by
  unfold f_X8_refusalOf f_X9_toldWrong
  rcases refusal_ hSh v1 with ⟨n, n1, n2, n3, n4⟩ | ⟨s, so, sz, ce, rfl, hN, hso, n3⟩
  · refine Or.inl ⟨n, n1, n2, ?_, ?_⟩
    · simp (disch := omega) only [n3, ↓reduceIte, eq_self, Bool.false_eq_true, reduceCtorEq, ob_s, ob2_s, od_e, onl_n, onl_s, ι_nat, ι_add, ι_mul, ι_sub, ι_addm, lt_t, lt_f, le_t, le_f, eq_t, eq_f, inb_t, inb_f, neq_f, neq_f2, neq_nf, nlt_t, nlt_f, nle_t, nle_f, ms_at, ms_off, up_at, up_off, L0, L1, L2, L3, L4, L5, L6, L7, L8, L9, L10, L11, L12, L13, L14, L15, L16, L17, L18, L19, L20, L21, L22, L23, L24, L30, L31, L32, L40, L41, L42, L43, L45, L47, L48, L52, L57, L59, L60, L61, L63, L64, L72, L97, L99, L100, L122, L160, L161, L200, L255, L999, L1200, L1998, L99999, L100000, L1000005]
    · rcases n4 with ⟨rfl, g⟩ | ⟨rfl, s, s1, rfl, s3⟩
      · simp (disch := omega) only [outN_in (n := 3) (by omega) g, ↓reduceIte, eq_self, Bool.false_eq_true, reduceCtorEq, ob_s, ob2_s, od_e, onl_n, onl_s, ι_nat, ι_add, ι_mul, ι_sub, ι_addm, lt_t, lt_f, le_t, le_f, eq_t, eq_f, inb_t, inb_f, neq_f, neq_f2, neq_nf, nlt_t, nlt_f, nle_t, nle_f, ms_at, ms_off, up_at, up_off, L0, L1, L2, L3, L4, L5, L6, L7, L8, L9, L10, L11, L12, L13, L14, L15, L16, L17, L18, L19, L20, L21, L22, L23, L24, L30, L31, L32, L40, L41, L42, L43, L45, L47, L48, L52, L57, L59, L60, L61, L63, L64, L72, L97, L99, L100, L122, L160, L161, L200, L255, L999, L1200, L1998, L99999, L100000, L1000005]
      · simp (disch := omega) only [r_in, s3, ↓reduceIte, eq_self, Bool.false_eq_true, reduceCtorEq, ob_s, ob2_s, od_e, onl_n, onl_s, ι_nat, ι_add, ι_mul, ι_sub, ι_addm, lt_t, lt_f, le_t, le_f, eq_t, eq_f, inb_t, inb_f, neq_f, neq_f2, neq_nf, nlt_t, nlt_f, nle_t, nle_f, ms_at, ms_off, up_at, up_off, L0, L1, L2, L3, L4, L5, L6, L7, L8, L9, L10, L11, L12, L13, L14, L15, L16, L17, L18, L19, L20, L21, L22, L23, L24, L30, L31, L32, L40, L41, L42, L43, L45, L47, L48, L52, L57, L59, L60, L61, L63, L64, L72, L97, L99, L100, L122, L160, L161, L200, L255, L999, L1200, L1998, L99999, L100000, L1000005]
  · obtain ⟨h0, h1, h2, h3, h4, h5, h6, h7, h8⟩ := id hN
    rcases argN M v2 with ⟨i, i1, i2, rfl⟩ | g2
    · refine Or.inr ⟨s, so, sz, ce, i, rfl, rfl, i1, hN, ?_, ?_⟩
      · simp (disch := omega) only [n3, c_manAt a1 hM i1, ↓reduceIte, eq_self, Bool.false_eq_true, reduceCtorEq, ob_s, ob2_s, od_e, onl_n, onl_s, ι_nat, ι_add, ι_mul, ι_sub, ι_addm, lt_t, lt_f, le_t, le_f, eq_t, eq_f, inb_t, inb_f, neq_f, neq_f2, neq_nf, nlt_t, nlt_f, nle_t, nle_f, ms_at, ms_off, up_at, up_off, L0, L1, L2, L3, L4, L5, L6, L7, L8, L9, L10, L11, L12, L13, L14, L15, L16, L17, L18, L19, L20, L21, L22, L23, L24, L30, L31, L32, L40, L41, L42, L43, L45, L47, L48, L52, L57, L59, L60, L61, L63, L64, L72, L97, L99, L100, L122, L160, L161, L200, L255, L999, L1200, L1998, L99999, L100000, L1000005]
      · simp (disch := omega) only [r_in, h5, pl_s hso, r_isMan b1 hM i1, ↓reduceIte, eq_self, Bool.false_eq_true, reduceCtorEq, ob_s, ob2_s, od_e, onl_n, onl_s, ι_nat, ι_add, ι_mul, ι_sub, ι_addm, lt_t, lt_f, le_t, le_f, eq_t, eq_f, inb_t, inb_f, neq_f, neq_f2, neq_nf, nlt_t, nlt_f, nle_t, nle_f, ms_at, ms_off, up_at, up_off, L0, L1, L2, L3, L4, L5, L6, L7, L8, L9, L10, L11, L12, L13, L14, L15, L16, L17, L18, L19, L20, L21, L22, L23, L24, L30, L31, L32, L40, L41, L42, L43, L45, L47, L48, L52, L57, L59, L60, L61, L63, L64, L72, L97, L99, L100, L122, L160, L161, L200, L255, L999, L1200, L1998, L99999, L100000, L1000005]
    · refine Or.inl ⟨5, by decide, by decide, ?_, ?_⟩
      · simp (disch := omega) only [n3, c_manNo a1 hM g2, ↓reduceIte, eq_self, Bool.false_eq_true, reduceCtorEq, ob_s, ob2_s, od_e, onl_n, onl_s, ι_nat, ι_add, ι_mul, ι_sub, ι_addm, lt_t, lt_f, le_t, le_f, eq_t, eq_f, inb_t, inb_f, neq_f, neq_f2, neq_nf, nlt_t, nlt_f, nle_t, nle_f, ms_at, ms_off, up_at, up_off, L0, L1, L2, L3, L4, L5, L6, L7, L8, L9, L10, L11, L12, L13, L14, L15, L16, L17, L18, L19, L20, L21, L22, L23, L24, L30, L31, L32, L40, L41, L42, L43, L45, L47, L48, L52, L57, L59, L60, L61, L63, L64, L72, L97, L99, L100, L122, L160, L161, L200, L255, L999, L1200, L1998, L99999, L100000, L1000005]
      · simp (disch := omega) only [r_in, h5, pl_s hso, r_isManNo b1 hM g2, ↓reduceIte, eq_self, Bool.false_eq_true, reduceCtorEq, ob_s, ob2_s, od_e, onl_n, onl_s, ι_nat, ι_add, ι_mul, ι_sub, ι_addm, lt_t, lt_f, le_t, le_f, eq_t, eq_f, inb_t, inb_f, neq_f, neq_f2, neq_nf, nlt_t, nlt_f, nle_t, nle_f, ms_at, ms_off, up_at, up_off, L0, L1, L2, L3, L4, L5, L6, L7, L8, L9, L10, L11, L12, L13, L14, L15, L16, L17, L18, L19, L20, L21, L22, L23, L24, L30, L31, L32, L40, L41, L42, L43, L45, L47, L48, L52, L57, L59, L60, L61, L63, L64, L72, L97, L99, L100, L122, L160, L161, L200, L255, L999, L1200, L1998, L99999, L100000, L1000005]
theorem OK1_of {M : Nat} {A : TB2} (h : OKA M A) {i : Nat} (hi : i < M) : OK1 (A i) := h i hi
theorem op_judge : OP_judge RR := by
  intro σ τ v1 v2 hR
  obtain ⟨M, V, w, y, A, B, T, X, h0, hA, hB, hOX, hC, hS, hS9, hF, hCX, hFX, hI, hSh, hD⟩ := id hR
  obtain ⟨hM, hV, hw, hy⟩ := id h0
  obtain ⟨hB, hBs⟩ := id hB
  obtain ⟨a1, a2, a3, a4, a5, a6⟩ := id hC
  obtain ⟨b1, b2, b3, b4, b5, b6⟩ := id hF
  have hT := hOX.2.1
  have c1 := hCX.1
  have f1 := hFX.1
  unfold f_X8_judge f_X9_judge
  rcases refusal hSh hM a1 b1 v1 v2 with ⟨n, n1, n2, n3, n4⟩ | ⟨s, so, sz, ce, i, rfl, rfl, i1, hN, n3, n4⟩
  · refine ⟨-ι n, σ, τ, ?_, ?_, hR, rfl⟩
    · simp (disch := omega) only [n3, ↓reduceIte, eq_self, Bool.false_eq_true, reduceCtorEq, ob_s, ob2_s, od_e, onl_n, onl_s, ι_nat, ι_add, ι_mul, ι_sub, ι_addm, lt_t, lt_f, le_t, le_f, eq_t, eq_f, inb_t, inb_f, neq_f, neq_f2, neq_nf, nlt_t, nlt_f, nle_t, nle_f, ms_at, ms_off, up_at, up_off, L0, L1, L2, L3, L4, L5, L6, L7, L8, L9, L10, L11, L12, L13, L14, L15, L16, L17, L18, L19, L20, L21, L22, L23, L24, L30, L31, L32, L40, L41, L42, L43, L45, L47, L48, L52, L57, L59, L60, L61, L63, L64, L72, L97, L99, L100, L122, L160, L161, L200, L255, L999, L1200, L1998, L99999, L100000, L1000005]
    · simp (disch := omega) only [n4, ↓reduceIte, eq_self, Bool.false_eq_true, reduceCtorEq, ob_s, ob2_s, od_e, onl_n, onl_s, ι_nat, ι_add, ι_mul, ι_sub, ι_addm, lt_t, lt_f, le_t, le_f, eq_t, eq_f, inb_t, inb_f, neq_f, neq_f2, neq_nf, nlt_t, nlt_f, nle_t, nle_f, ms_at, ms_off, up_at, up_off, L0, L1, L2, L3, L4, L5, L6, L7, L8, L9, L10, L11, L12, L13, L14, L15, L16, L17, L18, L19, L20, L21, L22, L23, L24, L30, L31, L32, L40, L41, L42, L43, L45, L47, L48, L52, L57, L59, L60, L61, L63, L64, L72, L97, L99, L100, L122, L160, L161, L200, L255, L999, L1200, L1998, L99999, L100000, L1000005]
  · obtain ⟨h0', h1, h2, h3, h4, h5, h6, h7, h8⟩ := id hN
    obtain ⟨σ', s1, s2⟩ := c_other (ce := ce) hM hV hC hB hCX hOX h0' h2 i1 hy (show 15 + 3 + i ≠ 75 by omega) (MC_of a5 i1) (OK1_of hA i1) (show w < 10000 by omega) h4 h7
    obtain ⟨τ', t1, t2⟩ := r_unlike (ce := ce) hFX hOX hF hA hB hM hV h0' h2 hy i1 (show w < 10000 by omega) h6 h8
    refine ⟨pl (unlN X y (A i) w (owedN V B i) sz ce), σ', τ', ?_, ?_, RR_eq hR s2.sc t2⟩
    · simp (disch := omega) only [n3, c_sheetAt h0', c_manAt a1 hM i1, a3, a4, s1, ↓reduceIte, eq_self, Bool.false_eq_true, reduceCtorEq, ob_s, ob2_s, od_e, onl_n, onl_s, ι_nat, ι_add, ι_mul, ι_sub, ι_addm, lt_t, lt_f, le_t, le_f, eq_t, eq_f, inb_t, inb_f, neq_f, neq_f2, neq_nf, nlt_t, nlt_f, nle_t, nle_f, ms_at, ms_off, up_at, up_off, L0, L1, L2, L3, L4, L5, L6, L7, L8, L9, L10, L11, L12, L13, L14, L15, L16, L17, L18, L19, L20, L21, L22, L23, L24, L30, L31, L32, L40, L41, L42, L43, L45, L47, L48, L52, L57, L59, L60, L61, L63, L64, L72, L97, L99, L100, L122, L160, L161, L200, L255, L999, L1200, L1998, L99999, L100000, L1000005]
    · simp (disch := omega) only [n4, t1, ↓reduceIte, eq_self, Bool.false_eq_true, reduceCtorEq, ob_s, ob2_s, od_e, onl_n, onl_s, ι_nat, ι_add, ι_mul, ι_sub, ι_addm, lt_t, lt_f, le_t, le_f, eq_t, eq_f, inb_t, inb_f, neq_f, neq_f2, neq_nf, nlt_t, nlt_f, nle_t, nle_f, ms_at, ms_off, up_at, up_off, L0, L1, L2, L3, L4, L5, L6, L7, L8, L9, L10, L11, L12, L13, L14, L15, L16, L17, L18, L19, L20, L21, L22, L23, L24, L30, L31, L32, L40, L41, L42, L43, L45, L47, L48, L52, L57, L59, L60, L61, L63, L64, L72, L97, L99, L100, L122, L160, L161, L200, L255, L999, L1200, L1998, L99999, L100000, L1000005]
theorem pl_neg {n : Nat} (hn : n < 1000) : (pl n = -ι 1) = (n = 0) := by
  by_cases h : n = 0
  · rw [pl_0 h]
    simp [h]
  · rw [pl_s (by omega), neq_f (by omega) (by omega) (by omega)]
    simp [h]
theorem unlN_le {X : XT} {y w ow sz : Nat} {a : Nat → Nat} {ce : Nat → Int32} : unlN X y a w ow sz ce ≤ sz := by
  have := firstN_le (P := fun j => decide (ce j ≠ ι (bdN X y a w ow (j + 1)))) sz 0
  unfold unlN
  omega
theorem or_z (x : Int32) : x ||| ι 0 = x := Int32.or_zero
theorem or_zl (x : Int64) : x ||| (0 : Int64) = x := Int64.or_zero
theorem op_whose : OP_whose RR := by
  intro σ τ v1 hR
  obtain ⟨M, V, w, y, A, B, T, X, h0, hA, hB, hOX, hC, hS, hS9, hF, hCX, hFX, hI, hSh, hD⟩ := id hR
  obtain ⟨hM, hV, hw, hy⟩ := id h0
  obtain ⟨hB, hBs⟩ := id hB
  obtain ⟨a1, a2, a3, a4, a5, a6⟩ := id hC
  obtain ⟨b1, b2, b3, b4, b5, b6⟩ := id hF
  have hT := hOX.2.1
  have c1 := hCX.1
  have f1 := hFX.1
  unfold f_X8_whose f_X9_whose
  rcases refusal_ hSh v1 with ⟨n, n1, n2, n3, n4⟩ | ⟨s, so, sz, ce, rfl, hN, hso, n3⟩
  · refine ⟨-ι n, σ, τ, ?_, ?_, hR, rfl⟩
    · simp (disch := omega) only [n3, ↓reduceIte, eq_self, Bool.false_eq_true, reduceCtorEq, ob_s, ob2_s, od_e, onl_n, onl_s, ι_nat, ι_add, ι_mul, ι_sub, ι_addm, lt_t, lt_f, le_t, le_f, eq_t, eq_f, inb_t, inb_f, neq_f, neq_f2, neq_nf, nlt_t, nlt_f, nle_t, nle_f, ms_at, ms_off, up_at, up_off, L0, L1, L2, L3, L4, L5, L6, L7, L8, L9, L10, L11, L12, L13, L14, L15, L16, L17, L18, L19, L20, L21, L22, L23, L24, L30, L31, L32, L40, L41, L42, L43, L45, L47, L48, L52, L57, L59, L60, L61, L63, L64, L72, L97, L99, L100, L122, L160, L161, L200, L255, L999, L1200, L1998, L99999, L100000, L1000005]
    · rcases n4 with ⟨rfl, g⟩ | ⟨rfl, s, s1, rfl, s3⟩
      · simp (disch := omega) only [outN_in (n := 3) (by omega) g, ↓reduceIte, eq_self, Bool.false_eq_true, reduceCtorEq, ob_s, ob2_s, od_e, onl_n, onl_s, ι_nat, ι_add, ι_mul, ι_sub, ι_addm, lt_t, lt_f, le_t, le_f, eq_t, eq_f, inb_t, inb_f, neq_f, neq_f2, neq_nf, nlt_t, nlt_f, nle_t, nle_f, ms_at, ms_off, up_at, up_off, L0, L1, L2, L3, L4, L5, L6, L7, L8, L9, L10, L11, L12, L13, L14, L15, L16, L17, L18, L19, L20, L21, L22, L23, L24, L30, L31, L32, L40, L41, L42, L43, L45, L47, L48, L52, L57, L59, L60, L61, L63, L64, L72, L97, L99, L100, L122, L160, L161, L200, L255, L999, L1200, L1998, L99999, L100000, L1000005]
      · simp (disch := omega) only [r_in, s3, ↓reduceIte, eq_self, Bool.false_eq_true, reduceCtorEq, ob_s, ob2_s, od_e, onl_n, onl_s, ι_nat, ι_add, ι_mul, ι_sub, ι_addm, lt_t, lt_f, le_t, le_f, eq_t, eq_f, inb_t, inb_f, neq_f, neq_f2, neq_nf, nlt_t, nlt_f, nle_t, nle_f, ms_at, ms_off, up_at, up_off, L0, L1, L2, L3, L4, L5, L6, L7, L8, L9, L10, L11, L12, L13, L14, L15, L16, L17, L18, L19, L20, L21, L22, L23, L24, L30, L31, L32, L40, L41, L42, L43, L45, L47, L48, L52, L57, L59, L60, L61, L63, L64, L72, L97, L99, L100, L122, L160, L161, L200, L255, L999, L1200, L1998, L99999, L100000, L1000005]
  · have L : ∀ d i n (x : Int32) (σ τ : Mem), i + d = M → d < n → CT 15 M V w y A B σ → FT M V w y A B τ → CXT T X σ → FXT T X τ → ShN s so sz ce σ τ → ∃ r σ' τ', f_X8_whose_b17 (ι s) n σ x (ι i) = some (r, σ') ∧ f_X9_whose_b29 (ι s) n τ x (ι i) = some (r, τ') ∧ eqC σ σ' ∧ eqR τ τ' := by
      intro d
      induction d with
      | zero =>
        intro i n x σ τ hi hn hC hF hCX hFX hN
        obtain ⟨n, rfl⟩ : ∃ k, n = k + 1 := ⟨n - 1, by omega⟩
        have a1 := hC.1
        have b1 := hF.1
        refine ⟨x, σ, τ, ?_, ?_, eqC.rfl, eqR.rfl⟩
        · rw [f_X8_whose_b17, a1, if_pos (by rw [le_t (by omega) (by omega)]; trivial)]
        · rw [f_X9_whose_b29, b1, if_pos (by rw [le_t (by omega) (by omega)]; trivial)]
      | succ d ih =>
        intro i n x σ τ hi hn hC hF hCX hFX hN
        obtain ⟨n, rfl⟩ : ∃ k, n = k + 1 := ⟨n - 1, by omega⟩
        obtain ⟨a1, a2, a3, a4, a5, a6⟩ := id hC
        obtain ⟨b1, b2, b3, b4, b5, b6⟩ := id hF
        obtain ⟨h0', h1, h2, h3, h4, h5, h6, h7, h8⟩ := id hN
        have i1 : i < M := by omega
        obtain ⟨σ1, s1, s2⟩ := c_other (ce := ce) hM hV hC hB hCX hOX h0' h2 i1 hy (show 15 + 3 + i ≠ 75 by omega) (MC_of a5 i1) (OK1_of hA i1) (show w < 10000 by omega) h4 h7
        obtain ⟨τ1, t1, t2⟩ := r_unlike (ce := ce) hFX hOX hF hA hB hM hV h0' h2 hy i1 (show w < 10000 by omega) h6 h8
        have ul := unlN_le (X := X) (y := y) (w := w) (ow := owedN V B i) (sz := sz) (a := A i) (ce := ce)
        obtain ⟨r, σ', τ', g1, g2, g3, g4⟩ := ih (i + 1) n (if unlN X y (A i) w (owedN V B i) sz ce = 0 then x ||| (ι 1 <<< (ι i &&& 31)) else x) σ1 τ1 (by omega) (by omega) (CT_sc hM hV s2.sc hC) (FT_sc hM hV t2 hF) (CXT_sc s2.sc hCX) (FXT_sc t2 hFX) (ShN_sc hN (fun k j q1 q2 => s2 k j (by omega) (by omega) (by omega)) (fun k j q1 q2 => t2 k j (by unfold sR; omega)))
        refine ⟨r, σ', τ', ?_, ?_, s2.sc.tr g3, t2.tr g4⟩
        · rw [f_X8_whose_b17]
          by_cases c : unlN X y (A i) w (owedN V B i) sz ce = 0
          · rw [if_pos c] at g1
            simp (disch := omega) only [a1, a3, a4, c_sheetAt h0', c_manAt a1 hM i1, s1, pl_0 c, f_X8_whose_b74, ↓reduceIte, eq_self, Bool.false_eq_true, reduceCtorEq, ob_s, ob2_s, od_e, onl_n, onl_s, ι_nat, ι_add, ι_mul, ι_sub, ι_addm, lt_t, lt_f, le_t, le_f, eq_t, eq_f, inb_t, inb_f, neq_f, neq_f2, neq_nf, nlt_t, nlt_f, nle_t, nle_f, ms_at, ms_off, up_at, up_off, L0, L1, L2, L3, L4, L5, L6, L7, L8, L9, L10, L11, L12, L13, L14, L15, L16, L17, L18, L19, L20, L21, L22, L23, L24, L30, L31, L32, L40, L41, L42, L43, L45, L47, L48, L52, L57, L59, L60, L61, L63, L64, L72, L97, L99, L100, L122, L160, L161, L200, L255, L999, L1200, L1998, L99999, L100000, L1000005]
            exact g1
          · rw [if_neg c] at g1
            simp (disch := omega) only [a1, a3, a4, c_sheetAt h0', c_manAt a1 hM i1, s1, pl_s (show 0 < unlN X y (A i) w (owedN V B i) sz ce by omega), f_X8_whose_b74, ↓reduceIte, eq_self, Bool.false_eq_true, reduceCtorEq, ob_s, ob2_s, od_e, onl_n, onl_s, ι_nat, ι_add, ι_mul, ι_sub, ι_addm, lt_t, lt_f, le_t, le_f, eq_t, eq_f, inb_t, inb_f, neq_f, neq_f2, neq_nf, nlt_t, nlt_f, nle_t, nle_f, ms_at, ms_off, up_at, up_off, L0, L1, L2, L3, L4, L5, L6, L7, L8, L9, L10, L11, L12, L13, L14, L15, L16, L17, L18, L19, L20, L21, L22, L23, L24, L30, L31, L32, L40, L41, L42, L43, L45, L47, L48, L52, L57, L59, L60, L61, L63, L64, L72, L97, L99, L100, L122, L160, L161, L200, L255, L999, L1200, L1998, L99999, L100000, L1000005]
            exact g1
        · rw [f_X9_whose_b29]
          by_cases c : unlN X y (A i) w (owedN V B i) sz ce = 0
          · rw [if_pos c] at g2
            simp (disch := omega) only [b1, t1, pl_0 c, f_X9_whose_b55, ↓reduceIte, eq_self, Bool.false_eq_true, reduceCtorEq, ob_s, ob2_s, od_e, onl_n, onl_s, ι_nat, ι_add, ι_mul, ι_sub, ι_addm, lt_t, lt_f, le_t, le_f, eq_t, eq_f, inb_t, inb_f, neq_f, neq_f2, neq_nf, nlt_t, nlt_f, nle_t, nle_f, ms_at, ms_off, up_at, up_off, L0, L1, L2, L3, L4, L5, L6, L7, L8, L9, L10, L11, L12, L13, L14, L15, L16, L17, L18, L19, L20, L21, L22, L23, L24, L30, L31, L32, L40, L41, L42, L43, L45, L47, L48, L52, L57, L59, L60, L61, L63, L64, L72, L97, L99, L100, L122, L160, L161, L200, L255, L999, L1200, L1998, L99999, L100000, L1000005]
            exact g2
          · rw [if_neg c] at g2
            simp (disch := omega) only [b1, t1, pl_s (show 0 < unlN X y (A i) w (owedN V B i) sz ce by omega), f_X9_whose_b55, or_z, ↓reduceIte, eq_self, Bool.false_eq_true, reduceCtorEq, ob_s, ob2_s, od_e, onl_n, onl_s, ι_nat, ι_add, ι_mul, ι_sub, ι_addm, lt_t, lt_f, le_t, le_f, eq_t, eq_f, inb_t, inb_f, neq_f, neq_f2, neq_nf, nlt_t, nlt_f, nle_t, nle_f, ms_at, ms_off, up_at, up_off, L0, L1, L2, L3, L4, L5, L6, L7, L8, L9, L10, L11, L12, L13, L14, L15, L16, L17, L18, L19, L20, L21, L22, L23, L24, L30, L31, L32, L40, L41, L42, L43, L45, L47, L48, L52, L57, L59, L60, L61, L63, L64, L72, L97, L99, L100, L122, L160, L161, L200, L255, L999, L1200, L1998, L99999, L100000, L1000005]
            exact g2
    obtain ⟨r, σ', τ', g1, g2, g3, g4⟩ := L M 0 FU (ι 0) σ τ (by omega) (by unfold FU; omega) hC hF hCX hFX hN
    obtain ⟨h0', h1, h2, h3, h4, h5, h6, h7, h8⟩ := id hN
    refine ⟨r, σ', τ', ?_, ?_, RR_eq hR g3 g4⟩
    · simp (disch := omega) only [n3, ↓reduceIte, eq_self, Bool.false_eq_true, reduceCtorEq, ob_s, ob2_s, od_e, onl_n, onl_s, ι_nat, ι_add, ι_mul, ι_sub, ι_addm, lt_t, lt_f, le_t, le_f, eq_t, eq_f, inb_t, inb_f, neq_f, neq_f2, neq_nf, nlt_t, nlt_f, nle_t, nle_f, ms_at, ms_off, up_at, up_off, L0, L1, L2, L3, L4, L5, L6, L7, L8, L9, L10, L11, L12, L13, L14, L15, L16, L17, L18, L19, L20, L21, L22, L23, L24, L30, L31, L32, L40, L41, L42, L43, L45, L47, L48, L52, L57, L59, L60, L61, L63, L64, L72, L97, L99, L100, L122, L160, L161, L200, L255, L999, L1200, L1998, L99999, L100000, L1000005]
      exact g1
    · simp (disch := omega) only [r_in, h5, pl_s hso, ↓reduceIte, eq_self, Bool.false_eq_true, reduceCtorEq, ob_s, ob2_s, od_e, onl_n, onl_s, ι_nat, ι_add, ι_mul, ι_sub, ι_addm, lt_t, lt_f, le_t, le_f, eq_t, eq_f, inb_t, inb_f, neq_f, neq_f2, neq_nf, nlt_t, nlt_f, nle_t, nle_f, ms_at, ms_off, up_at, up_off, L0, L1, L2, L3, L4, L5, L6, L7, L8, L9, L10, L11, L12, L13, L14, L15, L16, L17, L18, L19, L20, L21, L22, L23, L24, L30, L31, L32, L40, L41, L42, L43, L45, L47, L48, L52, L57, L59, L60, L61, L63, L64, L72, L97, L99, L100, L122, L160, L161, L200, L255, L999, L1200, L1998, L99999, L100000, L1000005]
      exact g2
theorem op_laws : OP_laws RR := by
  intro σ τ v1 v2 hR
  obtain ⟨M, V, w, y, A, B, T, X, h0, hA, hB, hOX, hC, hS, hS9, hF, hCX, hFX, hI, hSh, hD⟩ := id hR
  obtain ⟨hM, hV, hw, hy⟩ := id h0
  obtain ⟨hB, hBs⟩ := id hB
  obtain ⟨a1, a2, a3, a4, a5, a6⟩ := id hC
  obtain ⟨b1, b2, b3, b4, b5, b6⟩ := id hF
  have hT := hOX.2.1
  have c1 := hCX.1
  have f1 := hFX.1
  unfold f_X8_laws f_X9_laws
  rcases refusal hSh hM a1 b1 v1 v2 with ⟨n, n1, n2, n3, n4⟩ | ⟨s, so, sz, ce, i, rfl, rfl, i1, hN, n3, n4⟩
  · refine ⟨-ι n, σ, τ, ?_, ?_, hR, rfl⟩
    · simp (disch := omega) only [n3, ↓reduceIte, eq_self, Bool.false_eq_true, reduceCtorEq, ob_s, ob2_s, od_e, onl_n, onl_s, ι_nat, ι_add, ι_mul, ι_sub, ι_addm, lt_t, lt_f, le_t, le_f, eq_t, eq_f, inb_t, inb_f, neq_f, neq_f2, neq_nf, nlt_t, nlt_f, nle_t, nle_f, ms_at, ms_off, up_at, up_off, L0, L1, L2, L3, L4, L5, L6, L7, L8, L9, L10, L11, L12, L13, L14, L15, L16, L17, L18, L19, L20, L21, L22, L23, L24, L30, L31, L32, L40, L41, L42, L43, L45, L47, L48, L52, L57, L59, L60, L61, L63, L64, L72, L97, L99, L100, L122, L160, L161, L200, L255, L999, L1200, L1998, L99999, L100000, L1000005]
    · simp (disch := omega) only [n4, ↓reduceIte, eq_self, Bool.false_eq_true, reduceCtorEq, ob_s, ob2_s, od_e, onl_n, onl_s, ι_nat, ι_add, ι_mul, ι_sub, ι_addm, lt_t, lt_f, le_t, le_f, eq_t, eq_f, inb_t, inb_f, neq_f, neq_f2, neq_nf, nlt_t, nlt_f, nle_t, nle_f, ms_at, ms_off, up_at, up_off, L0, L1, L2, L3, L4, L5, L6, L7, L8, L9, L10, L11, L12, L13, L14, L15, L16, L17, L18, L19, L20, L21, L22, L23, L24, L30, L31, L32, L40, L41, L42, L43, L45, L47, L48, L52, L57, L59, L60, L61, L63, L64, L72, L97, L99, L100, L122, L160, L161, L200, L255, L999, L1200, L1998, L99999, L100000, L1000005]
  · have L : ∀ d t n (x : Int32) (σ τ : Mem), t + d = T → d < n → CT 15 M V w y A B σ → (∃ yy, FT M V w yy A B τ) → CXT T X σ → FXT T X τ → ShN s so sz ce σ τ → ∃ r σ' τ', f_X8_laws_b19 (ι s) (ι i) n σ x (ι t) = some (r, σ') ∧ f_X9_laws_b25 (ι s) (ι i) (ι y) n τ x (ι t) = some (r, τ') ∧ eqC σ σ' ∧ τ' 0 12 = ι y ∧ (∀ k j, ¬ sR k j → ¬ (k = 0 ∧ j = 12) → τ' k j = τ k j) := by
      intro d
      induction d with
      | zero =>
        intro t n x σ τ hi hn hC hF hCX hFX hN
        obtain ⟨n, rfl⟩ : ∃ k, n = k + 1 := ⟨n - 1, by omega⟩
        have a1 := hCX.1
        have b1 := hFX.1
        refine ⟨x, σ, ms τ 0 12 (ι y), ?_, ?_, eqC.rfl, ms_at rfl rfl, fun k j q1 q2 => ms_off (by omega)⟩
        · rw [f_X8_laws_b19, a1, if_pos (by rw [le_t (by omega) (by omega)]; trivial)]
        · rw [f_X9_laws_b25, b1, if_pos (by rw [le_t (by omega) (by omega)]; trivial)]
      | succ d ih =>
        intro t n x σ τ hi hn hC hF hCX hFX hN
        obtain ⟨n, rfl⟩ : ∃ k, n = k + 1 := ⟨n - 1, by omega⟩
        obtain ⟨yy, hF⟩ := hF
        obtain ⟨a1, a2, a3, a4, a5, a6⟩ := id hC
        obtain ⟨b1, b2, b3, b4, b5, b6⟩ := id hF
        obtain ⟨h0', h1, h2, h3, h4, h5, h6, h7, h8⟩ := id hN
        have x1 := hCX.1
        have y1 := hFX.1
        have t1 : t < T := by omega
        have hF2 : FT M V w t A B (ms τ 0 12 (ι t)) := ⟨by rw [ms_off (by omega)]; exact b1, by rw [ms_off (by omega)]; exact b2, by rw [ms_off (by omega)]; exact b3, ms_at rfl rfl, FA_fr b5 (fun k j q1 q2 => by rw [ms_off (by omega)]), FB_fr b6 (fun j => by rw [ms_off (by omega)])⟩
        have hFX2 : FXT T X (ms τ 0 12 (ι t)) := FXT_fr (fun k j h => by rw [ms_off (by omega)]) hFX
        obtain ⟨σ1, s1, s2⟩ := c_other (ce := ce) hM hV hC hB hCX hOX h0' h2 i1 t1 (show 15 + 3 + i ≠ 75 by omega) (MC_of a5 i1) (OK1_of hA i1) (show w < 10000 by omega) h4 h7
        obtain ⟨τ1, u1, u2⟩ := r_unlike (ce := ce) hFX2 hOX hF2 hA hB hM hV h0' h2 t1 i1 (show w < 10000 by omega) (by rw [ms_off (by omega)]; exact h6) (fun j hj => by rw [ms_off (by omega)]; exact h8 j hj)
        have ul := unlN_le (X := X) (y := t) (w := w) (ow := owedN V B i) (sz := sz) (a := A i) (ce := ce)
        have e1 : ∀ k j, ¬ sR k j → ¬ (k = 0 ∧ j = 12) → τ1 k j = τ k j := fun k j q1 q2 => by rw [u2 k j q1, ms_off (by omega)]
        obtain ⟨r, σ', τ', g1, g2, g3, g4, g5⟩ := ih (t + 1) n (if unlN X t (A i) w (owedN V B i) sz ce = 0 then x ||| (ι 1 <<< (ι t &&& 31)) else x) σ1 τ1 (by omega) (by omega) (CT_sc hM hV s2.sc hC) ⟨t, FT_sc hM hV u2 hF2⟩ (CXT_sc s2.sc hCX) (FXT_sc u2 hFX2) (ShN_sc hN (fun k j q1 q2 => s2 k j (by omega) (by omega) (by omega)) (fun k j q1 q2 => e1 k j (by unfold sR; omega) (by omega)))
        refine ⟨r, σ', τ', ?_, ?_, s2.sc.tr g3, g4, fun k j q1 q2 => by rw [g5 k j q1 q2, e1 k j q1 q2]⟩
        · rw [f_X8_laws_b19]
          by_cases c : unlN X t (A i) w (owedN V B i) sz ce = 0
          · rw [if_pos c] at g1
            simp (disch := omega) only [x1, a3, c_sheetAt h0', c_manAt a1 hM i1, s1, pl_0 c, f_X8_laws_b71, ↓reduceIte, eq_self, Bool.false_eq_true, reduceCtorEq, ob_s, ob2_s, od_e, onl_n, onl_s, ι_nat, ι_add, ι_mul, ι_sub, ι_addm, lt_t, lt_f, le_t, le_f, eq_t, eq_f, inb_t, inb_f, neq_f, neq_f2, neq_nf, nlt_t, nlt_f, nle_t, nle_f, ms_at, ms_off, up_at, up_off, L0, L1, L2, L3, L4, L5, L6, L7, L8, L9, L10, L11, L12, L13, L14, L15, L16, L17, L18, L19, L20, L21, L22, L23, L24, L30, L31, L32, L40, L41, L42, L43, L45, L47, L48, L52, L57, L59, L60, L61, L63, L64, L72, L97, L99, L100, L122, L160, L161, L200, L255, L999, L1200, L1998, L99999, L100000, L1000005]
            exact g1
          · rw [if_neg c] at g1
            simp (disch := omega) only [x1, a3, c_sheetAt h0', c_manAt a1 hM i1, s1, pl_s (show 0 < unlN X t (A i) w (owedN V B i) sz ce by omega), f_X8_laws_b71, ↓reduceIte, eq_self, Bool.false_eq_true, reduceCtorEq, ob_s, ob2_s, od_e, onl_n, onl_s, ι_nat, ι_add, ι_mul, ι_sub, ι_addm, lt_t, lt_f, le_t, le_f, eq_t, eq_f, inb_t, inb_f, neq_f, neq_f2, neq_nf, nlt_t, nlt_f, nle_t, nle_f, ms_at, ms_off, up_at, up_off, L0, L1, L2, L3, L4, L5, L6, L7, L8, L9, L10, L11, L12, L13, L14, L15, L16, L17, L18, L19, L20, L21, L22, L23, L24, L30, L31, L32, L40, L41, L42, L43, L45, L47, L48, L52, L57, L59, L60, L61, L63, L64, L72, L97, L99, L100, L122, L160, L161, L200, L255, L999, L1200, L1998, L99999, L100000, L1000005]
            exact g1
        · rw [f_X9_laws_b25]
          by_cases c : unlN X t (A i) w (owedN V B i) sz ce = 0
          · rw [if_pos c] at g2
            simp (disch := omega) only [y1, u1, pl_0 c, f_X9_laws_b60, ↓reduceIte, eq_self, Bool.false_eq_true, reduceCtorEq, ob_s, ob2_s, od_e, onl_n, onl_s, ι_nat, ι_add, ι_mul, ι_sub, ι_addm, lt_t, lt_f, le_t, le_f, eq_t, eq_f, inb_t, inb_f, neq_f, neq_f2, neq_nf, nlt_t, nlt_f, nle_t, nle_f, ms_at, ms_off, up_at, up_off, L0, L1, L2, L3, L4, L5, L6, L7, L8, L9, L10, L11, L12, L13, L14, L15, L16, L17, L18, L19, L20, L21, L22, L23, L24, L30, L31, L32, L40, L41, L42, L43, L45, L47, L48, L52, L57, L59, L60, L61, L63, L64, L72, L97, L99, L100, L122, L160, L161, L200, L255, L999, L1200, L1998, L99999, L100000, L1000005]
            exact g2
          · rw [if_neg c] at g2
            simp (disch := omega) only [y1, u1, pl_s (show 0 < unlN X t (A i) w (owedN V B i) sz ce by omega), f_X9_laws_b60, or_z, ↓reduceIte, eq_self, Bool.false_eq_true, reduceCtorEq, ob_s, ob2_s, od_e, onl_n, onl_s, ι_nat, ι_add, ι_mul, ι_sub, ι_addm, lt_t, lt_f, le_t, le_f, eq_t, eq_f, inb_t, inb_f, neq_f, neq_f2, neq_nf, nlt_t, nlt_f, nle_t, nle_f, ms_at, ms_off, up_at, up_off, L0, L1, L2, L3, L4, L5, L6, L7, L8, L9, L10, L11, L12, L13, L14, L15, L16, L17, L18, L19, L20, L21, L22, L23, L24, L30, L31, L32, L40, L41, L42, L43, L45, L47, L48, L52, L57, L59, L60, L61, L63, L64, L72, L97, L99, L100, L122, L160, L161, L200, L255, L999, L1200, L1998, L99999, L100000, L1000005]
            exact g2
    obtain ⟨r, σ', τ', g1, g2, g3, g4, g5⟩ := L T 0 FU (ι 0) σ τ (by omega) (by unfold FU; omega) hC ⟨y, hF⟩ hCX hFX hN
    refine ⟨r, σ', τ', ?_, ?_, RR_eq hR g3 (fun k j q => ?_)⟩
    · simp (disch := omega) only [n3, ↓reduceIte, eq_self, Bool.false_eq_true, reduceCtorEq, ob_s, ob2_s, od_e, onl_n, onl_s, ι_nat, ι_add, ι_mul, ι_sub, ι_addm, lt_t, lt_f, le_t, le_f, eq_t, eq_f, inb_t, inb_f, neq_f, neq_f2, neq_nf, nlt_t, nlt_f, nle_t, nle_f, ms_at, ms_off, up_at, up_off, L0, L1, L2, L3, L4, L5, L6, L7, L8, L9, L10, L11, L12, L13, L14, L15, L16, L17, L18, L19, L20, L21, L22, L23, L24, L30, L31, L32, L40, L41, L42, L43, L45, L47, L48, L52, L57, L59, L60, L61, L63, L64, L72, L97, L99, L100, L122, L160, L161, L200, L255, L999, L1200, L1998, L99999, L100000, L1000005]
      exact g1
    · simp (disch := omega) only [n4, b4, ↓reduceIte, eq_self, Bool.false_eq_true, reduceCtorEq, ob_s, ob2_s, od_e, onl_n, onl_s, ι_nat, ι_add, ι_mul, ι_sub, ι_addm, lt_t, lt_f, le_t, le_f, eq_t, eq_f, inb_t, inb_f, neq_f, neq_f2, neq_nf, nlt_t, nlt_f, nle_t, nle_f, ms_at, ms_off, up_at, up_off, L0, L1, L2, L3, L4, L5, L6, L7, L8, L9, L10, L11, L12, L13, L14, L15, L16, L17, L18, L19, L20, L21, L22, L23, L24, L30, L31, L32, L40, L41, L42, L43, L45, L47, L48, L52, L57, L59, L60, L61, L63, L64, L72, L97, L99, L100, L122, L160, L161, L200, L255, L999, L1200, L1998, L99999, L100000, L1000005]
      exact g2
    · by_cases c : k = 0 ∧ j = 12
      · rw [c.1, c.2, g4, b4]
      · exact g5 k j q c
theorem op_since : OP_since RR := by
  intro σ τ v1 v2 hR
  obtain ⟨M, V, w, y, A, B, T, X, h0, hA, hB, hOX, hC, hS, hS9, hF, hCX, hFX, hI, hSh, hD⟩ := id hR
  obtain ⟨hM, hV, hw, hy⟩ := id h0
  obtain ⟨hB, hBs⟩ := id hB
  obtain ⟨a1, a2, a3, a4, a5, a6⟩ := id hC
  obtain ⟨b1, b2, b3, b4, b5, b6⟩ := id hF
  have hT := hOX.2.1
  have c1 := hCX.1
  have f1 := hFX.1
  unfold f_X8_since f_X9_since
  rcases refusal hSh hM a1 b1 v1 v2 with ⟨n, n1, n2, n3, n4⟩ | ⟨s, so, sz, ce, i, rfl, rfl, i1, hN, n3, n4⟩
  · refine ⟨-4611686018427387904, σ, τ, ?_, ?_, hR, rfl⟩
    · simp (disch := omega) only [n3, ↓reduceIte, eq_self, Bool.false_eq_true, reduceCtorEq, ob_s, ob2_s, od_e, onl_n, onl_s, ι_nat, ι_add, ι_mul, ι_sub, ι_addm, lt_t, lt_f, le_t, le_f, eq_t, eq_f, inb_t, inb_f, neq_f, neq_f2, neq_nf, nlt_t, nlt_f, nle_t, nle_f, ms_at, ms_off, up_at, up_off, L0, L1, L2, L3, L4, L5, L6, L7, L8, L9, L10, L11, L12, L13, L14, L15, L16, L17, L18, L19, L20, L21, L22, L23, L24, L30, L31, L32, L40, L41, L42, L43, L45, L47, L48, L52, L57, L59, L60, L61, L63, L64, L72, L97, L99, L100, L122, L160, L161, L200, L255, L999, L1200, L1998, L99999, L100000, L1000005]
    · simp (disch := omega) only [n4, ↓reduceIte, eq_self, Bool.false_eq_true, reduceCtorEq, ob_s, ob2_s, od_e, onl_n, onl_s, ι_nat, ι_add, ι_mul, ι_sub, ι_addm, lt_t, lt_f, le_t, le_f, eq_t, eq_f, inb_t, inb_f, neq_f, neq_f2, neq_nf, nlt_t, nlt_f, nle_t, nle_f, ms_at, ms_off, up_at, up_off, L0, L1, L2, L3, L4, L5, L6, L7, L8, L9, L10, L11, L12, L13, L14, L15, L16, L17, L18, L19, L20, L21, L22, L23, L24, L30, L31, L32, L40, L41, L42, L43, L45, L47, L48, L52, L57, L59, L60, L61, L63, L64, L72, L97, L99, L100, L122, L160, L161, L200, L255, L999, L1200, L1998, L99999, L100000, L1000005]
  · have L : ∀ d t n (x : Int64) (σ τ : Mem), t + d = 52 → d < n → CT 15 M V w y A B σ → (∃ ww, FT M V ww y A B τ) → CXT T X σ → FXT T X τ → ShN s so sz ce σ τ → ∃ r σ' τ', f_X8_since_b18 (ι s) (ι i) n σ x (ι t) = some (r, σ') ∧ f_X9_since_b24 (ι s) (ι i) (ι w) n τ x (ι t) = some (r, τ') ∧ eqC σ σ' ∧ τ' 0 6 = ι w ∧ (∀ k j, ¬ sR k j → ¬ (k = 0 ∧ j = 6) → τ' k j = τ k j) := by
      intro d
      induction d with
      | zero =>
        intro t n x σ τ hi hn hC hF hCX hFX hN
        obtain ⟨n, rfl⟩ : ∃ k, n = k + 1 := ⟨n - 1, by omega⟩
        refine ⟨x, σ, ms τ 0 6 (ι w), ?_, ?_, eqC.rfl, ms_at rfl rfl, fun k j q1 q2 => ms_off (by omega)⟩
        · rw [f_X8_since_b18, L52, if_pos (by rw [le_t (by omega) (by omega)]; trivial)]
        · rw [f_X9_since_b24, L52, if_pos (by rw [le_t (by omega) (by omega)]; trivial)]
      | succ d ih =>
        intro t n x σ τ hi hn hC hF hCX hFX hN
        obtain ⟨n, rfl⟩ : ∃ k, n = k + 1 := ⟨n - 1, by omega⟩
        obtain ⟨ww, hF⟩ := hF
        obtain ⟨a1, a2, a3, a4, a5, a6⟩ := id hC
        obtain ⟨b1, b2, b3, b4, b5, b6⟩ := id hF
        obtain ⟨h0', h1, h2, h3, h4, h5, h6, h7, h8⟩ := id hN
        have hF2 : FT M V t y A B (ms τ 0 6 (ι t)) := ⟨by rw [ms_off (by omega)]; exact b1, by rw [ms_off (by omega)]; exact b2, ms_at rfl rfl, by rw [ms_off (by omega)]; exact b4, FA_fr b5 (fun k j q1 q2 => by rw [ms_off (by omega)]), FB_fr b6 (fun j => by rw [ms_off (by omega)])⟩
        have hFX2 : FXT T X (ms τ 0 6 (ι t)) := FXT_fr (fun k j h => by rw [ms_off (by omega)]) hFX
        obtain ⟨σ1, s1, s2⟩ := c_other (ce := ce) hM hV hC hB hCX hOX h0' h2 i1 hy (show 15 + 3 + i ≠ 75 by omega) (MC_of a5 i1) (OK1_of hA i1) (show t < 10000 by omega) h4 h7
        obtain ⟨τ1, u1, u2⟩ := r_unlike (ce := ce) hFX2 hOX hF2 hA hB hM hV h0' h2 hy i1 (show t < 10000 by omega) (by rw [ms_off (by omega)]; exact h6) (fun j hj => by rw [ms_off (by omega)]; exact h8 j hj)
        have ul := unlN_le (X := X) (y := y) (w := t) (ow := owedN V B i) (sz := sz) (a := A i) (ce := ce)
        have e1 : ∀ k j, ¬ sR k j → ¬ (k = 0 ∧ j = 6) → τ1 k j = τ k j := fun k j q1 q2 => by rw [u2 k j q1, ms_off (by omega)]
        obtain ⟨r, σ', τ', g1, g2, g3, g4, g5⟩ := ih (t + 1) n (if unlN X y (A i) t (owedN V B i) sz ce = 0 then x ||| ((1 : Int64) <<< ((ι t).toInt64 &&& 63)) else x) σ1 τ1 (by omega) (by omega) (CT_sc hM hV s2.sc hC) ⟨t, FT_sc hM hV u2 hF2⟩ (CXT_sc s2.sc hCX) (FXT_sc u2 hFX2) (ShN_sc hN (fun k j q1 q2 => s2 k j (by omega) (by omega) (by omega)) (fun k j q1 q2 => e1 k j (by unfold sR; omega) (by omega)))
        refine ⟨r, σ', τ', ?_, ?_, s2.sc.tr g3, g4, fun k j q1 q2 => by rw [g5 k j q1 q2, e1 k j q1 q2]⟩
        · rw [f_X8_since_b18]
          by_cases c : unlN X y (A i) t (owedN V B i) sz ce = 0
          · rw [if_pos c] at g1
            simp (disch := omega) only [a4, c_sheetAt h0', c_manAt a1 hM i1, s1, pl_0 c, f_X8_since_b63, ↓reduceIte, eq_self, Bool.false_eq_true, reduceCtorEq, ob_s, ob2_s, od_e, onl_n, onl_s, ι_nat, ι_add, ι_mul, ι_sub, ι_addm, lt_t, lt_f, le_t, le_f, eq_t, eq_f, inb_t, inb_f, neq_f, neq_f2, neq_nf, nlt_t, nlt_f, nle_t, nle_f, ms_at, ms_off, up_at, up_off, L0, L1, L2, L3, L4, L5, L6, L7, L8, L9, L10, L11, L12, L13, L14, L15, L16, L17, L18, L19, L20, L21, L22, L23, L24, L30, L31, L32, L40, L41, L42, L43, L45, L47, L48, L52, L57, L59, L60, L61, L63, L64, L72, L97, L99, L100, L122, L160, L161, L200, L255, L999, L1200, L1998, L99999, L100000, L1000005]
            exact g1
          · rw [if_neg c] at g1
            simp (disch := omega) only [a4, c_sheetAt h0', c_manAt a1 hM i1, s1, pl_s (show 0 < unlN X y (A i) t (owedN V B i) sz ce by omega), f_X8_since_b63, ↓reduceIte, eq_self, Bool.false_eq_true, reduceCtorEq, ob_s, ob2_s, od_e, onl_n, onl_s, ι_nat, ι_add, ι_mul, ι_sub, ι_addm, lt_t, lt_f, le_t, le_f, eq_t, eq_f, inb_t, inb_f, neq_f, neq_f2, neq_nf, nlt_t, nlt_f, nle_t, nle_f, ms_at, ms_off, up_at, up_off, L0, L1, L2, L3, L4, L5, L6, L7, L8, L9, L10, L11, L12, L13, L14, L15, L16, L17, L18, L19, L20, L21, L22, L23, L24, L30, L31, L32, L40, L41, L42, L43, L45, L47, L48, L52, L57, L59, L60, L61, L63, L64, L72, L97, L99, L100, L122, L160, L161, L200, L255, L999, L1200, L1998, L99999, L100000, L1000005]
            exact g1
        · rw [f_X9_since_b24]
          by_cases c : unlN X y (A i) t (owedN V B i) sz ce = 0
          · rw [if_pos c] at g2
            simp (disch := omega) only [u1, pl_0 c, f_X9_since_b57, ↓reduceIte, eq_self, Bool.false_eq_true, reduceCtorEq, ob_s, ob2_s, od_e, onl_n, onl_s, ι_nat, ι_add, ι_mul, ι_sub, ι_addm, lt_t, lt_f, le_t, le_f, eq_t, eq_f, inb_t, inb_f, neq_f, neq_f2, neq_nf, nlt_t, nlt_f, nle_t, nle_f, ms_at, ms_off, up_at, up_off, L0, L1, L2, L3, L4, L5, L6, L7, L8, L9, L10, L11, L12, L13, L14, L15, L16, L17, L18, L19, L20, L21, L22, L23, L24, L30, L31, L32, L40, L41, L42, L43, L45, L47, L48, L52, L57, L59, L60, L61, L63, L64, L72, L97, L99, L100, L122, L160, L161, L200, L255, L999, L1200, L1998, L99999, L100000, L1000005]
            exact g2
          · rw [if_neg c] at g2
            simp (disch := omega) only [u1, pl_s (show 0 < unlN X y (A i) t (owedN V B i) sz ce by omega), f_X9_since_b57, or_zl, ↓reduceIte, eq_self, Bool.false_eq_true, reduceCtorEq, ob_s, ob2_s, od_e, onl_n, onl_s, ι_nat, ι_add, ι_mul, ι_sub, ι_addm, lt_t, lt_f, le_t, le_f, eq_t, eq_f, inb_t, inb_f, neq_f, neq_f2, neq_nf, nlt_t, nlt_f, nle_t, nle_f, ms_at, ms_off, up_at, up_off, L0, L1, L2, L3, L4, L5, L6, L7, L8, L9, L10, L11, L12, L13, L14, L15, L16, L17, L18, L19, L20, L21, L22, L23, L24, L30, L31, L32, L40, L41, L42, L43, L45, L47, L48, L52, L57, L59, L60, L61, L63, L64, L72, L97, L99, L100, L122, L160, L161, L200, L255, L999, L1200, L1998, L99999, L100000, L1000005]
            exact g2
    obtain ⟨r, σ', τ', g1, g2, g3, g4, g5⟩ := L 52 0 FU 0 σ τ (by omega) (by unfold FU; omega) hC ⟨w, hF⟩ hCX hFX hN
    refine ⟨r, σ', τ', ?_, ?_, RR_eq hR g3 (fun k j q => ?_)⟩
    · simp (disch := omega) only [n3, ↓reduceIte, eq_self, Bool.false_eq_true, reduceCtorEq, ob_s, ob2_s, od_e, onl_n, onl_s, ι_nat, ι_add, ι_mul, ι_sub, ι_addm, lt_t, lt_f, le_t, le_f, eq_t, eq_f, inb_t, inb_f, neq_f, neq_f2, neq_nf, nlt_t, nlt_f, nle_t, nle_f, ms_at, ms_off, up_at, up_off, L0, L1, L2, L3, L4, L5, L6, L7, L8, L9, L10, L11, L12, L13, L14, L15, L16, L17, L18, L19, L20, L21, L22, L23, L24, L30, L31, L32, L40, L41, L42, L43, L45, L47, L48, L52, L57, L59, L60, L61, L63, L64, L72, L97, L99, L100, L122, L160, L161, L200, L255, L999, L1200, L1998, L99999, L100000, L1000005]
      exact g1
    · simp (disch := omega) only [n4, b3, ↓reduceIte, eq_self, Bool.false_eq_true, reduceCtorEq, ob_s, ob2_s, od_e, onl_n, onl_s, ι_nat, ι_add, ι_mul, ι_sub, ι_addm, lt_t, lt_f, le_t, le_f, eq_t, eq_f, inb_t, inb_f, neq_f, neq_f2, neq_nf, nlt_t, nlt_f, nle_t, nle_f, ms_at, ms_off, up_at, up_off, L0, L1, L2, L3, L4, L5, L6, L7, L8, L9, L10, L11, L12, L13, L14, L15, L16, L17, L18, L19, L20, L21, L22, L23, L24, L30, L31, L32, L40, L41, L42, L43, L45, L47, L48, L52, L57, L59, L60, L61, L63, L64, L72, L97, L99, L100, L122, L160, L161, L200, L255, L999, L1200, L1998, L99999, L100000, L1000005]
      exact g2
    · by_cases c : k = 0 ∧ j = 6
      · rw [c.1, c.2, g4, b3]
      · exact g5 k j q c
