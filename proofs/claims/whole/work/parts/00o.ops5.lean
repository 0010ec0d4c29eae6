/-! THE PURE PART: plaits, net -/
theorem op_plaits : OP_plaits RR := by
  intro σ τ v1 v2 hR
  obtain ⟨M, V, w, y, A, B, T, X, h0, hA, hB, hOX, hC, hS, hS9, hF, hCX, hFX, hI, hSh, hD⟩ := id hR
  obtain ⟨hM, hV, hw, hy⟩ := id h0
  obtain ⟨hB, hBs⟩ := id hB
  obtain ⟨a1, a2, a3, a4, a5, a6⟩ := id hC
  obtain ⟨b1, b2, b3, b4, b5, b6⟩ := id hF
  have hT := hOX.2.1
  have c1 := hCX.1
  have f1 := hFX.1
  unfold f_X8_plaits f_X9_plaits f_X9_plaits_b95 f_X9_plaits_b96
  rcases argN V v1 with ⟨v, i1, i2, rfl⟩ | g1
  · have vc := c_vowAt a2 hV i1
    have vr := r_isVow b2 hV i1
    rcases argN V v2 with ⟨u, j1, j2, rfl⟩ | g2
    · obtain ⟨o0, o1, o2, o3, o4, o5, o6, o7⟩ := hB v i1
      obtain ⟨e0, e1, e2, e3, e4, e5⟩ := a6 v i1
      obtain ⟨d0, d1, d2, d3, d4, d5⟩ := b6 v i1
      obtain ⟨p0, p1, p2, p3, p4, p5, p6, p7⟩ := hB u j1
      obtain ⟨q0, q1, q2, q3, q4, q5⟩ := a6 u j1
      obtain ⟨s0, s1, s2, s3, s4, s5⟩ := b6 u j1
      have uc := c_vowAt a2 hV j1
      have ur := r_isVow b2 hV j1
      have sv := r_stands hV b6 hB i1
      have su := r_stands hV b6 hB j1
      by_cases hvu : v = u
      · subst hvu
        refine ⟨-ι 6, σ, τ, ?_, ?_, hR, rfl⟩
        · simp (disch := omega) only [vc, ↓reduceIte, eq_self, Bool.false_eq_true, reduceCtorEq, ob_s, ob2_s, od_e, onl_n, onl_s, ι_nat, ι_add, ι_mul, ι_sub, ι_addm, lt_t, lt_f, le_t, le_f, eq_t, eq_f, inb_t, inb_f, neq_f, neq_f2, neq_nf, nlt_t, nlt_f, nle_t, nle_f, ms_at, ms_off, up_at, up_off, L0, L1, L2, L3, L4, L5, L6, L7, L8, L9, L10, L11, L12, L13, L14, L15, L16, L17, L18, L19, L20, L21, L22, L23, L24, L30, L31, L32, L40, L41, L42, L43, L45, L47, L48, L52, L57, L59, L60, L61, L63, L64, L72, L97, L99, L100, L122, L160, L161, L200, L255, L999, L1200, L1998, L99999, L100000, L1000005]
        · simp (disch := omega) only [vr, ↓reduceIte, eq_self, Bool.false_eq_true, reduceCtorEq, ob_s, ob2_s, od_e, onl_n, onl_s, ι_nat, ι_add, ι_mul, ι_sub, ι_addm, lt_t, lt_f, le_t, le_f, eq_t, eq_f, inb_t, inb_f, neq_f, neq_f2, neq_nf, nlt_t, nlt_f, nle_t, nle_f, ms_at, ms_off, up_at, up_off, L0, L1, L2, L3, L4, L5, L6, L7, L8, L9, L10, L11, L12, L13, L14, L15, L16, L17, L18, L19, L20, L21, L22, L23, L24, L30, L31, L32, L40, L41, L42, L43, L45, L47, L48, L52, L57, L59, L60, L61, L63, L64, L72, L97, L99, L100, L122, L160, L161, L200, L255, L999, L1200, L1998, L99999, L100000, L1000005]
      · by_cases h1 : B v 4 = 0
        · rw [if_pos h1] at sv
          by_cases h2 : B u 4 = 0
          · rw [if_pos h2] at su
            by_cases h3 : B v 5 = 0
            · by_cases h4 : B u 5 = 0
              · by_cases h5 : B v 0 = B u 0
                · let B' := up (up B v 5 (u + 1)) u 5 (v + 1)
                  have hB' : OKB M V B' := by
                    intro x hx
                    have := hB x hx
                    show up (up B v 5 (u + 1)) u 5 (v + 1) x 0 < M ∧ up (up B v 5 (u + 1)) u 5 (v + 1) x 1 < M ∧ up (up B v 5 (u + 1)) u 5 (v + 1) x 0 ≠ up (up B v 5 (u + 1)) u 5 (v + 1) x 1 ∧ up (up B v 5 (u + 1)) u 5 (v + 1) x 2 ≤ 200 ∧ up (up B v 5 (u + 1)) u 5 (v + 1) x 3 ≤ 999 ∧ up (up B v 5 (u + 1)) u 5 (v + 1) x 4 ≤ 3 ∧ up (up B v 5 (u + 1)) u 5 (v + 1) x 5 ≤ V ∧ (up (up B v 5 (u + 1)) u 5 (v + 1) x 4 = 0 → 1 ≤ up (up B v 5 (u + 1)) u 5 (v + 1) x 2)
                    by_cases c1 : x = u
                    · simp (disch := omega) only [up_at, up_off]
                      omega
                    · by_cases c2 : x = v
                      · simp (disch := omega) only [up_at, up_off]
                        omega
                      · simp (disch := omega) only [up_off]
                        exact this
                  have hS' : OKS V B' := by
                    intro x hx q hq
                    show up (up B v 5 (u + 1)) u 5 (v + 1) q 5 = x + 1
                    have hq : up (up B v 5 (u + 1)) u 5 (v + 1) x 5 = q + 1 := hq
                    by_cases c1 : x = u
                    · rw [up_at c1 rfl] at hq
                      have : q = v := by omega
                      rw [up_off (by omega), up_at this rfl, c1]
                    · by_cases c2 : x = v
                      · rw [up_off (by omega), up_at c2 rfl] at hq
                        have : q = u := by omega
                        rw [up_at this rfl, c2]
                      · rw [up_off (by omega), up_off (by omega)] at hq
                        have := hBs x hx q hq
                        have n1 : q ≠ u := fun e => by rw [e, h4] at this; omega
                        have n2 : q ≠ v := fun e => by rw [e, h3] at this; omega
                        rw [up_off (by omega), up_off (by omega)]
                        exact this
                  have nC : CB 15 V B' (ms (ms σ (15 + 9 + v) 5 (ι u)) (15 + 9 + u) 5 (ι v)) := by
                    intro x hx
                    have hx2 := a6 x hx
                    show _ = ι (up (up B v 5 (u + 1)) u 5 (v + 1) x 0) ∧ _ = ι (up (up B v 5 (u + 1)) u 5 (v + 1) x 1) ∧ _ = ι (up (up B v 5 (u + 1)) u 5 (v + 1) x 2) ∧ _ = ι (up (up B v 5 (u + 1)) u 5 (v + 1) x 3) ∧ _ = ι (up (up B v 5 (u + 1)) u 5 (v + 1) x 4) ∧ _ = pl (up (up B v 5 (u + 1)) u 5 (v + 1) x 5)
                    by_cases c1 : x = u
                    · subst c1
                      simp (disch := omega) only [up_at, up_off, ms_at, ms_off, q0, q1, q2, q3, q4, pl_s, Nat.add_sub_cancel, and_self]
                    · by_cases c2 : x = v
                      · subst c2
                        simp (disch := omega) only [up_at, up_off, ms_at, ms_off, e0, e1, e2, e3, e4, pl_s, Nat.add_sub_cancel, and_self]
                      · simp (disch := omega) only [up_off, ms_off]
                        exact hx2
                  have nF : FB V B' (ms (ms τ 4 (6 * v + 4) (ι u)) 4 (6 * u + 4) (ι v)) := by
                    intro x hx
                    have hx2 := b6 x hx
                    show _ = ι (up (up B v 5 (u + 1)) u 5 (v + 1) x 0) ∧ _ = ι (up (up B v 5 (u + 1)) u 5 (v + 1) x 1) ∧ _ = ι (up (up B v 5 (u + 1)) u 5 (v + 1) x 2) ∧ _ = ι (up (up B v 5 (u + 1)) u 5 (v + 1) x 3) ∧ _ = pl (up (up B v 5 (u + 1)) u 5 (v + 1) x 5) ∧ _ = ι (up (up B v 5 (u + 1)) u 5 (v + 1) x 4)
                    by_cases c1 : x = u
                    · subst c1
                      simp (disch := omega) only [up_at, up_off, ms_at, ms_off, s0, s1, s2, s3, s5, pl_s, Nat.add_sub_cancel, and_self]
                    · by_cases c2 : x = v
                      · subst c2
                        simp (disch := omega) only [up_at, up_off, ms_at, ms_off, d0, d1, d2, d3, d5, pl_s, Nat.add_sub_cancel, and_self]
                      · simp (disch := omega) only [up_off, ms_off]
                        exact hx2
                  have mc : f_X6_matures (ms (ms σ (15 + 9 + v) 5 (ι u)) (15 + 9 + u) 5 (ι v)) 15 (15 + 9 + v) = some (ι (matN B' v)) := c_matures (by simp (disch := omega) only [a2, ↓reduceIte, eq_self, Bool.false_eq_true, reduceCtorEq, ob_s, ob2_s, od_e, onl_n, onl_s, ι_nat, ι_add, ι_mul, ι_sub, ι_addm, lt_t, lt_f, le_t, le_f, eq_t, eq_f, inb_t, inb_f, neq_f, neq_f2, neq_nf, nlt_t, nlt_f, nle_t, nle_f, ms_at, ms_off, up_at, up_off, L0, L1, L2, L3, L4, L5, L6, L7, L8, L9, L10, L11, L12, L13, L14, L15, L16, L17, L18, L19, L20, L21, L22, L23, L24, L30, L31, L32, L40, L41, L42, L43, L45, L47, L48, L52, L57, L59, L60, L61, L63, L64, L72, L97, L99, L100, L122, L160, L161, L200, L255, L999, L1200, L1998, L99999, L100000, L1000005]) hV nC hB' i1
                  have mr : f_X9_maturesOf (ms (ms τ 4 (6 * v + 4) (ι u)) 4 (6 * u + 4) (ι v)) (ι v) = some (ι (matN B' v)) := r_matures hV nF hB' i1
                  refine ⟨ι (matN B' v), _, _, ?_, ?_, set_vow (σ' := ms (ms σ (15 + 9 + v) 5 (ι u)) (15 + 9 + u) 5 (ι v)) (τ' := ms (ms τ 4 (6 * v + 4) (ι u)) 4 (6 * u + 4) (ι v)) (B' := B') h0 hA hOX hC hS hS9 hF hCX hFX hI hSh hD ?_ ?_ ⟨hB', hS'⟩ nC nF⟩
                  · simp (disch := omega) only [vc, uc, e4, q4, e5, q5, h1, h2, pl_0, h5, e0, q0, mc, ↓reduceIte, eq_self, Bool.false_eq_true, reduceCtorEq, ob_s, ob2_s, od_e, onl_n, onl_s, ι_nat, ι_add, ι_mul, ι_sub, ι_addm, lt_t, lt_f, le_t, le_f, eq_t, eq_f, inb_t, inb_f, neq_f, neq_f2, neq_nf, nlt_t, nlt_f, nle_t, nle_f, ms_at, ms_off, up_at, up_off, L0, L1, L2, L3, L4, L5, L6, L7, L8, L9, L10, L11, L12, L13, L14, L15, L16, L17, L18, L19, L20, L21, L22, L23, L24, L30, L31, L32, L40, L41, L42, L43, L45, L47, L48, L52, L57, L59, L60, L61, L63, L64, L72, L97, L99, L100, L122, L160, L161, L200, L255, L999, L1200, L1998, L99999, L100000, L1000005]
                  · simp (disch := omega) only [vr, ur, sv, su, d4, s4, pl_0, d0, s0, h5, mr, h3, h4, ↓reduceIte, eq_self, Bool.false_eq_true, reduceCtorEq, ob_s, ob2_s, od_e, onl_n, onl_s, ι_nat, ι_add, ι_mul, ι_sub, ι_addm, lt_t, lt_f, le_t, le_f, eq_t, eq_f, inb_t, inb_f, neq_f, neq_f2, neq_nf, nlt_t, nlt_f, nle_t, nle_f, ms_at, ms_off, up_at, up_off, L0, L1, L2, L3, L4, L5, L6, L7, L8, L9, L10, L11, L12, L13, L14, L15, L16, L17, L18, L19, L20, L21, L22, L23, L24, L30, L31, L32, L40, L41, L42, L43, L45, L47, L48, L52, L57, L59, L60, L61, L63, L64, L72, L97, L99, L100, L122, L160, L161, L200, L255, L999, L1200, L1998, L99999, L100000, L1000005]
                  · intro k j h
                    simp (disch := omega) only [ms_off]
                  · intro k j h
                    simp (disch := omega) only [ms_off]
                · refine ⟨-ι 3, σ, τ, ?_, ?_, hR, rfl⟩
                  · simp (disch := omega) only [vc, uc, e4, q4, e5, q5, h1, h2, pl_0, e0, q0, ↓reduceIte, eq_self, Bool.false_eq_true, reduceCtorEq, ob_s, ob2_s, od_e, onl_n, onl_s, ι_nat, ι_add, ι_mul, ι_sub, ι_addm, lt_t, lt_f, le_t, le_f, eq_t, eq_f, inb_t, inb_f, neq_f, neq_f2, neq_nf, nlt_t, nlt_f, nle_t, nle_f, ms_at, ms_off, up_at, up_off, L0, L1, L2, L3, L4, L5, L6, L7, L8, L9, L10, L11, L12, L13, L14, L15, L16, L17, L18, L19, L20, L21, L22, L23, L24, L30, L31, L32, L40, L41, L42, L43, L45, L47, L48, L52, L57, L59, L60, L61, L63, L64, L72, L97, L99, L100, L122, L160, L161, L200, L255, L999, L1200, L1998, L99999, L100000, L1000005]
                  · simp (disch := omega) only [vr, ur, sv, su, d4, s4, pl_0, d0, s0, h3, h4, ↓reduceIte, eq_self, Bool.false_eq_true, reduceCtorEq, ob_s, ob2_s, od_e, onl_n, onl_s, ι_nat, ι_add, ι_mul, ι_sub, ι_addm, lt_t, lt_f, le_t, le_f, eq_t, eq_f, inb_t, inb_f, neq_f, neq_f2, neq_nf, nlt_t, nlt_f, nle_t, nle_f, ms_at, ms_off, up_at, up_off, L0, L1, L2, L3, L4, L5, L6, L7, L8, L9, L10, L11, L12, L13, L14, L15, L16, L17, L18, L19, L20, L21, L22, L23, L24, L30, L31, L32, L40, L41, L42, L43, L45, L47, L48, L52, L57, L59, L60, L61, L63, L64, L72, L97, L99, L100, L122, L160, L161, L200, L255, L999, L1200, L1998, L99999, L100000, L1000005]
              · refine ⟨-ι 3, σ, τ, ?_, ?_, hR, rfl⟩
                · simp (disch := omega) only [vc, uc, e4, q4, e5, q5, h1, h2, pl_0, pl_s, ↓reduceIte, eq_self, Bool.false_eq_true, reduceCtorEq, ob_s, ob2_s, od_e, onl_n, onl_s, ι_nat, ι_add, ι_mul, ι_sub, ι_addm, lt_t, lt_f, le_t, le_f, eq_t, eq_f, inb_t, inb_f, neq_f, neq_f2, neq_nf, nlt_t, nlt_f, nle_t, nle_f, ms_at, ms_off, up_at, up_off, L0, L1, L2, L3, L4, L5, L6, L7, L8, L9, L10, L11, L12, L13, L14, L15, L16, L17, L18, L19, L20, L21, L22, L23, L24, L30, L31, L32, L40, L41, L42, L43, L45, L47, L48, L52, L57, L59, L60, L61, L63, L64, L72, L97, L99, L100, L122, L160, L161, L200, L255, L999, L1200, L1998, L99999, L100000, L1000005]
                · simp (disch := omega) only [vr, ur, sv, su, d4, s4, pl_0, pl_s, h3, ↓reduceIte, eq_self, Bool.false_eq_true, reduceCtorEq, ob_s, ob2_s, od_e, onl_n, onl_s, ι_nat, ι_add, ι_mul, ι_sub, ι_addm, lt_t, lt_f, le_t, le_f, eq_t, eq_f, inb_t, inb_f, neq_f, neq_f2, neq_nf, nlt_t, nlt_f, nle_t, nle_f, ms_at, ms_off, up_at, up_off, L0, L1, L2, L3, L4, L5, L6, L7, L8, L9, L10, L11, L12, L13, L14, L15, L16, L17, L18, L19, L20, L21, L22, L23, L24, L30, L31, L32, L40, L41, L42, L43, L45, L47, L48, L52, L57, L59, L60, L61, L63, L64, L72, L97, L99, L100, L122, L160, L161, L200, L255, L999, L1200, L1998, L99999, L100000, L1000005]
            · refine ⟨-ι 3, σ, τ, ?_, ?_, hR, rfl⟩
              · simp (disch := omega) only [vc, uc, e4, q4, e5, h1, h2, pl_s, ↓reduceIte, eq_self, Bool.false_eq_true, reduceCtorEq, ob_s, ob2_s, od_e, onl_n, onl_s, ι_nat, ι_add, ι_mul, ι_sub, ι_addm, lt_t, lt_f, le_t, le_f, eq_t, eq_f, inb_t, inb_f, neq_f, neq_f2, neq_nf, nlt_t, nlt_f, nle_t, nle_f, ms_at, ms_off, up_at, up_off, L0, L1, L2, L3, L4, L5, L6, L7, L8, L9, L10, L11, L12, L13, L14, L15, L16, L17, L18, L19, L20, L21, L22, L23, L24, L30, L31, L32, L40, L41, L42, L43, L45, L47, L48, L52, L57, L59, L60, L61, L63, L64, L72, L97, L99, L100, L122, L160, L161, L200, L255, L999, L1200, L1998, L99999, L100000, L1000005]
              · simp (disch := omega) only [vr, ur, sv, su, d4, pl_s, ↓reduceIte, eq_self, Bool.false_eq_true, reduceCtorEq, ob_s, ob2_s, od_e, onl_n, onl_s, ι_nat, ι_add, ι_mul, ι_sub, ι_addm, lt_t, lt_f, le_t, le_f, eq_t, eq_f, inb_t, inb_f, neq_f, neq_f2, neq_nf, nlt_t, nlt_f, nle_t, nle_f, ms_at, ms_off, up_at, up_off, L0, L1, L2, L3, L4, L5, L6, L7, L8, L9, L10, L11, L12, L13, L14, L15, L16, L17, L18, L19, L20, L21, L22, L23, L24, L30, L31, L32, L40, L41, L42, L43, L45, L47, L48, L52, L57, L59, L60, L61, L63, L64, L72, L97, L99, L100, L122, L160, L161, L200, L255, L999, L1200, L1998, L99999, L100000, L1000005]
          · rw [if_neg h2] at su
            refine ⟨-ι 3, σ, τ, ?_, ?_, hR, rfl⟩
            · simp (disch := omega) only [vc, uc, e4, q4, h1, ↓reduceIte, eq_self, Bool.false_eq_true, reduceCtorEq, ob_s, ob2_s, od_e, onl_n, onl_s, ι_nat, ι_add, ι_mul, ι_sub, ι_addm, lt_t, lt_f, le_t, le_f, eq_t, eq_f, inb_t, inb_f, neq_f, neq_f2, neq_nf, nlt_t, nlt_f, nle_t, nle_f, ms_at, ms_off, up_at, up_off, L0, L1, L2, L3, L4, L5, L6, L7, L8, L9, L10, L11, L12, L13, L14, L15, L16, L17, L18, L19, L20, L21, L22, L23, L24, L30, L31, L32, L40, L41, L42, L43, L45, L47, L48, L52, L57, L59, L60, L61, L63, L64, L72, L97, L99, L100, L122, L160, L161, L200, L255, L999, L1200, L1998, L99999, L100000, L1000005]
            · simp (disch := omega) only [vr, ur, sv, su, ↓reduceIte, eq_self, Bool.false_eq_true, reduceCtorEq, ob_s, ob2_s, od_e, onl_n, onl_s, ι_nat, ι_add, ι_mul, ι_sub, ι_addm, lt_t, lt_f, le_t, le_f, eq_t, eq_f, inb_t, inb_f, neq_f, neq_f2, neq_nf, nlt_t, nlt_f, nle_t, nle_f, ms_at, ms_off, up_at, up_off, L0, L1, L2, L3, L4, L5, L6, L7, L8, L9, L10, L11, L12, L13, L14, L15, L16, L17, L18, L19, L20, L21, L22, L23, L24, L30, L31, L32, L40, L41, L42, L43, L45, L47, L48, L52, L57, L59, L60, L61, L63, L64, L72, L97, L99, L100, L122, L160, L161, L200, L255, L999, L1200, L1998, L99999, L100000, L1000005]
        · rw [if_neg h1] at sv
          refine ⟨-ι 3, σ, τ, ?_, ?_, hR, rfl⟩
          · simp (disch := omega) only [vc, uc, e4, ↓reduceIte, eq_self, Bool.false_eq_true, reduceCtorEq, ob_s, ob2_s, od_e, onl_n, onl_s, ι_nat, ι_add, ι_mul, ι_sub, ι_addm, lt_t, lt_f, le_t, le_f, eq_t, eq_f, inb_t, inb_f, neq_f, neq_f2, neq_nf, nlt_t, nlt_f, nle_t, nle_f, ms_at, ms_off, up_at, up_off, L0, L1, L2, L3, L4, L5, L6, L7, L8, L9, L10, L11, L12, L13, L14, L15, L16, L17, L18, L19, L20, L21, L22, L23, L24, L30, L31, L32, L40, L41, L42, L43, L45, L47, L48, L52, L57, L59, L60, L61, L63, L64, L72, L97, L99, L100, L122, L160, L161, L200, L255, L999, L1200, L1998, L99999, L100000, L1000005]
          · simp (disch := omega) only [vr, ur, sv, ↓reduceIte, eq_self, Bool.false_eq_true, reduceCtorEq, ob_s, ob2_s, od_e, onl_n, onl_s, ι_nat, ι_add, ι_mul, ι_sub, ι_addm, lt_t, lt_f, le_t, le_f, eq_t, eq_f, inb_t, inb_f, neq_f, neq_f2, neq_nf, nlt_t, nlt_f, nle_t, nle_f, ms_at, ms_off, up_at, up_off, L0, L1, L2, L3, L4, L5, L6, L7, L8, L9, L10, L11, L12, L13, L14, L15, L16, L17, L18, L19, L20, L21, L22, L23, L24, L30, L31, L32, L40, L41, L42, L43, L45, L47, L48, L52, L57, L59, L60, L61, L63, L64, L72, L97, L99, L100, L122, L160, L161, L200, L255, L999, L1200, L1998, L99999, L100000, L1000005]
    · refine ⟨-ι 6, σ, τ, ?_, ?_, hR, rfl⟩
      · simp (disch := omega) only [vc, c_vowNo a2 hV g2, ↓reduceIte, eq_self, Bool.false_eq_true, reduceCtorEq, ob_s, ob2_s, od_e, onl_n, onl_s, ι_nat, ι_add, ι_mul, ι_sub, ι_addm, lt_t, lt_f, le_t, le_f, eq_t, eq_f, inb_t, inb_f, neq_f, neq_f2, neq_nf, nlt_t, nlt_f, nle_t, nle_f, ms_at, ms_off, up_at, up_off, L0, L1, L2, L3, L4, L5, L6, L7, L8, L9, L10, L11, L12, L13, L14, L15, L16, L17, L18, L19, L20, L21, L22, L23, L24, L30, L31, L32, L40, L41, L42, L43, L45, L47, L48, L52, L57, L59, L60, L61, L63, L64, L72, L97, L99, L100, L122, L160, L161, L200, L255, L999, L1200, L1998, L99999, L100000, L1000005]
      · simp (disch := omega) only [vr, r_isVowNo b2 hV g2, ↓reduceIte, eq_self, Bool.false_eq_true, reduceCtorEq, ob_s, ob2_s, od_e, onl_n, onl_s, ι_nat, ι_add, ι_mul, ι_sub, ι_addm, lt_t, lt_f, le_t, le_f, eq_t, eq_f, inb_t, inb_f, neq_f, neq_f2, neq_nf, nlt_t, nlt_f, nle_t, nle_f, ms_at, ms_off, up_at, up_off, L0, L1, L2, L3, L4, L5, L6, L7, L8, L9, L10, L11, L12, L13, L14, L15, L16, L17, L18, L19, L20, L21, L22, L23, L24, L30, L31, L32, L40, L41, L42, L43, L45, L47, L48, L52, L57, L59, L60, L61, L63, L64, L72, L97, L99, L100, L122, L160, L161, L200, L255, L999, L1200, L1998, L99999, L100000, L1000005]
  · refine ⟨-ι 6, σ, τ, ?_, ?_, hR, rfl⟩
    · rcases argN V v2 with ⟨u, j1, j2, rfl⟩ | g2
      · simp (disch := omega) only [c_vowNo a2 hV g1, c_vowAt a2 hV j1, ↓reduceIte, eq_self, Bool.false_eq_true, reduceCtorEq, ob_s, ob2_s, od_e, onl_n, onl_s, ι_nat, ι_add, ι_mul, ι_sub, ι_addm, lt_t, lt_f, le_t, le_f, eq_t, eq_f, inb_t, inb_f, neq_f, neq_f2, neq_nf, nlt_t, nlt_f, nle_t, nle_f, ms_at, ms_off, up_at, up_off, L0, L1, L2, L3, L4, L5, L6, L7, L8, L9, L10, L11, L12, L13, L14, L15, L16, L17, L18, L19, L20, L21, L22, L23, L24, L30, L31, L32, L40, L41, L42, L43, L45, L47, L48, L52, L57, L59, L60, L61, L63, L64, L72, L97, L99, L100, L122, L160, L161, L200, L255, L999, L1200, L1998, L99999, L100000, L1000005]
      · simp (disch := omega) only [c_vowNo a2 hV g1, c_vowNo a2 hV g2, ↓reduceIte, eq_self, Bool.false_eq_true, reduceCtorEq, ob_s, ob2_s, od_e, onl_n, onl_s, ι_nat, ι_add, ι_mul, ι_sub, ι_addm, lt_t, lt_f, le_t, le_f, eq_t, eq_f, inb_t, inb_f, neq_f, neq_f2, neq_nf, nlt_t, nlt_f, nle_t, nle_f, ms_at, ms_off, up_at, up_off, L0, L1, L2, L3, L4, L5, L6, L7, L8, L9, L10, L11, L12, L13, L14, L15, L16, L17, L18, L19, L20, L21, L22, L23, L24, L30, L31, L32, L40, L41, L42, L43, L45, L47, L48, L52, L57, L59, L60, L61, L63, L64, L72, L97, L99, L100, L122, L160, L161, L200, L255, L999, L1200, L1998, L99999, L100000, L1000005]
    · simp (disch := omega) only [r_isVowNo b2 hV g1, ↓reduceIte, eq_self, Bool.false_eq_true, reduceCtorEq, ob_s, ob2_s, od_e, onl_n, onl_s, ι_nat, ι_add, ι_mul, ι_sub, ι_addm, lt_t, lt_f, le_t, le_f, eq_t, eq_f, inb_t, inb_f, neq_f, neq_f2, neq_nf, nlt_t, nlt_f, nle_t, nle_f, ms_at, ms_off, up_at, up_off, L0, L1, L2, L3, L4, L5, L6, L7, L8, L9, L10, L11, L12, L13, L14, L15, L16, L17, L18, L19, L20, L21, L22, L23, L24, L30, L31, L32, L40, L41, L42, L43, L45, L47, L48, L52, L57, L59, L60, L61, L63, L64, L72, L97, L99, L100, L122, L160, L161, L200, L255, L999, L1200, L1998, L99999, L100000, L1000005]
/-- a bit of a small set -/
def bitN (s f : Nat) : Nat := s / 2 ^ f % 2
theorem bit_c {s f : Nat} (hs : s < 256) (hf : f < 8) : ((ι s >>> (ι f &&& ι 31)) &&& ι 1) = ι (bitN s f) := by
  have : ∀ s, s < 256 → ∀ f, f < 8 → ((ι s >>> (ι f &&& ι 31)) &&& ι 1) = ι (bitN s f) := by decide +kernel
  exact this s hs f hf
theorem bitN_le {s f : Nat} : bitN s f ≤ 1 := by
  unfold bitN
  omega
/-- what stands to a man, but from those left out -/
def toN (V : Nat) (B : Nat → Nat → Nat) (m left : Nat) : Nat := sumF (fun v => if B v 4 = 0 ∧ B v 1 = m ∧ bitN left (B v 0) = 0 then B v 2 else 0) 0 V
theorem c_owedTo {t M V m left : Nat} {B : Nat → Nat → Nat} {σ : Mem} (hV : σ t 4 = ι V) (h8 : V ≤ 8) (hB : CB t V B σ) (hO : OKB M V B) (hM : M ≤ 6) (hm : m < 100) (hl : left < 256) : f_X6_owedTo σ t (ι m) (ι left) = some (ι (toN V B m left)) := by
  have L : ∀ d i n s, i + d = V → d < n → f_X6_owedTo_b5 σ t (ι m) (ι left) n (ι s) (ι i) = some (ι (s + sumF (fun v => if B v 4 = 0 ∧ B v 1 = m ∧ bitN left (B v 0) = 0 then B v 2 else 0) i d)) := by
    intro d
    induction d with
    | zero =>
      intro i n s hi hn
      obtain ⟨n, rfl⟩ : ∃ k, n = k + 1 := ⟨n - 1, by omega⟩
      unfold f_X6_owedTo_b5
      simp (disch := omega) only [hV, ↓reduceIte, eq_self, Bool.false_eq_true, reduceCtorEq, ob_s, ob2_s, od_e, onl_n, onl_s, ι_nat, ι_add, ι_mul, ι_sub, ι_addm, lt_t, lt_f, le_t, le_f, eq_t, eq_f, inb_t, inb_f, neq_f, neq_f2, neq_nf, nlt_t, nlt_f, nle_t, nle_f, ms_at, ms_off, up_at, up_off, L0, L1, L2, L3, L4, L5, L6, L7, L8, L9, L10, L11, L12, L13, L14, L15, L16, L17, L18, L19, L20, L21, L22, L23, L24, L30, L31, L32, L40, L41, L42, L43, L45, L47, L48, L52, L57, L59, L60, L61, L63, L64, L72, L97, L99, L100, L122, L160, L161, L200, L255, L999, L1200, L1998, L99999, L100000, L1000005]
      rfl
    | succ d ih =>
      intro i n s hi hn
      obtain ⟨n, rfl⟩ : ∃ k, n = k + 1 := ⟨n - 1, by omega⟩
      have b := hO i (by omega)
      have bl := bitN_le (s := left) (f := B i 0)
      have bc := bit_c (s := left) (f := B i 0) hl (by omega)
      unfold f_X6_owedTo_b5
      by_cases h1 : B i 4 = 0
      · by_cases h2 : B i 1 = m
        · by_cases h3 : bitN left (B i 0) = 0
          · rw [h3] at bc
            simp (disch := omega) only [hV, cb_0 hB, cb_1 hB, cb_2 hB, cb_4 hB, f_X6_owedTo_b81, bc, h1, h2, h3, and_self, sumF, show (31 : Int32) = ι 31 from rfl, ↓reduceIte, eq_self, Bool.false_eq_true, reduceCtorEq, ob_s, ob2_s, od_e, onl_n, onl_s, ι_nat, ι_add, ι_mul, ι_sub, ι_addm, lt_t, lt_f, le_t, le_f, eq_t, eq_f, inb_t, inb_f, neq_f, neq_f2, neq_nf, nlt_t, nlt_f, nle_t, nle_f, ms_at, ms_off, up_at, up_off, L0, L1, L2, L3, L4, L5, L6, L7, L8, L9, L10, L11, L12, L13, L14, L15, L16, L17, L18, L19, L20, L21, L22, L23, L24, L30, L31, L32, L40, L41, L42, L43, L45, L47, L48, L52, L57, L59, L60, L61, L63, L64, L72, L97, L99, L100, L122, L160, L161, L200, L255, L999, L1200, L1998, L99999, L100000, L1000005]
            rw [ih _ _ _ (by omega) (by omega), Nat.add_assoc]
          · simp (disch := omega) only [hV, cb_0 hB, cb_1 hB, cb_2 hB, cb_4 hB, f_X6_owedTo_b81, bc, h1, h2, h3, and_false, sumF, Nat.zero_add, show (31 : Int32) = ι 31 from rfl, ↓reduceIte, eq_self, Bool.false_eq_true, reduceCtorEq, ob_s, ob2_s, od_e, onl_n, onl_s, ι_nat, ι_add, ι_mul, ι_sub, ι_addm, lt_t, lt_f, le_t, le_f, eq_t, eq_f, inb_t, inb_f, neq_f, neq_f2, neq_nf, nlt_t, nlt_f, nle_t, nle_f, ms_at, ms_off, up_at, up_off, L0, L1, L2, L3, L4, L5, L6, L7, L8, L9, L10, L11, L12, L13, L14, L15, L16, L17, L18, L19, L20, L21, L22, L23, L24, L30, L31, L32, L40, L41, L42, L43, L45, L47, L48, L52, L57, L59, L60, L61, L63, L64, L72, L97, L99, L100, L122, L160, L161, L200, L255, L999, L1200, L1998, L99999, L100000, L1000005]
            rw [ih _ _ _ (by omega) (by omega)]
        · simp (disch := omega) only [hV, cb_0 hB, cb_1 hB, cb_2 hB, cb_4 hB, f_X6_owedTo_b81, h1, h2, false_and, and_false, sumF, Nat.zero_add, ↓reduceIte, eq_self, Bool.false_eq_true, reduceCtorEq, ob_s, ob2_s, od_e, onl_n, onl_s, ι_nat, ι_add, ι_mul, ι_sub, ι_addm, lt_t, lt_f, le_t, le_f, eq_t, eq_f, inb_t, inb_f, neq_f, neq_f2, neq_nf, nlt_t, nlt_f, nle_t, nle_f, ms_at, ms_off, up_at, up_off, L0, L1, L2, L3, L4, L5, L6, L7, L8, L9, L10, L11, L12, L13, L14, L15, L16, L17, L18, L19, L20, L21, L22, L23, L24, L30, L31, L32, L40, L41, L42, L43, L45, L47, L48, L52, L57, L59, L60, L61, L63, L64, L72, L97, L99, L100, L122, L160, L161, L200, L255, L999, L1200, L1998, L99999, L100000, L1000005]
          rw [ih _ _ _ (by omega) (by omega)]
      · simp (disch := omega) only [hV, cb_0 hB, cb_1 hB, cb_2 hB, cb_4 hB, f_X6_owedTo_b81, h1, false_and, sumF, Nat.zero_add, ↓reduceIte, eq_self, Bool.false_eq_true, reduceCtorEq, ob_s, ob2_s, od_e, onl_n, onl_s, ι_nat, ι_add, ι_mul, ι_sub, ι_addm, lt_t, lt_f, le_t, le_f, eq_t, eq_f, inb_t, inb_f, neq_f, neq_f2, neq_nf, nlt_t, nlt_f, nle_t, nle_f, ms_at, ms_off, up_at, up_off, L0, L1, L2, L3, L4, L5, L6, L7, L8, L9, L10, L11, L12, L13, L14, L15, L16, L17, L18, L19, L20, L21, L22, L23, L24, L30, L31, L32, L40, L41, L42, L43, L45, L47, L48, L52, L57, L59, L60, L61, L63, L64, L72, L97, L99, L100, L122, L160, L161, L200, L255, L999, L1200, L1998, L99999, L100000, L1000005]
        rw [ih _ _ _ (by omega) (by omega)]
  unfold f_X6_owedTo toN
  rw [L0, L V 0 FU 0 (by omega) (by unfold FU; omega), Nat.zero_add]
theorem r_net {M V m : Nat} {B : Nat → Nat → Nat} {τ : Mem} (hV : τ 0 4 = ι V) (h8 : V ≤ 8) (hB : FB V B τ) (hO : OKB M V B) (hM : M ≤ 6) (hm : m < 100) (x : Int32) : f_X9_net_b21 τ (ι m) FU x (ι 0) = some (x + ι (toN V B m 0)) := by
  have L : ∀ d i n x, i + d = V → d < n → f_X9_net_b21 τ (ι m) n x (ι i) = some (x + ι (sumF (fun v => if B v 4 = 0 ∧ B v 1 = m ∧ bitN 0 (B v 0) = 0 then B v 2 else 0) i d)) := by
    intro d
    induction d with
    | zero =>
      intro i n x hi hn
      obtain ⟨n, rfl⟩ : ∃ k, n = k + 1 := ⟨n - 1, by omega⟩
      unfold f_X9_net_b21
      simp (disch := omega) only [hV, ↓reduceIte, eq_self, Bool.false_eq_true, reduceCtorEq, ob_s, ob2_s, od_e, onl_n, onl_s, ι_nat, ι_add, ι_mul, ι_sub, ι_addm, lt_t, lt_f, le_t, le_f, eq_t, eq_f, inb_t, inb_f, neq_f, neq_f2, neq_nf, nlt_t, nlt_f, nle_t, nle_f, ms_at, ms_off, up_at, up_off, L0, L1, L2, L3, L4, L5, L6, L7, L8, L9, L10, L11, L12, L13, L14, L15, L16, L17, L18, L19, L20, L21, L22, L23, L24, L30, L31, L32, L40, L41, L42, L43, L45, L47, L48, L52, L57, L59, L60, L61, L63, L64, L72, L97, L99, L100, L122, L160, L161, L200, L255, L999, L1200, L1998, L99999, L100000, L1000005]
      exact congrArg some (Int32.add_zero x).symm
    | succ d ih =>
      intro i n x hi hn
      obtain ⟨n, rfl⟩ : ∃ k, n = k + 1 := ⟨n - 1, by omega⟩
      have b := hO i (by omega)
      have h3 : bitN 0 (B i 0) = 0 := by unfold bitN; rw [Nat.zero_div]
      unfold f_X9_net_b21
      by_cases h2 : B i 1 = m
      · by_cases h1 : B i 4 = 0
        · simp (disch := omega) only [hV, fb_1 hB, fb_2 hB, fb_5 hB, f_X9_net_b67, f_X9_net_b68, f_X9_stands, h1, h2, h3, and_self, sumF, ↓reduceIte, eq_self, Bool.false_eq_true, reduceCtorEq, ob_s, ob2_s, od_e, onl_n, onl_s, ι_nat, ι_add, ι_mul, ι_sub, ι_addm, lt_t, lt_f, le_t, le_f, eq_t, eq_f, inb_t, inb_f, neq_f, neq_f2, neq_nf, nlt_t, nlt_f, nle_t, nle_f, ms_at, ms_off, up_at, up_off, L0, L1, L2, L3, L4, L5, L6, L7, L8, L9, L10, L11, L12, L13, L14, L15, L16, L17, L18, L19, L20, L21, L22, L23, L24, L30, L31, L32, L40, L41, L42, L43, L45, L47, L48, L52, L57, L59, L60, L61, L63, L64, L72, L97, L99, L100, L122, L160, L161, L200, L255, L999, L1200, L1998, L99999, L100000, L1000005]
          rw [ih _ _ _ (by omega) (by omega), Int32.add_assoc, ι_add]
        · simp (disch := omega) only [hV, fb_1 hB, fb_2 hB, fb_5 hB, f_X9_net_b67, f_X9_net_b68, f_X9_stands, h1, h2, false_and, sumF, Nat.zero_add, ↓reduceIte, eq_self, Bool.false_eq_true, reduceCtorEq, ob_s, ob2_s, od_e, onl_n, onl_s, ι_nat, ι_add, ι_mul, ι_sub, ι_addm, lt_t, lt_f, le_t, le_f, eq_t, eq_f, inb_t, inb_f, neq_f, neq_f2, neq_nf, nlt_t, nlt_f, nle_t, nle_f, ms_at, ms_off, up_at, up_off, L0, L1, L2, L3, L4, L5, L6, L7, L8, L9, L10, L11, L12, L13, L14, L15, L16, L17, L18, L19, L20, L21, L22, L23, L24, L30, L31, L32, L40, L41, L42, L43, L45, L47, L48, L52, L57, L59, L60, L61, L63, L64, L72, L97, L99, L100, L122, L160, L161, L200, L255, L999, L1200, L1998, L99999, L100000, L1000005]
          rw [ih _ _ _ (by omega) (by omega), show x + ι 0 = x from Int32.add_zero x]
      · simp (disch := omega) only [hV, fb_1 hB, fb_2 hB, fb_5 hB, f_X9_net_b67, f_X9_net_b68, f_X9_stands, h2, false_and, and_false, sumF, Nat.zero_add, ↓reduceIte, eq_self, Bool.false_eq_true, reduceCtorEq, ob_s, ob2_s, od_e, onl_n, onl_s, ι_nat, ι_add, ι_mul, ι_sub, ι_addm, lt_t, lt_f, le_t, le_f, eq_t, eq_f, inb_t, inb_f, neq_f, neq_f2, neq_nf, nlt_t, nlt_f, nle_t, nle_f, ms_at, ms_off, up_at, up_off, L0, L1, L2, L3, L4, L5, L6, L7, L8, L9, L10, L11, L12, L13, L14, L15, L16, L17, L18, L19, L20, L21, L22, L23, L24, L30, L31, L32, L40, L41, L42, L43, L45, L47, L48, L52, L57, L59, L60, L61, L63, L64, L72, L97, L99, L100, L122, L160, L161, L200, L255, L999, L1200, L1998, L99999, L100000, L1000005]
        rw [ih _ _ _ (by omega) (by omega), show x + ι 0 = x from Int32.add_zero x]
  exact L V 0 FU x (by omega) (by unfold FU; omega)
theorem op_net : OP_net RR := by
  intro σ τ v1 hR
  obtain ⟨M, V, w, y, A, B, T, X, h0, hA, hB, hOX, hC, hS, hS9, hF, hCX, hFX, hI, hSh, hD⟩ := id hR
  obtain ⟨hM, hV, hw, hy⟩ := id h0
  obtain ⟨hB, hBs⟩ := id hB
  obtain ⟨a1, a2, a3, a4, a5, a6⟩ := id hC
  obtain ⟨b1, b2, b3, b4, b5, b6⟩ := id hF
  have hT := hOX.2.1
  have c1 := hCX.1
  have f1 := hFX.1
  unfold f_X8_net f_X9_net
  rcases argN M v1 with ⟨i, i1, i2, rfl⟩ | g1
  · refine ⟨ι (toN V B i 0) - ι (owedN V B i), ?_, ?_, hR⟩
    · rw [L0, c_manAt a1 hM i1, ob_s, onl_s, c_owedTo a2 hV a6 hB hM (by omega) (by omega), ob_s, c_owed a2 hV a6 hB hM (by omega), ob_s]
    · rw [r_isMan b1 hM i1, L0, if_neg (by decide), r_owed b2 hV b6 hB hM (by omega), ob_s, r_net b2 hV b6 hB hM (by omega), Int32.add_comm, Int32.sub_eq_add_neg]
  · refine ⟨-ι 1000005, ?_, ?_, hR⟩
    · simp (disch := omega) only [c_manNo a1 hM g1, ↓reduceIte, eq_self, Bool.false_eq_true, reduceCtorEq, ob_s, ob2_s, od_e, onl_n, onl_s, ι_nat, ι_add, ι_mul, ι_sub, ι_addm, lt_t, lt_f, le_t, le_f, eq_t, eq_f, inb_t, inb_f, neq_f, neq_f2, neq_nf, nlt_t, nlt_f, nle_t, nle_f, ms_at, ms_off, up_at, up_off, L0, L1, L2, L3, L4, L5, L6, L7, L8, L9, L10, L11, L12, L13, L14, L15, L16, L17, L18, L19, L20, L21, L22, L23, L24, L30, L31, L32, L40, L41, L42, L43, L45, L47, L48, L52, L57, L59, L60, L61, L63, L64, L72, L97, L99, L100, L122, L160, L161, L200, L255, L999, L1200, L1998, L99999, L100000, L1000005]
    · simp (disch := omega) only [r_isManNo b1 hM g1, ↓reduceIte, eq_self, Bool.false_eq_true, reduceCtorEq, ob_s, ob2_s, od_e, onl_n, onl_s, ι_nat, ι_add, ι_mul, ι_sub, ι_addm, lt_t, lt_f, le_t, le_f, eq_t, eq_f, inb_t, inb_f, neq_f, neq_f2, neq_nf, nlt_t, nlt_f, nle_t, nle_f, ms_at, ms_off, up_at, up_off, L0, L1, L2, L3, L4, L5, L6, L7, L8, L9, L10, L11, L12, L13, L14, L15, L16, L17, L18, L19, L20, L21, L22, L23, L24, L30, L31, L32, L40, L41, L42, L43, L45, L47, L48, L52, L57, L59, L60, L61, L63, L64, L72, L97, L99, L100, L122, L160, L161, L200, L255, L999, L1200, L1998, L99999, L100000, L1000005]
