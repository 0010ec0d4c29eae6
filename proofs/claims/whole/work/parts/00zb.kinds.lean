/-! THE PURE PART: kinds, film -/
def row3 (A : TB2) (i kd mo ol : Nat) : TB2 := fun u j => if u = i then (if j = 0 then kd else if j = 1 then mo else if j = 3 then ol else A u j) else A u j
theorem OKA_row3 {M i kd mo ol : Nat} {A : TB2} (h : OKA M A) (h1 : kd ≤ 5) (h2 : mo ≤ 9) (h3 : ol ≤ 9) : OKA M (row3 A i kd mo ol) := by
  intro u hu
  obtain ⟨o0, o1, o2, o3, o4, o5⟩ := h u hu
  by_cases c : u = i
  · unfold row3
    simp only [c, if_true]
    simp
    subst c
    exact ⟨h1, h2, o2, h3, o4, o5⟩
  · unfold row3
    simp only [c, if_false]
    exact ⟨o0, o1, o2, o3, o4, o5⟩
theorem r_set3 {M V w y i kd mo ol : Nat} {A A1 B : TB2} {τ : Mem} (hi : i < M) (hF : FT M V w y A1 B τ) (e : ∀ u j, (u ≠ i ∨ (j ≠ 0 ∧ j ≠ 1 ∧ j ≠ 3)) → A1 u j = A u j) : FT M V w y (row3 A i kd mo ol) B (ms (ms (ms τ 1 i (ι kd)) 2 i (ι mo)) 3 (4 * i + 1) (ι ol)) := by
  obtain ⟨b1, b2, b3, b4, b5, b6⟩ := hF
  refine ⟨?_, ?_, ?_, ?_, ?_, ?_⟩
  · simp (disch := omega) only [b1, ↓reduceIte, eq_self, Bool.false_eq_true, reduceCtorEq, ob_s, ob2_s, od_e, onl_n, onl_s, ι_nat, ι_add, ι_mul, ι_sub, ι_addm, lt_t, lt_f, le_t, le_f, eq_t, eq_f, inb_t, inb_f, neq_f, neq_f2, neq_nf, nlt_t, nlt_f, nle_t, nle_f, ms_at, ms_off, up_at, up_off, L0, L1, L2, L3, L4, L5, L6, L7, L8, L9, L10, L11, L12, L13, L14, L15, L16, L17, L18, L19, L20, L21, L22, L23, L24, L30, L31, L32, L40, L41, L42, L43, L45, L47, L48, L52, L57, L59, L60, L61, L63, L64, L72, L97, L99, L100, L122, L160, L161, L200, L255, L999, L1200, L1998, L99999, L100000, L1000005]
  · simp (disch := omega) only [b2, ↓reduceIte, eq_self, Bool.false_eq_true, reduceCtorEq, ob_s, ob2_s, od_e, onl_n, onl_s, ι_nat, ι_add, ι_mul, ι_sub, ι_addm, lt_t, lt_f, le_t, le_f, eq_t, eq_f, inb_t, inb_f, neq_f, neq_f2, neq_nf, nlt_t, nlt_f, nle_t, nle_f, ms_at, ms_off, up_at, up_off, L0, L1, L2, L3, L4, L5, L6, L7, L8, L9, L10, L11, L12, L13, L14, L15, L16, L17, L18, L19, L20, L21, L22, L23, L24, L30, L31, L32, L40, L41, L42, L43, L45, L47, L48, L52, L57, L59, L60, L61, L63, L64, L72, L97, L99, L100, L122, L160, L161, L200, L255, L999, L1200, L1998, L99999, L100000, L1000005]
  · simp (disch := omega) only [b3, ↓reduceIte, eq_self, Bool.false_eq_true, reduceCtorEq, ob_s, ob2_s, od_e, onl_n, onl_s, ι_nat, ι_add, ι_mul, ι_sub, ι_addm, lt_t, lt_f, le_t, le_f, eq_t, eq_f, inb_t, inb_f, neq_f, neq_f2, neq_nf, nlt_t, nlt_f, nle_t, nle_f, ms_at, ms_off, up_at, up_off, L0, L1, L2, L3, L4, L5, L6, L7, L8, L9, L10, L11, L12, L13, L14, L15, L16, L17, L18, L19, L20, L21, L22, L23, L24, L30, L31, L32, L40, L41, L42, L43, L45, L47, L48, L52, L57, L59, L60, L61, L63, L64, L72, L97, L99, L100, L122, L160, L161, L200, L255, L999, L1200, L1998, L99999, L100000, L1000005]
  · simp (disch := omega) only [b4, ↓reduceIte, eq_self, Bool.false_eq_true, reduceCtorEq, ob_s, ob2_s, od_e, onl_n, onl_s, ι_nat, ι_add, ι_mul, ι_sub, ι_addm, lt_t, lt_f, le_t, le_f, eq_t, eq_f, inb_t, inb_f, neq_f, neq_f2, neq_nf, nlt_t, nlt_f, nle_t, nle_f, ms_at, ms_off, up_at, up_off, L0, L1, L2, L3, L4, L5, L6, L7, L8, L9, L10, L11, L12, L13, L14, L15, L16, L17, L18, L19, L20, L21, L22, L23, L24, L30, L31, L32, L40, L41, L42, L43, L45, L47, L48, L52, L57, L59, L60, L61, L63, L64, L72, L97, L99, L100, L122, L160, L161, L200, L255, L999, L1200, L1998, L99999, L100000, L1000005]
  · intro u hu
    obtain ⟨d0, d1, d2, d3, d4, d5⟩ := b5 u hu
    by_cases c : u = i
    · subst c
      rw [e _ _ (by omega)] at d2 d4 d5
      refine ⟨?_, ?_, ?_, ?_, ?_, ?_⟩
      · simp (disch := omega) only [ms_at, ms_off, row3, ↓reduceIte]
      · simp (disch := omega) only [ms_at, ms_off, row3, ↓reduceIte]
        rfl
      · simp (disch := omega) only [ms_at, ms_off, row3, ↓reduceIte]
        exact d2
      · simp (disch := omega) only [ms_at, ms_off, row3, ↓reduceIte]
        rfl
      · simp (disch := omega) only [ms_at, ms_off, row3, ↓reduceIte]
        exact d4
      · simp (disch := omega) only [ms_at, ms_off, row3, ↓reduceIte]
        exact d5
    · rw [e _ _ (by omega)] at d0 d1 d2 d3 d4 d5
      simp (disch := omega) only [ms_off, row3, c, ↓reduceIte]
      exact ⟨d0, d1, d2, d3, d4, d5⟩
  · intro v hv
    have := b6 v hv
    simp (disch := omega) only [↓reduceIte, eq_self, Bool.false_eq_true, reduceCtorEq, ob_s, ob2_s, od_e, onl_n, onl_s, ι_nat, ι_add, ι_mul, ι_sub, ι_addm, lt_t, lt_f, le_t, le_f, eq_t, eq_f, inb_t, inb_f, neq_f, neq_f2, neq_nf, nlt_t, nlt_f, nle_t, nle_f, ms_at, ms_off, up_at, up_off, L0, L1, L2, L3, L4, L5, L6, L7, L8, L9, L10, L11, L12, L13, L14, L15, L16, L17, L18, L19, L20, L21, L22, L23, L24, L30, L31, L32, L40, L41, L42, L43, L45, L47, L48, L52, L57, L59, L60, L61, L63, L64, L72, L97, L99, L100, L122, L160, L161, L200, L255, L999, L1200, L1998, L99999, L100000, L1000005]
    exact this
theorem hS' {t M V w y i : Nat} {A B : TB2} {σ : Mem} (hA : OKA M A) (hC : CT t M V w y A B σ) (hi : i < M) : σ (t + 3 + i) 5 = ι 0 ∨ σ (t + 3 + i) 5 = ι 1 := by
  rw [ca_5 hC.2.2.2.2.1 hi]
  have := (hA i hi).2.2.2.2.2
  by_cases c : A i 5 = 0
  · rw [c]; exact Or.inl rfl
  · have c1 : A i 5 = 1 := by omega
    rw [c1]; exact Or.inr rfl
theorem op_kinds : OP_kinds RR := by
  intro σ τ v1 v2 v3 hR
  obtain ⟨M, V, w, y, A, B, T, X, h0, hA, hB, hOX, hC, hS, hS9, hF, hCX, hFX, hI, hSh, hD⟩ := id hR
  obtain ⟨hM, hV, hw, hy⟩ := id h0
  obtain ⟨hB, hBs⟩ := id hB
  obtain ⟨a1, a2, a3, a4, a5, a6⟩ := id hC
  obtain ⟨b1, b2, b3, b4, b5, b6⟩ := id hF
  have hT := hOX.2.1
  have c1 := hCX.1
  have f1 := hFX.1
  unfold f_X8_kinds f_X9_kinds
  rcases refusal hSh hM a1 b1 v1 v2 with ⟨n, n1, n2, n3, n4⟩ | ⟨s, so, sz, ce, i, rfl, rfl, i1, hN, n3, n4⟩
  · refine ⟨-ι n, σ, τ, ?_, ?_, hR, rfl⟩
    · rw [n3, ob_s, L0, if_neg (of_eq_false (neq_f2 n1 (by omega) (by omega)))]
    · rw [n4, ob_s, L0, if_neg (of_eq_false (neq_f2 n1 (by omega) (by omega)))]
  · rcases argN 3 v3 with ⟨q, q1, q2, rfl⟩ | g3
    · obtain ⟨o0, o1, o2, o3, o4, o5⟩ := hA i i1
      let ls := if q = 0 then 6 else 10
      let kd := fun v : Nat => if q = 0 then v else A i 0
      let mo := fun v : Nat => if q = 1 then v else A i 1
      let ol := fun v : Nat => if q = 2 then v else A i 3
      have L : ∀ d v n (x : Int32) (σ τ : Mem), v + d = ls → d < n → CT 15 M V w y A B σ → (∃ A1, FT M V w y A1 B τ ∧ ∀ u j, (u ≠ i ∨ (j ≠ 0 ∧ j ≠ 1 ∧ j ≠ 3)) → A1 u j = A u j) → CXT T X σ → FXT T X τ → ShN s so sz ce σ τ →
          ∃ r σ' τ', f_X8_kinds_b46 (ι s) (ι i) (ι q) (ι (ls - 1)) n σ x (ι v) = some (r, σ') ∧ f_X9_kinds_b62 (ι s) (ι i) (ι q) (ι (A i 0)) (ι (A i 1)) (ι (A i 3)) n τ x (ι v) = some (r, τ') ∧ eqC σ σ' ∧ τ' 1 i = ι (A i 0) ∧ τ' 2 i = ι (A i 1) ∧ τ' 3 (4 * i + 1) = ι (A i 3) ∧ ∀ k j, ¬ sR k j → ¬ (k = 1 ∧ j = i) → ¬ (k = 2 ∧ j = i) → ¬ (k = 3 ∧ j = 4 * i + 1) → τ' k j = τ k j := by
        have hls : ls = 6 ∧ q = 0 ∨ ls = 10 ∧ q ≠ 0 := by
          by_cases c : q = 0
          · exact Or.inl ⟨if_pos c, c⟩
          · exact Or.inr ⟨if_neg c, c⟩
        intro d
        induction d with
        | zero =>
          intro v n x σ τ hi hn hC hF hCX hFX hN
          obtain ⟨n, rfl⟩ : ∃ k, n = k + 1 := ⟨n - 1, by omega⟩
          refine ⟨x, σ, ms (ms (ms τ 1 i (ι (A i 0))) 2 i (ι (A i 1))) 3 (4 * i + 1) (ι (A i 3)), ?_, ?_, eqC.rfl, ?_, ?_, ?_, ?_⟩
          · rw [f_X8_kinds_b46, if_pos (by rw [lt_t (by omega) (by omega)]; trivial)]
          · rw [f_X9_kinds_b62]
            unfold f_X9_kinds_b75
            rcases hls with ⟨l1, l2⟩ | ⟨l1, l2⟩
            · simp (disch := omega) only [l2, ↓reduceIte, eq_self, Bool.false_eq_true, reduceCtorEq, ob_s, ob2_s, od_e, onl_n, onl_s, ι_nat, ι_add, ι_mul, ι_sub, ι_addm, lt_t, lt_f, le_t, le_f, eq_t, eq_f, inb_t, inb_f, neq_f, neq_f2, neq_nf, nlt_t, nlt_f, nle_t, nle_f, ms_at, ms_off, up_at, up_off, L0, L1, L2, L3, L4, L5, L6, L7, L8, L9, L10, L11, L12, L13, L14, L15, L16, L17, L18, L19, L20, L21, L22, L23, L24, L30, L31, L32, L40, L41, L42, L43, L45, L47, L48, L52, L57, L59, L60, L61, L63, L64, L72, L97, L99, L100, L122, L160, L161, L200, L255, L999, L1200, L1998, L99999, L100000, L1000005]
            · simp (disch := omega) only [↓reduceIte, eq_self, Bool.false_eq_true, reduceCtorEq, ob_s, ob2_s, od_e, onl_n, onl_s, ι_nat, ι_add, ι_mul, ι_sub, ι_addm, lt_t, lt_f, le_t, le_f, eq_t, eq_f, inb_t, inb_f, neq_f, neq_f2, neq_nf, nlt_t, nlt_f, nle_t, nle_f, ms_at, ms_off, up_at, up_off, L0, L1, L2, L3, L4, L5, L6, L7, L8, L9, L10, L11, L12, L13, L14, L15, L16, L17, L18, L19, L20, L21, L22, L23, L24, L30, L31, L32, L40, L41, L42, L43, L45, L47, L48, L52, L57, L59, L60, L61, L63, L64, L72, L97, L99, L100, L122, L160, L161, L200, L255, L999, L1200, L1998, L99999, L100000, L1000005]
          · simp (disch := omega) only [↓reduceIte, eq_self, Bool.false_eq_true, reduceCtorEq, ob_s, ob2_s, od_e, onl_n, onl_s, ι_nat, ι_add, ι_mul, ι_sub, ι_addm, lt_t, lt_f, le_t, le_f, eq_t, eq_f, inb_t, inb_f, neq_f, neq_f2, neq_nf, nlt_t, nlt_f, nle_t, nle_f, ms_at, ms_off, up_at, up_off, L0, L1, L2, L3, L4, L5, L6, L7, L8, L9, L10, L11, L12, L13, L14, L15, L16, L17, L18, L19, L20, L21, L22, L23, L24, L30, L31, L32, L40, L41, L42, L43, L45, L47, L48, L52, L57, L59, L60, L61, L63, L64, L72, L97, L99, L100, L122, L160, L161, L200, L255, L999, L1200, L1998, L99999, L100000, L1000005]
          · simp (disch := omega) only [↓reduceIte, eq_self, Bool.false_eq_true, reduceCtorEq, ob_s, ob2_s, od_e, onl_n, onl_s, ι_nat, ι_add, ι_mul, ι_sub, ι_addm, lt_t, lt_f, le_t, le_f, eq_t, eq_f, inb_t, inb_f, neq_f, neq_f2, neq_nf, nlt_t, nlt_f, nle_t, nle_f, ms_at, ms_off, up_at, up_off, L0, L1, L2, L3, L4, L5, L6, L7, L8, L9, L10, L11, L12, L13, L14, L15, L16, L17, L18, L19, L20, L21, L22, L23, L24, L30, L31, L32, L40, L41, L42, L43, L45, L47, L48, L52, L57, L59, L60, L61, L63, L64, L72, L97, L99, L100, L122, L160, L161, L200, L255, L999, L1200, L1998, L99999, L100000, L1000005]
          · simp (disch := omega) only [↓reduceIte, eq_self, Bool.false_eq_true, reduceCtorEq, ob_s, ob2_s, od_e, onl_n, onl_s, ι_nat, ι_add, ι_mul, ι_sub, ι_addm, lt_t, lt_f, le_t, le_f, eq_t, eq_f, inb_t, inb_f, neq_f, neq_f2, neq_nf, nlt_t, nlt_f, nle_t, nle_f, ms_at, ms_off, up_at, up_off, L0, L1, L2, L3, L4, L5, L6, L7, L8, L9, L10, L11, L12, L13, L14, L15, L16, L17, L18, L19, L20, L21, L22, L23, L24, L30, L31, L32, L40, L41, L42, L43, L45, L47, L48, L52, L57, L59, L60, L61, L63, L64, L72, L97, L99, L100, L122, L160, L161, L200, L255, L999, L1200, L1998, L99999, L100000, L1000005]
          · intro k j h1 h2 h3 h4
            simp (disch := omega) only [ms_off]
        | succ d ih =>
          intro v n x σ τ hi hn hC hF hCX hFX hN
          obtain ⟨n, rfl⟩ : ∃ k, n = k + 1 := ⟨n - 1, by omega⟩
          obtain ⟨A1, hF, hA1⟩ := hF
          obtain ⟨a1, a2, a3, a4, a5, a6⟩ := id hC
          obtain ⟨h0', h1, h2, h3, h4, h5, h6, h7, h8⟩ := id hN
          obtain ⟨e0, e1, e2, e3, e4, e5⟩ := a5 i i1
          have k5 : kd v ≤ 5 := by
            show (if q = 0 then v else A i 0) ≤ 5
            split <;> omega
          have k9 : mo v ≤ 9 := by
            show (if q = 1 then v else A i 1) ≤ 9
            split <;> omega
          have k9' : ol v ≤ 9 := by
            show (if q = 2 then v else A i 3) ≤ 9
            split <;> omega
          have hA' := OKA_row3 (i := i) hA k5 k9 k9'
          have hs : σ (15 + 3 + i) 5 = ι 0 ∨ σ (15 + 3 + i) 5 = ι 1 := hS' hA hC i1
          obtain ⟨σ0, p1, p2⟩ := c_manBecome (σ := σ) (a := 76) (b := 15 + 3 + i) (by omega) hs
          let jq := if q = 0 then 0 else if q = 1 then 1 else 3
          let σ1 := ms σ0 76 jq (ι v)
          have hjq : q = 0 ∧ jq = 0 ∨ q = 1 ∧ jq = 1 ∨ q = 2 ∧ jq = 3 := by
            have : q = 0 ∨ q = 1 ∨ q = 2 := by omega
            rcases this with c | c | c
            · left; exact ⟨c, if_pos c⟩
            · right; left
              refine ⟨c, ?_⟩
              show (if q = 0 then 0 else if q = 1 then 1 else 3) = 1
              rw [if_neg (by omega), if_pos c]
            · right; right
              refine ⟨c, ?_⟩
              show (if q = 0 then 0 else if q = 1 then 1 else 3) = 3
              rw [if_neg (by omega), if_neg (by omega)]
          have fr1 : ∀ k j, k ≠ 76 → σ1 k j = σ k j := by
            intro k j h
            show ms σ0 76 jq (ι v) k j = σ k j
            rw [ms_off (by omega), p2, if_neg (by omega)]
          have sc1 : eqC σ σ1 := fun k j h => fr1 k j (by unfold sC at h; omega)
          have g76 : ∀ j, j < 6 → σ0 76 j = σ (15 + 3 + i) j := fun j hj => by rw [p2, if_pos ⟨rfl, hj⟩]
          have hmc : MC1 76 (row3 A i (kd v) (mo v) (ol v) i) σ1 := by
            show ms σ0 76 jq (ι v) 76 0 = ι (if i = i then _ else _) ∧ ms σ0 76 jq (ι v) 76 1 = ι (if i = i then _ else _) ∧ ms σ0 76 jq (ι v) 76 2 = ι (if i = i then _ else _) ∧ ms σ0 76 jq (ι v) 76 3 = ι (if i = i then _ else _) ∧ ms σ0 76 jq (ι v) 76 4 = ι (if i = i then _ else _) ∧ ms σ0 76 jq (ι v) 76 5 = ι (if i = i then _ else _)
            simp only [if_true]
            show _ = ι (if q = 0 then v else A i 0) ∧ _ = ι (if q = 1 then v else A i 1) ∧ _ = ι (A i 2) ∧ _ = ι (if q = 2 then v else A i 3) ∧ _ = ι (A i 4) ∧ _ = ι (A i 5)
            rcases hjq with ⟨c, c2⟩ | ⟨c, c2⟩ | ⟨c, c2⟩
            · rw [c2, if_pos c, if_neg (by omega), if_neg (by omega)]
              refine ⟨ms_at rfl rfl, ?_, ?_, ?_, ?_, ?_⟩
              · rw [ms_off (by omega), g76 _ (by omega)]; exact e1
              · rw [ms_off (by omega), g76 _ (by omega)]; exact e2
              · rw [ms_off (by omega), g76 _ (by omega)]; exact e3
              · rw [ms_off (by omega), g76 _ (by omega)]; exact e4
              · rw [ms_off (by omega), g76 _ (by omega)]; exact e5
            · rw [c2, if_neg (by omega), if_pos c, if_neg (by omega)]
              refine ⟨?_, ms_at rfl rfl, ?_, ?_, ?_, ?_⟩
              · rw [ms_off (by omega), g76 _ (by omega)]; exact e0
              · rw [ms_off (by omega), g76 _ (by omega)]; exact e2
              · rw [ms_off (by omega), g76 _ (by omega)]; exact e3
              · rw [ms_off (by omega), g76 _ (by omega)]; exact e4
              · rw [ms_off (by omega), g76 _ (by omega)]; exact e5
            · rw [c2, if_neg (by omega), if_neg (by omega), if_pos c]
              refine ⟨?_, ?_, ?_, ms_at rfl rfl, ?_, ?_⟩
              · rw [ms_off (by omega), g76 _ (by omega)]; exact e0
              · rw [ms_off (by omega), g76 _ (by omega)]; exact e1
              · rw [ms_off (by omega), g76 _ (by omega)]; exact e2
              · rw [ms_off (by omega), g76 _ (by omega)]; exact e4
              · rw [ms_off (by omega), g76 _ (by omega)]; exact e5
          obtain ⟨σ2, s1, s2⟩ := c_other (ce := ce) hM hV (CT_sc hM hV sc1 hC) hB (CXT_sc sc1 hCX) hOX h0' h2 i1 hy (show 76 ≠ 75 by decide) hmc (OK1_of hA' i1) (show w < 10000 by omega) (by rw [fr1 _ _ (by omega)]; exact h4) (fun j hj => by rw [fr1 _ _ (by omega)]; exact h7 j hj)
          have hF2 := r_set3 (kd := kd v) (mo := mo v) (ol := ol v) i1 hF hA1
          have hFX2 : FXT T X (ms (ms (ms τ 1 i (ι (kd v))) 2 i (ι (mo v))) 3 (4 * i + 1) (ι (ol v))) := FXT_fr (fun k j h => by rw [ms_off (by omega), ms_off (by omega), ms_off (by omega)]) hFX
          obtain ⟨τ1, u1, u2⟩ := r_unlike (ce := ce) hFX2 hOX hF2 hA' hB hM hV h0' h2 hy i1 (show w < 10000 by omega) (by rw [ms_off (by omega), ms_off (by omega), ms_off (by omega)]; exact h6) (fun j hj => by rw [ms_off (by omega), ms_off (by omega), ms_off (by omega)]; exact h8 j hj)
          have ul := unlN_le (X := X) (y := y) (w := w) (ow := owedN V B i) (sz := sz) (a := row3 A i (kd v) (mo v) (ol v) i) (ce := ce)
          have er : ∀ k j, ¬ sR k j → ¬ (k = 1 ∧ j = i) → ¬ (k = 2 ∧ j = i) → ¬ (k = 3 ∧ j = 4 * i + 1) → τ1 k j = τ k j := fun k j c1 c2 c3 c4 => by rw [u2 k j c1, ms_off (by omega), ms_off (by omega), ms_off (by omega)]
          obtain ⟨r, σ', τ', g1, g2, g3, g4, g5, g6, g7⟩ := ih (v + 1) n (if unlN X y (row3 A i (kd v) (mo v) (ol v) i) w (owedN V B i) sz ce = 0 then x ||| (ι 1 <<< (ι v &&& 31)) else x) σ2 τ1 (by omega) (by omega) (CT_sc hM hV (sc1.tr s2.sc) hC) ⟨_, FT_sc hM hV u2 hF2, fun u j c => by
            unfold row3
            by_cases cu : u = i
            · rw [if_pos cu, if_neg (by omega), if_neg (by omega), if_neg (by omega)]
            · rw [if_neg cu]⟩ (CXT_sc (sc1.tr s2.sc) hCX) (FXT_sc u2 hFX2) (ShN_sc hN (fun k j q1 q2 => by rw [s2 k j (by omega) (by omega) (by omega), fr1 _ _ (by omega)]) (fun k j q1 q2 => er k j (by unfold sR; omega) (by omega) (by omega) (by omega)))
          refine ⟨r, σ', τ', ?_, ?_, (sc1.tr s2.sc).tr g3, g4, g5, g6, fun k j c1 c2 c3 c4 => by rw [g7 k j c1 c2 c3 c4, er k j c1 c2 c3 c4]⟩
          · have hb : f_X8_kinds_b46 (ι s) (ι i) (ι q) (ι (ls - 1)) (n + 1) σ x (ι v) = f_X8_kinds_b110 (f_X8_kinds_b46 (ι s) (ι i) (ι q) (ι (ls - 1)) n) σ1 (ι s) (ι i) (ι q) x (ι (ls - 1)) (ι v) := by
              rw [f_X8_kinds_b46, if_neg (by rw [lt_f (by omega) (by omega)]; exact id), c_manAt a1 hM i1, ob_s, p1, ob_s]
              show _ = f_X8_kinds_b110 _ (ms σ0 76 jq (ι v)) _ _ _ _ _ _
              rcases hjq with ⟨c, c2⟩ | ⟨c, c2⟩ | ⟨c, c2⟩
              · rw [c2, c]
                simp (disch := omega) only [↓reduceIte, eq_self, Bool.false_eq_true, reduceCtorEq, ob_s, ob2_s, od_e, onl_n, onl_s, ι_nat, ι_add, ι_mul, ι_sub, ι_addm, lt_t, lt_f, le_t, le_f, eq_t, eq_f, inb_t, inb_f, neq_f, neq_f2, neq_nf, nlt_t, nlt_f, nle_t, nle_f, ms_at, ms_off, up_at, up_off, L0, L1, L2, L3, L4, L5, L6, L7, L8, L9, L10, L11, L12, L13, L14, L15, L16, L17, L18, L19, L20, L21, L22, L23, L24, L30, L31, L32, L40, L41, L42, L43, L45, L47, L48, L52, L57, L59, L60, L61, L63, L64, L72, L97, L99, L100, L122, L160, L161, L200, L255, L999, L1200, L1998, L99999, L100000, L1000005]
              · rw [c2, c]
                simp (disch := omega) only [↓reduceIte, eq_self, Bool.false_eq_true, reduceCtorEq, ob_s, ob2_s, od_e, onl_n, onl_s, ι_nat, ι_add, ι_mul, ι_sub, ι_addm, lt_t, lt_f, le_t, le_f, eq_t, eq_f, inb_t, inb_f, neq_f, neq_f2, neq_nf, nlt_t, nlt_f, nle_t, nle_f, ms_at, ms_off, up_at, up_off, L0, L1, L2, L3, L4, L5, L6, L7, L8, L9, L10, L11, L12, L13, L14, L15, L16, L17, L18, L19, L20, L21, L22, L23, L24, L30, L31, L32, L40, L41, L42, L43, L45, L47, L48, L52, L57, L59, L60, L61, L63, L64, L72, L97, L99, L100, L122, L160, L161, L200, L255, L999, L1200, L1998, L99999, L100000, L1000005]
              · rw [c2, c]
                simp (disch := omega) only [↓reduceIte, eq_self, Bool.false_eq_true, reduceCtorEq, ob_s, ob2_s, od_e, onl_n, onl_s, ι_nat, ι_add, ι_mul, ι_sub, ι_addm, lt_t, lt_f, le_t, le_f, eq_t, eq_f, inb_t, inb_f, neq_f, neq_f2, neq_nf, nlt_t, nlt_f, nle_t, nle_f, ms_at, ms_off, up_at, up_off, L0, L1, L2, L3, L4, L5, L6, L7, L8, L9, L10, L11, L12, L13, L14, L15, L16, L17, L18, L19, L20, L21, L22, L23, L24, L30, L31, L32, L40, L41, L42, L43, L45, L47, L48, L52, L57, L59, L60, L61, L63, L64, L72, L97, L99, L100, L122, L160, L161, L200, L255, L999, L1200, L1998, L99999, L100000, L1000005]
            have x3 : σ1 15 5 = ι w := by rw [fr1 _ _ (by omega)]; exact a3
            have x4 : σ1 15 6 = ι y := by rw [fr1 _ _ (by omega)]; exact a4
            rw [hb]
            unfold f_X8_kinds_b110
            by_cases c : unlN X y (row3 A i (kd v) (mo v) (ol v) i) w (owedN V B i) sz ce = 0
            · rw [if_pos c] at g1
              simp (disch := omega) only [c_sheetAt h0', x3, x4, s1, pl_0 c, f_X8_kinds_b151, ↓reduceIte, eq_self, Bool.false_eq_true, reduceCtorEq, ob_s, ob2_s, od_e, onl_n, onl_s, ι_nat, ι_add, ι_mul, ι_sub, ι_addm, lt_t, lt_f, le_t, le_f, eq_t, eq_f, inb_t, inb_f, neq_f, neq_f2, neq_nf, nlt_t, nlt_f, nle_t, nle_f, ms_at, ms_off, up_at, up_off, L0, L1, L2, L3, L4, L5, L6, L7, L8, L9, L10, L11, L12, L13, L14, L15, L16, L17, L18, L19, L20, L21, L22, L23, L24, L30, L31, L32, L40, L41, L42, L43, L45, L47, L48, L52, L57, L59, L60, L61, L63, L64, L72, L97, L99, L100, L122, L160, L161, L200, L255, L999, L1200, L1998, L99999, L100000, L1000005]
              exact g1
            · rw [if_neg c] at g1
              simp (disch := omega) only [c_sheetAt h0', x3, x4, s1, pl_s (show 0 < unlN X y (row3 A i (kd v) (mo v) (ol v) i) w (owedN V B i) sz ce by omega), f_X8_kinds_b151, ↓reduceIte, eq_self, Bool.false_eq_true, reduceCtorEq, ob_s, ob2_s, od_e, onl_n, onl_s, ι_nat, ι_add, ι_mul, ι_sub, ι_addm, lt_t, lt_f, le_t, le_f, eq_t, eq_f, inb_t, inb_f, neq_f, neq_f2, neq_nf, nlt_t, nlt_f, nle_t, nle_f, ms_at, ms_off, up_at, up_off, L0, L1, L2, L3, L4, L5, L6, L7, L8, L9, L10, L11, L12, L13, L14, L15, L16, L17, L18, L19, L20, L21, L22, L23, L24, L30, L31, L32, L40, L41, L42, L43, L45, L47, L48, L52, L57, L59, L60, L61, L63, L64, L72, L97, L99, L100, L122, L160, L161, L200, L255, L999, L1200, L1998, L99999, L100000, L1000005]
              exact g1
          · have hb : f_X9_kinds_b62 (ι s) (ι i) (ι q) (ι (A i 0)) (ι (A i 1)) (ι (A i 3)) (n + 1) τ x (ι v) = ob2 (f_X9_unlike (ms (ms (ms τ 1 i (ι (kd v))) 2 i (ι (mo v))) 3 (4 * i + 1) (ι (ol v))) (ι s) (ι i)) (fun r23 σ24 => (if r23 = (-1 : Int32) then (f_X9_kinds_b155 (f_X9_kinds_b62 (ι s) (ι i) (ι q) (ι (A i 0)) (ι (A i 1)) (ι (A i 3)) n) σ24 (ι s) (ι i) (ι q) (ι (A i 0)) (ι (A i 1)) (ι (A i 3)) (ι v) x ((1 : Int32) <<< (ι v &&& 31))) else (f_X9_kinds_b155 (f_X9_kinds_b62 (ι s) (ι i) (ι q) (ι (A i 0)) (ι (A i 1)) (ι (A i 3)) n) σ24 (ι s) (ι i) (ι q) (ι (A i 0)) (ι (A i 1)) (ι (A i 3)) (ι v) x (0 : Int32)))) := by
              show _ = ob2 (f_X9_unlike (ms (ms (ms τ 1 i (ι (if q = 0 then v else A i 0))) 2 i (ι (if q = 1 then v else A i 1))) 3 (4 * i + 1) (ι (if q = 2 then v else A i 3))) (ι s) (ι i)) _
              rw [f_X9_kinds_b62]
              unfold f_X9_kinds_b75 f_X9_kinds_b94 f_X9_kinds_b112 f_X9_kinds_b134
              have : q = 0 ∨ q = 1 ∨ q = 2 := by omega
              rcases this with c | c | c
              · subst c
                simp (disch := omega) only [↓reduceIte, eq_self, Bool.false_eq_true, reduceCtorEq, ob_s, ob2_s, od_e, onl_n, onl_s, ι_nat, ι_add, ι_mul, ι_sub, ι_addm, lt_t, lt_f, le_t, le_f, eq_t, eq_f, inb_t, inb_f, neq_f, neq_f2, neq_nf, nlt_t, nlt_f, nle_t, nle_f, ms_at, ms_off, up_at, up_off, L0, L1, L2, L3, L4, L5, L6, L7, L8, L9, L10, L11, L12, L13, L14, L15, L16, L17, L18, L19, L20, L21, L22, L23, L24, L30, L31, L32, L40, L41, L42, L43, L45, L47, L48, L52, L57, L59, L60, L61, L63, L64, L72, L97, L99, L100, L122, L160, L161, L200, L255, L999, L1200, L1998, L99999, L100000, L1000005] <;> rfl
              · subst c
                simp (disch := omega) only [↓reduceIte, eq_self, Bool.false_eq_true, reduceCtorEq, ob_s, ob2_s, od_e, onl_n, onl_s, ι_nat, ι_add, ι_mul, ι_sub, ι_addm, lt_t, lt_f, le_t, le_f, eq_t, eq_f, inb_t, inb_f, neq_f, neq_f2, neq_nf, nlt_t, nlt_f, nle_t, nle_f, ms_at, ms_off, up_at, up_off, L0, L1, L2, L3, L4, L5, L6, L7, L8, L9, L10, L11, L12, L13, L14, L15, L16, L17, L18, L19, L20, L21, L22, L23, L24, L30, L31, L32, L40, L41, L42, L43, L45, L47, L48, L52, L57, L59, L60, L61, L63, L64, L72, L97, L99, L100, L122, L160, L161, L200, L255, L999, L1200, L1998, L99999, L100000, L1000005] <;> rfl
              · subst c
                simp (disch := omega) only [↓reduceIte, eq_self, Bool.false_eq_true, reduceCtorEq, ob_s, ob2_s, od_e, onl_n, onl_s, ι_nat, ι_add, ι_mul, ι_sub, ι_addm, lt_t, lt_f, le_t, le_f, eq_t, eq_f, inb_t, inb_f, neq_f, neq_f2, neq_nf, nlt_t, nlt_f, nle_t, nle_f, ms_at, ms_off, up_at, up_off, L0, L1, L2, L3, L4, L5, L6, L7, L8, L9, L10, L11, L12, L13, L14, L15, L16, L17, L18, L19, L20, L21, L22, L23, L24, L30, L31, L32, L40, L41, L42, L43, L45, L47, L48, L52, L57, L59, L60, L61, L63, L64, L72, L97, L99, L100, L122, L160, L161, L200, L255, L999, L1200, L1998, L99999, L100000, L1000005] <;> rfl
            rw [hb]
            by_cases c : unlN X y (row3 A i (kd v) (mo v) (ol v) i) w (owedN V B i) sz ce = 0
            · rw [if_pos c] at g2
              simp (disch := omega) only [u1, pl_0 c, f_X9_kinds_b155, ↓reduceIte, eq_self, Bool.false_eq_true, reduceCtorEq, ob_s, ob2_s, od_e, onl_n, onl_s, ι_nat, ι_add, ι_mul, ι_sub, ι_addm, lt_t, lt_f, le_t, le_f, eq_t, eq_f, inb_t, inb_f, neq_f, neq_f2, neq_nf, nlt_t, nlt_f, nle_t, nle_f, ms_at, ms_off, up_at, up_off, L0, L1, L2, L3, L4, L5, L6, L7, L8, L9, L10, L11, L12, L13, L14, L15, L16, L17, L18, L19, L20, L21, L22, L23, L24, L30, L31, L32, L40, L41, L42, L43, L45, L47, L48, L52, L57, L59, L60, L61, L63, L64, L72, L97, L99, L100, L122, L160, L161, L200, L255, L999, L1200, L1998, L99999, L100000, L1000005]
              exact g2
            · rw [if_neg c] at g2
              simp (disch := omega) only [u1, pl_s (show 0 < unlN X y (row3 A i (kd v) (mo v) (ol v) i) w (owedN V B i) sz ce by omega), f_X9_kinds_b155, or_z, ↓reduceIte, eq_self, Bool.false_eq_true, reduceCtorEq, ob_s, ob2_s, od_e, onl_n, onl_s, ι_nat, ι_add, ι_mul, ι_sub, ι_addm, lt_t, lt_f, le_t, le_f, eq_t, eq_f, inb_t, inb_f, neq_f, neq_f2, neq_nf, nlt_t, nlt_f, nle_t, nle_f, ms_at, ms_off, up_at, up_off, L0, L1, L2, L3, L4, L5, L6, L7, L8, L9, L10, L11, L12, L13, L14, L15, L16, L17, L18, L19, L20, L21, L22, L23, L24, L30, L31, L32, L40, L41, L42, L43, L45, L47, L48, L52, L57, L59, L60, L61, L63, L64, L72, L97, L99, L100, L122, L160, L161, L200, L255, L999, L1200, L1998, L99999, L100000, L1000005]
              exact g2
      obtain ⟨r, σ', τ', g1, g2, g3, g4, g5, g6, g7⟩ := L ls 0 FU (ι 0) σ τ (by omega) (by
        show (if q = 0 then 6 else 10) < FU
        unfold FU
        split <;> omega) hC ⟨A, hF, fun _ _ _ => rfl⟩ hCX hFX hN
      obtain ⟨d0, d1, d2, d3, d4, d5⟩ := b5 i i1
      refine ⟨r, σ', τ', ?_, ?_, RR_eq hR g3 (fun k j hk => ?_)⟩
      · have z0 : (0 : Int32) = ι 0 := L0
        rw [n3, ob_s, if_pos (show (ι 0 : Int32) = 0 from rfl), if_neg (show ¬ ι q < 0 by rw [L0, lt_f (by omega) (by omega)]; exact id), if_pos (show ι q ≤ 2 by rw [L2, le_t (by omega) (by omega)]; trivial)]
        unfold f_X8_kinds_b41
        by_cases c : q = 0
        · have e : ls - 1 = 5 := by
            show (if q = 0 then 6 else 10) - 1 = 5
            rw [if_pos c]
          rw [e] at g1
          rw [if_pos (show ι q = 0 by rw [c]; rfl), L5, L0]
          exact g1
        · have e : ls - 1 = 9 := by
            show (if q = 0 then 6 else 10) - 1 = 9
            rw [if_neg c]
          rw [e] at g1
          rw [if_neg (show ¬ ι q = 0 by rw [L0, eq_f c (by omega) (by omega)]; exact id), L9, L0]
          exact g1
      · rw [n4, ob_s, if_pos (show (ι 0 : Int32) = 0 from rfl), if_neg (show ¬ f_X9_in (ι q) 0 2 = 0 by rw [L0, L2, r_in (by omega) (by omega) (by omega)]; decide), if_pos (inb_t (show i < 6 by omega) (by omega)), if_pos (inb_t (show i < 6 by omega) (by omega)), L4, L1, ι_mul, ι_add, if_pos (inb_t (show 4 * i + 1 < 24 by omega) (by omega)), od_e, ι_nat (by omega), ι_nat (by omega), d0, d1, d3, L0]
        exact g2
      · by_cases c1 : k = 1 ∧ j = i
        · rw [c1.1, c1.2, g4, d0]
        · by_cases c2 : k = 2 ∧ j = i
          · rw [c2.1, c2.2, g5, d1]
          · by_cases c3 : k = 3 ∧ j = 4 * i + 1
            · rw [c3.1, c3.2, g6, d3]
            · exact g7 k j hk c1 c2 c3
    · refine ⟨-ι 7, σ, τ, ?_, ?_, hR, rfl⟩
      · rw [n3, ob_s, L0, if_pos rfl]
        rcases g3 with g | ⟨k, k1, k2, rfl⟩
        · rw [if_pos (by rw [ng_lt g (by omega)]; trivial)]
          rfl
        · rw [if_neg (by rw [lt_f (by omega) (by omega)]; exact id), L2, if_neg (by rw [le_f (by omega) (by omega)]; exact id)]
          rfl
      · rw [n4, ob_s, L0, if_pos rfl, L2, outN_in (n := 2) (by omega) g3, if_pos rfl]
        rfl
