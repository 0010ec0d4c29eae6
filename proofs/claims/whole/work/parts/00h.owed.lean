/-! THE PURE PART: what is owed; who is there -/
theorem c_owed {t M V m : Nat} {B : Nat → Nat → Nat} {σ : Mem} (hV : σ t 4 = ι V) (h8 : V ≤ 8) (hB : CB t V B σ) (hO : OKB M V B) (hM : M ≤ 6) (hm : m < 100) : f_X6_owed σ t (ι m) = some (ι (owedN V B m)) := by
  have L : ∀ d i n s, i + d = V → d < n → f_X6_owed_b4 σ t (ι m) n (ι s) (ι i) = some (ι (s + sumF (fun v => if B v 4 = 0 ∧ B v 0 = m then B v 2 else 0) i d)) := by
    intro d
    induction d with
    | zero =>
      intro i n s hi hn
      obtain ⟨n, rfl⟩ : ∃ k, n = k + 1 := ⟨n - 1, by omega⟩
      unfold f_X6_owed_b4
      simp (disch := omega) only [hV, ↓reduceIte, eq_self, Bool.false_eq_true, reduceCtorEq, ob_s, ob2_s, od_e, onl_n, onl_s, ι_nat, ι_add, ι_mul, ι_sub, ι_addm, lt_t, lt_f, le_t, le_f, eq_t, eq_f, inb_t, inb_f, neq_f, neq_f2, neq_nf, nlt_t, nlt_f, nle_t, nle_f, ms_at, ms_off, up_at, up_off, L0, L1, L2, L3, L4, L5, L6, L7, L8, L9, L10, L11, L12, L13, L14, L15, L16, L17, L18, L19, L20, L21, L22, L23, L24, L30, L31, L32, L40, L41, L42, L43, L45, L47, L48, L52, L57, L59, L60, L61, L63, L64, L72, L97, L99, L100, L122, L160, L161, L200, L255, L999, L1200, L1998, L99999, L100000, L1000005]
      rfl
    | succ d ih =>
      intro i n s hi hn
      obtain ⟨n, rfl⟩ : ∃ k, n = k + 1 := ⟨n - 1, by omega⟩
      have b := hO i (by omega)
      unfold f_X6_owed_b4
      by_cases h1 : B i 4 = 0
      · by_cases h2 : B i 0 = m
        · simp (disch := omega) only [hV, cb_0 hB, cb_2 hB, cb_4 hB, f_X6_owed_b58, h1, h2, and_self, sumF, ↓reduceIte, eq_self, Bool.false_eq_true, reduceCtorEq, ob_s, ob2_s, od_e, onl_n, onl_s, ι_nat, ι_add, ι_mul, ι_sub, ι_addm, lt_t, lt_f, le_t, le_f, eq_t, eq_f, inb_t, inb_f, neq_f, neq_f2, neq_nf, nlt_t, nlt_f, nle_t, nle_f, ms_at, ms_off, up_at, up_off, L0, L1, L2, L3, L4, L5, L6, L7, L8, L9, L10, L11, L12, L13, L14, L15, L16, L17, L18, L19, L20, L21, L22, L23, L24, L30, L31, L32, L40, L41, L42, L43, L45, L47, L48, L52, L57, L59, L60, L61, L63, L64, L72, L97, L99, L100, L122, L160, L161, L200, L255, L999, L1200, L1998, L99999, L100000, L1000005]
          rw [ih _ _ _ (by omega) (by omega), Nat.add_assoc]
        · simp (disch := omega) only [hV, cb_0 hB, cb_2 hB, cb_4 hB, f_X6_owed_b58, h1, h2, and_false, sumF, Nat.zero_add, ↓reduceIte, eq_self, Bool.false_eq_true, reduceCtorEq, ob_s, ob2_s, od_e, onl_n, onl_s, ι_nat, ι_add, ι_mul, ι_sub, ι_addm, lt_t, lt_f, le_t, le_f, eq_t, eq_f, inb_t, inb_f, neq_f, neq_f2, neq_nf, nlt_t, nlt_f, nle_t, nle_f, ms_at, ms_off, up_at, up_off, L0, L1, L2, L3, L4, L5, L6, L7, L8, L9, L10, L11, L12, L13, L14, L15, L16, L17, L18, L19, L20, L21, L22, L23, L24, L30, L31, L32, L40, L41, L42, L43, L45, L47, L48, L52, L57, L59, L60, L61, L63, L64, L72, L97, L99, L100, L122, L160, L161, L200, L255, L999, L1200, L1998, L99999, L100000, L1000005]
          rw [ih _ _ _ (by omega) (by omega)]
      · simp (disch := omega) only [hV, cb_0 hB, cb_2 hB, cb_4 hB, f_X6_owed_b58, h1, false_and, sumF, Nat.zero_add, ↓reduceIte, eq_self, Bool.false_eq_true, reduceCtorEq, ob_s, ob2_s, od_e, onl_n, onl_s, ι_nat, ι_add, ι_mul, ι_sub, ι_addm, lt_t, lt_f, le_t, le_f, eq_t, eq_f, inb_t, inb_f, neq_f, neq_f2, neq_nf, nlt_t, nlt_f, nle_t, nle_f, ms_at, ms_off, up_at, up_off, L0, L1, L2, L3, L4, L5, L6, L7, L8, L9, L10, L11, L12, L13, L14, L15, L16, L17, L18, L19, L20, L21, L22, L23, L24, L30, L31, L32, L40, L41, L42, L43, L45, L47, L48, L52, L57, L59, L60, L61, L63, L64, L72, L97, L99, L100, L122, L160, L161, L200, L255, L999, L1200, L1998, L99999, L100000, L1000005]
        rw [ih _ _ _ (by omega) (by omega)]
  unfold f_X6_owed owedN
  rw [L0, L V 0 FU 0 (by omega) (by unfold FU; omega), Nat.zero_add]
theorem r_owed {M V m : Nat} {B : Nat → Nat → Nat} {τ : Mem} (hV : τ 0 4 = ι V) (h8 : V ≤ 8) (hB : FB V B τ) (hO : OKB M V B) (hM : M ≤ 6) (hm : m < 100) : f_X9_owedBy τ (ι m) = some (ι (owedN V B m)) := by
  have L : ∀ d i n s, i + d = V → d < n → f_X9_owedBy_b4 τ (ι m) n (ι s) (ι i) = some (ι (s + sumF (fun v => if B v 4 = 0 ∧ B v 0 = m then B v 2 else 0) i d)) := by
    intro d
    induction d with
    | zero =>
      intro i n s hi hn
      obtain ⟨n, rfl⟩ : ∃ k, n = k + 1 := ⟨n - 1, by omega⟩
      unfold f_X9_owedBy_b4
      simp (disch := omega) only [hV, ↓reduceIte, eq_self, Bool.false_eq_true, reduceCtorEq, ob_s, ob2_s, od_e, onl_n, onl_s, ι_nat, ι_add, ι_mul, ι_sub, ι_addm, lt_t, lt_f, le_t, le_f, eq_t, eq_f, inb_t, inb_f, neq_f, neq_f2, neq_nf, nlt_t, nlt_f, nle_t, nle_f, ms_at, ms_off, up_at, up_off, L0, L1, L2, L3, L4, L5, L6, L7, L8, L9, L10, L11, L12, L13, L14, L15, L16, L17, L18, L19, L20, L21, L22, L23, L24, L30, L31, L32, L40, L41, L42, L43, L45, L47, L48, L52, L57, L59, L60, L61, L63, L64, L72, L97, L99, L100, L122, L160, L161, L200, L255, L999, L1200, L1998, L99999, L100000, L1000005]
      rfl
    | succ d ih =>
      intro i n s hi hn
      obtain ⟨n, rfl⟩ : ∃ k, n = k + 1 := ⟨n - 1, by omega⟩
      have b := hO i (by omega)
      unfold f_X9_owedBy_b4
      by_cases h2 : B i 0 = m
      · by_cases h1 : B i 4 = 0
        · simp (disch := omega) only [hV, fb_0 hB, fb_2 hB, fb_5 hB, f_X9_owedBy_b48, f_X9_owedBy_b49, f_X9_stands, h1, h2, and_self, sumF, ↓reduceIte, eq_self, Bool.false_eq_true, reduceCtorEq, ob_s, ob2_s, od_e, onl_n, onl_s, ι_nat, ι_add, ι_mul, ι_sub, ι_addm, lt_t, lt_f, le_t, le_f, eq_t, eq_f, inb_t, inb_f, neq_f, neq_f2, neq_nf, nlt_t, nlt_f, nle_t, nle_f, ms_at, ms_off, up_at, up_off, L0, L1, L2, L3, L4, L5, L6, L7, L8, L9, L10, L11, L12, L13, L14, L15, L16, L17, L18, L19, L20, L21, L22, L23, L24, L30, L31, L32, L40, L41, L42, L43, L45, L47, L48, L52, L57, L59, L60, L61, L63, L64, L72, L97, L99, L100, L122, L160, L161, L200, L255, L999, L1200, L1998, L99999, L100000, L1000005]
          rw [ih _ _ _ (by omega) (by omega), Nat.add_assoc]
        · simp (disch := omega) only [hV, fb_0 hB, fb_2 hB, fb_5 hB, f_X9_owedBy_b48, f_X9_owedBy_b49, f_X9_stands, h1, h2, false_and, sumF, Nat.zero_add, Nat.add_zero, ↓reduceIte, eq_self, Bool.false_eq_true, reduceCtorEq, ob_s, ob2_s, od_e, onl_n, onl_s, ι_nat, ι_add, ι_mul, ι_sub, ι_addm, lt_t, lt_f, le_t, le_f, eq_t, eq_f, inb_t, inb_f, neq_f, neq_f2, neq_nf, nlt_t, nlt_f, nle_t, nle_f, ms_at, ms_off, up_at, up_off, L0, L1, L2, L3, L4, L5, L6, L7, L8, L9, L10, L11, L12, L13, L14, L15, L16, L17, L18, L19, L20, L21, L22, L23, L24, L30, L31, L32, L40, L41, L42, L43, L45, L47, L48, L52, L57, L59, L60, L61, L63, L64, L72, L97, L99, L100, L122, L160, L161, L200, L255, L999, L1200, L1998, L99999, L100000, L1000005]
          rw [ih _ _ _ (by omega) (by omega)]
      · simp (disch := omega) only [hV, fb_0 hB, fb_2 hB, fb_5 hB, f_X9_owedBy_b48, f_X9_owedBy_b49, f_X9_stands, h2, and_false, sumF, Nat.zero_add, Nat.add_zero, ↓reduceIte, eq_self, Bool.false_eq_true, reduceCtorEq, ob_s, ob2_s, od_e, onl_n, onl_s, ι_nat, ι_add, ι_mul, ι_sub, ι_addm, lt_t, lt_f, le_t, le_f, eq_t, eq_f, inb_t, inb_f, neq_f, neq_f2, neq_nf, nlt_t, nlt_f, nle_t, nle_f, ms_at, ms_off, up_at, up_off, L0, L1, L2, L3, L4, L5, L6, L7, L8, L9, L10, L11, L12, L13, L14, L15, L16, L17, L18, L19, L20, L21, L22, L23, L24, L30, L31, L32, L40, L41, L42, L43, L45, L47, L48, L52, L57, L59, L60, L61, L63, L64, L72, L97, L99, L100, L122, L160, L161, L200, L255, L999, L1200, L1998, L99999, L100000, L1000005]
        rw [ih _ _ _ (by omega) (by omega)]
  unfold f_X9_owedBy owedN
  rw [L0, L V 0 FU 0 (by omega) (by unfold FU; omega), Nat.zero_add]
theorem owedN_le {M V m : Nat} {B : Nat → Nat → Nat} (h8 : V ≤ 8) (hO : OKB M V B) : owedN V B m ≤ 1600 := by
  have h : ∀ d i, i + d ≤ V → sumF (fun v => if B v 4 = 0 ∧ B v 0 = m then B v 2 else 0) i d ≤ 200 * d := by
    intro d
    induction d with
    | zero => intro i _; exact Nat.zero_le _
    | succ d ih =>
      intro i hi
      have b := hO i (by omega)
      have := ih (i + 1) (by omega)
      show (if B i 4 = 0 ∧ B i 0 = m then B i 2 else 0) + _ ≤ _
      split <;> omega
  have := h V 0 (by omega)
  unfold owedN
  omega
theorem c_manAt {t M i : Nat} {σ : Mem} (h : σ t 3 = ι M) (hM : M ≤ 6) (hi : i < M) : f_X6_manAt σ t (ι i) = some (some (t + 3 + i)) := by
  unfold f_X6_manAt
  simp (disch := omega) only [h, ↓reduceIte, eq_self, Bool.false_eq_true, reduceCtorEq, ob_s, ob2_s, od_e, onl_n, onl_s, ι_nat, ι_add, ι_mul, ι_sub, ι_addm, lt_t, lt_f, le_t, le_f, eq_t, eq_f, inb_t, inb_f, neq_f, neq_f2, neq_nf, nlt_t, nlt_f, nle_t, nle_f, ms_at, ms_off, up_at, up_off, L0, L1, L2, L3, L4, L5, L6, L7, L8, L9, L10, L11, L12, L13, L14, L15, L16, L17, L18, L19, L20, L21, L22, L23, L24, L30, L31, L32, L40, L41, L42, L43, L45, L47, L48, L52, L57, L59, L60, L61, L63, L64, L72, L97, L99, L100, L122, L160, L161, L200, L255, L999, L1200, L1998, L99999, L100000, L1000005]
theorem c_manNo {t M : Nat} {σ : Mem} {x : Int32} (h : σ t 3 = ι M) (hM : M ≤ 6) (hx : outN M x) : f_X6_manAt σ t x = some none := by
  unfold f_X6_manAt
  rcases hx with hx | ⟨k, h1, h2, h3⟩
  · simp (disch := omega) only [h, ng_lt hx, ↓reduceIte, eq_self, Bool.false_eq_true, reduceCtorEq, ob_s, ob2_s, od_e, onl_n, onl_s, ι_nat, ι_add, ι_mul, ι_sub, ι_addm, lt_t, lt_f, le_t, le_f, eq_t, eq_f, inb_t, inb_f, neq_f, neq_f2, neq_nf, nlt_t, nlt_f, nle_t, nle_f, ms_at, ms_off, up_at, up_off, L0, L1, L2, L3, L4, L5, L6, L7, L8, L9, L10, L11, L12, L13, L14, L15, L16, L17, L18, L19, L20, L21, L22, L23, L24, L30, L31, L32, L40, L41, L42, L43, L45, L47, L48, L52, L57, L59, L60, L61, L63, L64, L72, L97, L99, L100, L122, L160, L161, L200, L255, L999, L1200, L1998, L99999, L100000, L1000005]
  · subst h3
    simp (disch := omega) only [h, ↓reduceIte, eq_self, Bool.false_eq_true, reduceCtorEq, ob_s, ob2_s, od_e, onl_n, onl_s, ι_nat, ι_add, ι_mul, ι_sub, ι_addm, lt_t, lt_f, le_t, le_f, eq_t, eq_f, inb_t, inb_f, neq_f, neq_f2, neq_nf, nlt_t, nlt_f, nle_t, nle_f, ms_at, ms_off, up_at, up_off, L0, L1, L2, L3, L4, L5, L6, L7, L8, L9, L10, L11, L12, L13, L14, L15, L16, L17, L18, L19, L20, L21, L22, L23, L24, L30, L31, L32, L40, L41, L42, L43, L45, L47, L48, L52, L57, L59, L60, L61, L63, L64, L72, L97, L99, L100, L122, L160, L161, L200, L255, L999, L1200, L1998, L99999, L100000, L1000005]
theorem c_vowAt {t V v : Nat} {σ : Mem} (h : σ t 4 = ι V) (h8 : V ≤ 8) (hv : v < V) : f_X6_vowAt σ t (ι v) = some (some (t + 9 + v)) := by
  unfold f_X6_vowAt
  simp (disch := omega) only [h, ↓reduceIte, eq_self, Bool.false_eq_true, reduceCtorEq, ob_s, ob2_s, od_e, onl_n, onl_s, ι_nat, ι_add, ι_mul, ι_sub, ι_addm, lt_t, lt_f, le_t, le_f, eq_t, eq_f, inb_t, inb_f, neq_f, neq_f2, neq_nf, nlt_t, nlt_f, nle_t, nle_f, ms_at, ms_off, up_at, up_off, L0, L1, L2, L3, L4, L5, L6, L7, L8, L9, L10, L11, L12, L13, L14, L15, L16, L17, L18, L19, L20, L21, L22, L23, L24, L30, L31, L32, L40, L41, L42, L43, L45, L47, L48, L52, L57, L59, L60, L61, L63, L64, L72, L97, L99, L100, L122, L160, L161, L200, L255, L999, L1200, L1998, L99999, L100000, L1000005]
theorem c_vowNo {t V : Nat} {σ : Mem} {x : Int32} (h : σ t 4 = ι V) (h8 : V ≤ 8) (hx : outN V x) : f_X6_vowAt σ t x = some none := by
  unfold f_X6_vowAt
  rcases hx with hx | ⟨k, h1, h2, h3⟩
  · simp (disch := omega) only [h, ng_lt hx, ↓reduceIte, eq_self, Bool.false_eq_true, reduceCtorEq, ob_s, ob2_s, od_e, onl_n, onl_s, ι_nat, ι_add, ι_mul, ι_sub, ι_addm, lt_t, lt_f, le_t, le_f, eq_t, eq_f, inb_t, inb_f, neq_f, neq_f2, neq_nf, nlt_t, nlt_f, nle_t, nle_f, ms_at, ms_off, up_at, up_off, L0, L1, L2, L3, L4, L5, L6, L7, L8, L9, L10, L11, L12, L13, L14, L15, L16, L17, L18, L19, L20, L21, L22, L23, L24, L30, L31, L32, L40, L41, L42, L43, L45, L47, L48, L52, L57, L59, L60, L61, L63, L64, L72, L97, L99, L100, L122, L160, L161, L200, L255, L999, L1200, L1998, L99999, L100000, L1000005]
  · subst h3
    simp (disch := omega) only [h, ↓reduceIte, eq_self, Bool.false_eq_true, reduceCtorEq, ob_s, ob2_s, od_e, onl_n, onl_s, ι_nat, ι_add, ι_mul, ι_sub, ι_addm, lt_t, lt_f, le_t, le_f, eq_t, eq_f, inb_t, inb_f, neq_f, neq_f2, neq_nf, nlt_t, nlt_f, nle_t, nle_f, ms_at, ms_off, up_at, up_off, L0, L1, L2, L3, L4, L5, L6, L7, L8, L9, L10, L11, L12, L13, L14, L15, L16, L17, L18, L19, L20, L21, L22, L23, L24, L30, L31, L32, L40, L41, L42, L43, L45, L47, L48, L52, L57, L59, L60, L61, L63, L64, L72, L97, L99, L100, L122, L160, L161, L200, L255, L999, L1200, L1998, L99999, L100000, L1000005]
theorem r_in {x a b : Nat} (h1 : a ≤ x) (h2 : x ≤ b) (h : b < 2147483648) : f_X9_in (ι x) (ι a) (ι b) = ι 1 := by
  unfold f_X9_in
  simp (disch := omega) only [↓reduceIte, eq_self, Bool.false_eq_true, reduceCtorEq, ob_s, ob2_s, od_e, onl_n, onl_s, ι_nat, ι_add, ι_mul, ι_sub, ι_addm, lt_t, lt_f, le_t, le_f, eq_t, eq_f, inb_t, inb_f, neq_f, neq_f2, neq_nf, nlt_t, nlt_f, nle_t, nle_f, ms_at, ms_off, up_at, up_off, L0, L1, L2, L3, L4, L5, L6, L7, L8, L9, L10, L11, L12, L13, L14, L15, L16, L17, L18, L19, L20, L21, L22, L23, L24, L30, L31, L32, L40, L41, L42, L43, L45, L47, L48, L52, L57, L59, L60, L61, L63, L64, L72, L97, L99, L100, L122, L160, L161, L200, L255, L999, L1200, L1998, L99999, L100000, L1000005]
theorem r_inNo {a b : Nat} {x : Int32} (hx : ng x ∨ ∃ k, x = ι k ∧ k < 2147483648 ∧ (k < a ∨ b < k)) (ha : a < 2147483648) (h : b < 2147483648) : f_X9_in x (ι a) (ι b) = ι 0 := by
  unfold f_X9_in
  rcases hx with hx | ⟨k, rfl, h2, h3⟩
  · simp (disch := omega) only [ng_lt hx, ↓reduceIte, eq_self, Bool.false_eq_true, reduceCtorEq, ob_s, ob2_s, od_e, onl_n, onl_s, ι_nat, ι_add, ι_mul, ι_sub, ι_addm, lt_t, lt_f, le_t, le_f, eq_t, eq_f, inb_t, inb_f, neq_f, neq_f2, neq_nf, nlt_t, nlt_f, nle_t, nle_f, ms_at, ms_off, up_at, up_off, L0, L1, L2, L3, L4, L5, L6, L7, L8, L9, L10, L11, L12, L13, L14, L15, L16, L17, L18, L19, L20, L21, L22, L23, L24, L30, L31, L32, L40, L41, L42, L43, L45, L47, L48, L52, L57, L59, L60, L61, L63, L64, L72, L97, L99, L100, L122, L160, L161, L200, L255, L999, L1200, L1998, L99999, L100000, L1000005]
  · by_cases h4 : k < a
    · simp (disch := omega) only [↓reduceIte, eq_self, Bool.false_eq_true, reduceCtorEq, ob_s, ob2_s, od_e, onl_n, onl_s, ι_nat, ι_add, ι_mul, ι_sub, ι_addm, lt_t, lt_f, le_t, le_f, eq_t, eq_f, inb_t, inb_f, neq_f, neq_f2, neq_nf, nlt_t, nlt_f, nle_t, nle_f, ms_at, ms_off, up_at, up_off, L0, L1, L2, L3, L4, L5, L6, L7, L8, L9, L10, L11, L12, L13, L14, L15, L16, L17, L18, L19, L20, L21, L22, L23, L24, L30, L31, L32, L40, L41, L42, L43, L45, L47, L48, L52, L57, L59, L60, L61, L63, L64, L72, L97, L99, L100, L122, L160, L161, L200, L255, L999, L1200, L1998, L99999, L100000, L1000005]
    · by_cases h5 : a ≤ k
      · simp (disch := omega) only [↓reduceIte, eq_self, Bool.false_eq_true, reduceCtorEq, ob_s, ob2_s, od_e, onl_n, onl_s, ι_nat, ι_add, ι_mul, ι_sub, ι_addm, lt_t, lt_f, le_t, le_f, eq_t, eq_f, inb_t, inb_f, neq_f, neq_f2, neq_nf, nlt_t, nlt_f, nle_t, nle_f, ms_at, ms_off, up_at, up_off, L0, L1, L2, L3, L4, L5, L6, L7, L8, L9, L10, L11, L12, L13, L14, L15, L16, L17, L18, L19, L20, L21, L22, L23, L24, L30, L31, L32, L40, L41, L42, L43, L45, L47, L48, L52, L57, L59, L60, L61, L63, L64, L72, L97, L99, L100, L122, L160, L161, L200, L255, L999, L1200, L1998, L99999, L100000, L1000005]
      · omega
theorem r_inM {M i : Nat} (h : i < M) (hM : M < 2147483648) : f_X9_in (ι i) (ι 0) (ι M - ι 1) = ι 1 := by
  rw [ι_sub (by omega) hM]
  exact r_in (by omega) (by omega) (by omega)
theorem r_inMNo {M : Nat} {x : Int32} (hM : M < 2147483648) (hx : outN M x) : f_X9_in x (ι 0) (ι M - ι 1) = ι 0 := by
  unfold f_X9_in
  rcases hx with hx | ⟨k, h1, h2, h3⟩
  · simp (disch := omega) only [ng_lt hx, ↓reduceIte, eq_self, Bool.false_eq_true, reduceCtorEq, ob_s, ob2_s, od_e, onl_n, onl_s, ι_nat, ι_add, ι_mul, ι_sub, ι_addm, lt_t, lt_f, le_t, le_f, eq_t, eq_f, inb_t, inb_f, neq_f, neq_f2, neq_nf, nlt_t, nlt_f, nle_t, nle_f, ms_at, ms_off, up_at, up_off, L0, L1, L2, L3, L4, L5, L6, L7, L8, L9, L10, L11, L12, L13, L14, L15, L16, L17, L18, L19, L20, L21, L22, L23, L24, L30, L31, L32, L40, L41, L42, L43, L45, L47, L48, L52, L57, L59, L60, L61, L63, L64, L72, L97, L99, L100, L122, L160, L161, L200, L255, L999, L1200, L1998, L99999, L100000, L1000005]
  · subst h3
    by_cases h : M = 0
    · subst h
      simp (disch := omega) only [nsub, lt_f, show (-ι (1 - 0) < ι k) = True from nlt_t (by omega) (by omega) (by omega), ↓reduceIte, eq_self, Bool.false_eq_true, reduceCtorEq, ob_s, ob2_s, od_e, onl_n, onl_s, ι_nat, ι_add, ι_mul, ι_sub, ι_addm, lt_t, lt_f, le_t, le_f, eq_t, eq_f, inb_t, inb_f, neq_f, neq_f2, neq_nf, nlt_t, nlt_f, nle_t, nle_f, ms_at, ms_off, up_at, up_off, L0, L1, L2, L3, L4, L5, L6, L7, L8, L9, L10, L11, L12, L13, L14, L15, L16, L17, L18, L19, L20, L21, L22, L23, L24, L30, L31, L32, L40, L41, L42, L43, L45, L47, L48, L52, L57, L59, L60, L61, L63, L64, L72, L97, L99, L100, L122, L160, L161, L200, L255, L999, L1200, L1998, L99999, L100000, L1000005]
    · simp (disch := omega) only [↓reduceIte, eq_self, Bool.false_eq_true, reduceCtorEq, ob_s, ob2_s, od_e, onl_n, onl_s, ι_nat, ι_add, ι_mul, ι_sub, ι_addm, lt_t, lt_f, le_t, le_f, eq_t, eq_f, inb_t, inb_f, neq_f, neq_f2, neq_nf, nlt_t, nlt_f, nle_t, nle_f, ms_at, ms_off, up_at, up_off, L0, L1, L2, L3, L4, L5, L6, L7, L8, L9, L10, L11, L12, L13, L14, L15, L16, L17, L18, L19, L20, L21, L22, L23, L24, L30, L31, L32, L40, L41, L42, L43, L45, L47, L48, L52, L57, L59, L60, L61, L63, L64, L72, L97, L99, L100, L122, L160, L161, L200, L255, L999, L1200, L1998, L99999, L100000, L1000005]
theorem r_isMan {M i : Nat} {τ : Mem} (h : τ 0 0 = ι M) (hM : M ≤ 6) (hi : i < M) : f_X9_isMan τ (ι i) = ι 1 := by
  unfold f_X9_isMan
  rw [h, L0, L1]
  exact r_inM hi (by omega)
theorem r_isManNo {M : Nat} {τ : Mem} {x : Int32} (h : τ 0 0 = ι M) (hM : M ≤ 6) (hx : outN M x) : f_X9_isMan τ x = ι 0 := by
  unfold f_X9_isMan
  rw [h, L0, L1]
  exact r_inMNo (by omega) hx
theorem r_isVow {V i : Nat} {τ : Mem} (h : τ 0 4 = ι V) (hV : V ≤ 8) (hi : i < V) : f_X9_isVow τ (ι i) = ι 1 := by
  unfold f_X9_isVow
  rw [h, L0, L1]
  exact r_inM hi (by omega)
theorem r_isVowNo {V : Nat} {τ : Mem} {x : Int32} (h : τ 0 4 = ι V) (hV : V ≤ 8) (hx : outN V x) : f_X9_isVow τ x = ι 0 := by
  unfold f_X9_isVow
  rw [h, L0, L1]
  exact r_inMNo (by omega) hx
theorem r_asks {T M V y : Nat} {X : XT} {A B : Nat → Nat → Nat} {τ : Mem} (hX : FXT T X τ) (hOX : OKX T X) (h0 : τ 0 4 = ι V) (h1 : τ 0 12 = ι y) (hA : FA M A τ) (hB : FB V B τ) (hOB : OKB M V B) (hM : M ≤ 6) (h8 : V ≤ 8) {q i w : Nat} (hy : y < T) (hq : q < 3) (hi : i < M) :
    ∃ τ', f_X9_asksOf τ (ι q) (ι i) (ι w) = some (ι (sayN X y q (A i 2) (A i 3) (A i 1) w (owedN V B i) (A i 4)), τ') ∧ ∀ a j, a ≠ 15 → a ≠ 16 → τ' a j = τ a j := by
  obtain ⟨t1, t2, hW⟩ := hOX
  obtain ⟨x1, x2⟩ := hX
  obtain ⟨s, x2, x3, x4, x5⟩ := x2 y hy q hq
  have W := hW y hy q hq
  let τ1 : Mem := ms (ms (ms (ms τ 16 0 (ι (A i 2))) 16 1 (ι (A i 3))) 16 2 (ι (A i 1))) 16 3 (ι w)
  let τ0 : Mem := ms (ms τ1 16 4 (ι (owedN V B i))) 16 5 (ι (A i 4))
  have hf1 : ∀ a j, a ≠ 16 → τ1 a j = τ a j := by
    intro a j h
    show (ms (ms (ms (ms τ 16 0 (ι (A i 2))) 16 1 (ι (A i 3))) 16 2 (ι (A i 1))) 16 3 (ι w)) a j = τ a j
    simp (disch := omega) only [ms_off]
  have hf0 : ∀ a j, a ≠ 16 → τ0 a j = τ a j := by
    intro a j h
    show (ms (ms τ1 16 4 (ι (owedN V B i))) 16 5 (ι (A i 4))) a j = τ a j
    rw [ms_off (by omega), ms_off (by omega), hf1 a j h]
  have how : f_X9_owedBy τ1 (ι i) = some (ι (owedN V B i)) := r_owed (M := M) (by rw [hf1 _ _ (by decide)]; exact h0) h8 (fun v hv => by
    have := hB v hv
    rw [hf1 _ _ (by decide), hf1 _ _ (by decide), hf1 _ _ (by decide), hf1 _ _ (by decide), hf1 _ _ (by decide), hf1 _ _ (by decide)]
    exact this) hOB hM (by omega)
  obtain ⟨τ', g1, g2⟩ := r_says_l (nm := nmv (A i 2) (A i 3) (A i 1) w (owedN V B i) (A i 4)) W (y := y) (by omega) hq x2 (X.2 y q) 0 FU τ0 (by omega) (by have := W.2.1; unfold FU; omega) (by rw [hf0 _ _ (by decide)]; exact h1) (by rw [hf0 _ _ (by decide)]; exact x4) (fun j hj => by rw [hf0 _ _ (by decide)]; exact x5 j hj)
    (fun q hq => by
      have : q = 0 ∨ q = 1 ∨ q = 2 ∨ q = 3 ∨ q = 4 ∨ q = 5 := by omega
      show (ms (ms (ms (ms (ms (ms τ 16 0 (ι (A i 2))) 16 1 (ι (A i 3))) 16 2 (ι (A i 1))) 16 3 (ι w)) 16 4 (ι (owedN V B i))) 16 5 (ι (A i 4))) 16 q = _
      rcases this with h | h | h | h | h | h <;> subst h <;> (simp (disch := omega) only [ms_at, ms_off]; rfl)) (fun j hj => absurd hj (Nat.not_lt_zero j))
  refine ⟨τ', ?_, fun a j h3 h4 => by rw [g2 a j h3, hf0 a j h4]⟩
  have how : f_X9_owedBy (ms (ms (ms (ms τ 16 0 (ι (A i 2))) 16 1 (ι (A i 3))) 16 2 (ι (A i 1))) 16 3 (ι w)) (ι i) = some (ι (owedN V B i)) := how
  have g1 : f_X9_says_b16 (ι q) FU (ms (ms (ms (ms (ms (ms τ 16 0 (ι (A i 2))) 16 1 (ι (A i 3))) 16 2 (ι (A i 1))) 16 3 (ι w)) 16 4 (ι (owedN V B i))) 16 5 (ι (A i 4))) (ι 0) (ι s) = _ := g1
  unfold f_X9_asksOf f_X9_says
  simp (disch := omega) only [fa_1 hA, fa_2 hA, fa_3 hA, fa_4 hA, how, h1, x3, g1, ↓reduceIte, eq_self, Bool.false_eq_true, reduceCtorEq, ob_s, ob2_s, od_e, onl_n, onl_s, ι_nat, ι_add, ι_mul, ι_sub, ι_addm, lt_t, lt_f, le_t, le_f, eq_t, eq_f, inb_t, inb_f, neq_f, neq_f2, neq_nf, nlt_t, nlt_f, nle_t, nle_f, ms_at, ms_off, up_at, up_off, L0, L1, L2, L3, L4, L5, L6, L7, L8, L9, L10, L11, L12, L13, L14, L15, L16, L17, L18, L19, L20, L21, L22, L23, L24, L30, L31, L32, L40, L41, L42, L43, L45, L47, L48, L52, L57, L59, L60, L61, L63, L64, L72, L97, L99, L100, L122, L160, L161, L200, L255, L999, L1200, L1998, L99999, L100000, L1000005]
  rw [show ι 0 = (0 : Int32) from rfl, show ι 99 = (99 : Int32) from rfl, cl99_r]
  rfl
