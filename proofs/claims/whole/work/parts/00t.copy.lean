/-! THE PURE PART: towns copied; the reference's rows kept and laid back -/
theorem c_manBecome {σ : Mem} {a b : Nat} (hab : a ≠ b) (hs : σ b 5 = ι 0 ∨ σ b 5 = ι 1) : ∃ σ', f_X1_become σ a (some b) = some σ' ∧ ∀ k j, σ' k j = if k = a ∧ j < 6 then σ b j else σ k j := by
  refine ⟨ms (ms (ms (ms (ms (ms σ a 0 (σ b 0)) a 1 (σ b 1)) a 2 (σ b 2)) a 3 (σ b 3)) a 4 (σ b 4)) a 5 (σ b 5), ?_, ?_⟩
  · unfold f_X1_become
    rw [onl_s]
    simp (disch := omega) only [od_e, ms_off, L0, L1]
    rw [if_pos hs]
  · intro k j
    by_cases h : k = a
    · by_cases h6 : j < 6
      · rw [if_pos ⟨h, h6⟩]
        have : j = 0 ∨ j = 1 ∨ j = 2 ∨ j = 3 ∨ j = 4 ∨ j = 5 := by omega
        rcases this with c | c | c | c | c | c <;> subst c <;> simp (disch := omega) only [ms_at, ms_off]
      · rw [if_neg (by omega)]
        simp (disch := omega) only [ms_off]
    · rw [if_neg (by omega)]
      simp (disch := omega) only [ms_off]
theorem c_vowBecome {σ : Mem} {a b : Nat} (hab : a ≠ b) : ∀ k j, f_X7_become σ a b k j = if k = a ∧ j < 6 then σ b j else σ k j := by
  have e : f_X7_become σ a b = ms (ms (ms (ms (ms (ms σ a 0 (σ b 0)) a 1 (σ b 1)) a 2 (σ b 2)) a 3 (σ b 3)) a 4 (σ b 4)) a 5 (σ b 5) := by
    unfold f_X7_become
    simp (disch := omega) only [od_e, ms_off]
  rw [e]
  intro k j
  by_cases h : k = a
  · by_cases h6 : j < 6
    · rw [if_pos ⟨h, h6⟩]
      have : j = 0 ∨ j = 1 ∨ j = 2 ∨ j = 3 ∨ j = 4 ∨ j = 5 := by omega
      rcases this with c | c | c | c | c | c <;> subst c <;> simp (disch := omega) only [ms_at, ms_off]
    · rw [if_neg (by omega)]
      simp (disch := omega) only [ms_off]
  · rw [if_neg (by omega)]
    simp (disch := omega) only [ms_off]
theorem c_becomeV {t u : Nat} (hd : t + 17 ≤ u ∨ u + 17 ≤ t) : ∀ d i n (σ : Mem), i + d = 8 → d < n → ∃ σ', f_X6_become_b75 t u n σ (ι i) = some σ' ∧ ∀ k j, σ' k j = if t + 9 + i ≤ k ∧ k < t + 17 ∧ j < 6 then σ (u + (k - t)) j else σ k j := by
  intro d
  induction d with
  | zero =>
    intro i n σ hi hn
    obtain ⟨n, rfl⟩ : ∃ k, n = k + 1 := ⟨n - 1, by omega⟩
    refine ⟨σ, ?_, fun k j => by rw [if_neg (by omega)]⟩
    rw [f_X6_become_b75]
    simp (disch := omega) only [↓reduceIte, eq_self, Bool.false_eq_true, reduceCtorEq, ob_s, ob2_s, od_e, onl_n, onl_s, ι_nat, ι_add, ι_mul, ι_sub, ι_addm, lt_t, lt_f, le_t, le_f, eq_t, eq_f, inb_t, inb_f, neq_f, neq_f2, neq_nf, nlt_t, nlt_f, nle_t, nle_f, ms_at, ms_off, up_at, up_off, L0, L1, L2, L3, L4, L5, L6, L7, L8, L9, L10, L11, L12, L13, L14, L15, L16, L17, L18, L19, L20, L21, L22, L23, L24, L30, L31, L32, L40, L41, L42, L43, L45, L47, L48, L52, L57, L59, L60, L61, L63, L64, L72, L97, L99, L100, L122, L160, L161, L200, L255, L999, L1200, L1998, L99999, L100000, L1000005]
  | succ d ih =>
    intro i n σ hi hn
    obtain ⟨n, rfl⟩ : ∃ k, n = k + 1 := ⟨n - 1, by omega⟩
    have hv := c_vowBecome (σ := σ) (a := t + 9 + i) (b := u + 9 + i) (by omega)
    obtain ⟨σ', g1, g2⟩ := ih (i + 1) n (f_X7_become σ (t + 9 + i) (u + 9 + i)) (by omega) (by omega)
    refine ⟨σ', ?_, ?_⟩
    · rw [f_X6_become_b75]
      simp (disch := omega) only [↓reduceIte, eq_self, Bool.false_eq_true, reduceCtorEq, ob_s, ob2_s, od_e, onl_n, onl_s, ι_nat, ι_add, ι_mul, ι_sub, ι_addm, lt_t, lt_f, le_t, le_f, eq_t, eq_f, inb_t, inb_f, neq_f, neq_f2, neq_nf, nlt_t, nlt_f, nle_t, nle_f, ms_at, ms_off, up_at, up_off, L0, L1, L2, L3, L4, L5, L6, L7, L8, L9, L10, L11, L12, L13, L14, L15, L16, L17, L18, L19, L20, L21, L22, L23, L24, L30, L31, L32, L40, L41, L42, L43, L45, L47, L48, L52, L57, L59, L60, L61, L63, L64, L72, L97, L99, L100, L122, L160, L161, L200, L255, L999, L1200, L1998, L99999, L100000, L1000005]
      exact g1
    · intro k j
      rw [g2 k j]
      by_cases h : t + 9 + i ≤ k ∧ k < t + 17 ∧ j < 6
      · rw [if_pos h]
        by_cases h2 : k = t + 9 + i
        · rw [if_neg (by omega), hv, if_pos ⟨h2, h.2.2⟩, h2]
          congr 1
          omega
        · rw [if_pos (by omega), hv, if_neg (by omega)]
      · rw [if_neg h, if_neg (by omega), hv, if_neg (by omega)]
theorem c_becomeM {t u : Nat} (hd : t + 17 ≤ u ∨ u + 17 ≤ t) : ∀ d i n (σ : Mem), i + d = 6 → d < n → (∀ q, q < 6 → σ (u + 3 + q) 5 = ι 0 ∨ σ (u + 3 + q) 5 = ι 1) → ∃ σ', f_X6_become_b34 t u n σ (ι i) = f_X6_become_b75 t u FU σ' (ι 0) ∧ ∀ k j, σ' k j = if t + 3 + i ≤ k ∧ k < t + 9 ∧ j < 6 then σ (u + (k - t)) j else σ k j := by
  intro d
  induction d with
  | zero =>
    intro i n σ hi hn hs
    obtain ⟨n, rfl⟩ : ∃ k, n = k + 1 := ⟨n - 1, by omega⟩
    refine ⟨σ, ?_, fun k j => by rw [if_neg (by omega)]⟩
    rw [f_X6_become_b34]
    unfold f_X6_become_b73
    simp (disch := omega) only [↓reduceIte, eq_self, Bool.false_eq_true, reduceCtorEq, ob_s, ob2_s, od_e, onl_n, onl_s, ι_nat, ι_add, ι_mul, ι_sub, ι_addm, lt_t, lt_f, le_t, le_f, eq_t, eq_f, inb_t, inb_f, neq_f, neq_f2, neq_nf, nlt_t, nlt_f, nle_t, nle_f, ms_at, ms_off, up_at, up_off, L0, L1, L2, L3, L4, L5, L6, L7, L8, L9, L10, L11, L12, L13, L14, L15, L16, L17, L18, L19, L20, L21, L22, L23, L24, L30, L31, L32, L40, L41, L42, L43, L45, L47, L48, L52, L57, L59, L60, L61, L63, L64, L72, L97, L99, L100, L122, L160, L161, L200, L255, L999, L1200, L1998, L99999, L100000, L1000005]
  | succ d ih =>
    intro i n σ hi hn hs
    obtain ⟨n, rfl⟩ : ∃ k, n = k + 1 := ⟨n - 1, by omega⟩
    obtain ⟨σ1, q1, hv⟩ := c_manBecome (σ := σ) (a := t + 3 + i) (b := u + 3 + i) (by omega) (hs i (by omega))
    obtain ⟨σ', g1, g2⟩ := ih (i + 1) n σ1 (by omega) (by omega) (fun q hq => by rw [hv, if_neg (by omega)]; exact hs q hq)
    refine ⟨σ', ?_, ?_⟩
    · rw [f_X6_become_b34]
      simp (disch := omega) only [q1, ↓reduceIte, eq_self, Bool.false_eq_true, reduceCtorEq, ob_s, ob2_s, od_e, onl_n, onl_s, ι_nat, ι_add, ι_mul, ι_sub, ι_addm, lt_t, lt_f, le_t, le_f, eq_t, eq_f, inb_t, inb_f, neq_f, neq_f2, neq_nf, nlt_t, nlt_f, nle_t, nle_f, ms_at, ms_off, up_at, up_off, L0, L1, L2, L3, L4, L5, L6, L7, L8, L9, L10, L11, L12, L13, L14, L15, L16, L17, L18, L19, L20, L21, L22, L23, L24, L30, L31, L32, L40, L41, L42, L43, L45, L47, L48, L52, L57, L59, L60, L61, L63, L64, L72, L97, L99, L100, L122, L160, L161, L200, L255, L999, L1200, L1998, L99999, L100000, L1000005]
      exact g1
    · intro k j
      rw [g2 k j]
      by_cases h : t + 3 + i ≤ k ∧ k < t + 9 ∧ j < 6
      · rw [if_pos h]
        by_cases h2 : k = t + 3 + i
        · rw [if_neg (by omega), hv, if_pos ⟨h2, h.2.2⟩, h2]
          congr 1
          omega
        · rw [if_pos (by omega), hv, if_neg (by omega)]
      · rw [if_neg h, if_neg (by omega), hv, if_neg (by omega)]
/-- town t becomes as town u is -/
theorem c_become {t u : Nat} (hd : t + 17 ≤ u ∨ u + 17 ≤ t) {σ : Mem} (hs : SH u σ) : ∃ σ', f_X6_become σ t u = some σ' ∧ ∀ k j, σ' k j = if (t + 3 ≤ k ∧ k < t + 17 ∧ j < 6) ∨ (k = t ∧ 3 ≤ j ∧ j ≤ 6) then σ (u + (k - t)) j else σ k j := by
  let σ0 := ms (ms (ms (ms σ t 3 (σ u 3)) t 4 (σ u 4)) t 5 (σ u 5)) t 6 (σ u 6)
  have h0 : ∀ k j, σ0 k j = if k = t ∧ 3 ≤ j ∧ j ≤ 6 then σ u j else σ k j := by
    intro k j
    show ms (ms (ms (ms σ t 3 (σ u 3)) t 4 (σ u 4)) t 5 (σ u 5)) t 6 (σ u 6) k j = _
    by_cases h : k = t ∧ 3 ≤ j ∧ j ≤ 6
    · rw [if_pos h]
      have : j = 3 ∨ j = 4 ∨ j = 5 ∨ j = 6 := by omega
      rcases this with c | c | c | c <;> subst c <;> simp (disch := omega) only [ms_at, ms_off]
    · rw [if_neg h]
      simp (disch := omega) only [ms_off]
  obtain ⟨σ1, g1, g2⟩ := c_becomeM hd 6 0 FU σ0 (by omega) (by unfold FU; omega) (fun q hq => by rw [h0, if_neg (by omega)]; exact hs q hq)
  obtain ⟨σ2, b1, b2⟩ := c_becomeV hd 8 0 FU σ1 (by omega) (by unfold FU; omega)
  refine ⟨σ2, ?_, ?_⟩
  · unfold f_X6_become
    simp (disch := omega) only [od_e, ms_off, L0]
    show f_X6_become_b34 t u FU σ0 (ι 0) = _
    rw [g1, b1]
  · intro k j
    rw [b2 k j]
    by_cases h : t + 9 + 0 ≤ k ∧ k < t + 17 ∧ j < 6
    · rw [if_pos h, g2, if_neg (by omega), h0, if_neg (by omega), if_pos (by omega)]
    · rw [if_neg h, g2]
      by_cases h3 : t + 3 + 0 ≤ k ∧ k < t + 9 ∧ j < 6
      · rw [if_pos h3, h0, if_neg (by omega), if_pos (by omega)]
      · rw [if_neg h3, h0]
        by_cases h4 : k = t ∧ 3 ≤ j ∧ j ≤ 6
        · rw [if_pos h4, if_pos (by omega), h4.1]
          congr 1
          omega
        · rw [if_neg h4, if_neg (by omega)]
theorem CT_move {t u M V w y : Nat} {A B : TB2} {σ σ' : Mem} (hM : M ≤ 6) (hV : V ≤ 8) (h : CT u M V w y A B σ) (e : ∀ k j, σ' k j = if (t + 3 ≤ k ∧ k < t + 17 ∧ j < 6) ∨ (k = t ∧ 3 ≤ j ∧ j ≤ 6) then σ (u + (k - t)) j else σ k j) : CT t M V w y A B σ' := by
  obtain ⟨a1, a2, a3, a4, a5, a6⟩ := h
  have ef : ∀ j, 3 ≤ j → j ≤ 6 → σ' t j = σ u j := by
    intro j h1 h2
    rw [e, if_pos (by omega), Nat.sub_self, Nat.add_zero]
  have em : ∀ i j, i < 6 → j < 6 → σ' (t + 3 + i) j = σ (u + 3 + i) j := by
    intro i j h1 h2
    rw [e, if_pos (by omega)]
    congr 1
    omega
  have ev : ∀ i j, i < 8 → j < 6 → σ' (t + 9 + i) j = σ (u + 9 + i) j := by
    intro i j h1 h2
    rw [e, if_pos (by omega)]
    congr 1
    omega
  refine ⟨?_, ?_, ?_, ?_, ?_, ?_⟩
  · rw [ef 3 (by decide) (by decide)]; exact a1
  · rw [ef 4 (by decide) (by decide)]; exact a2
  · rw [ef 5 (by decide) (by decide)]; exact a3
  · rw [ef 6 (by decide) (by decide)]; exact a4
  · intro i hi
    rw [em i 0 (by omega) (by decide), em i 1 (by omega) (by decide), em i 2 (by omega) (by decide), em i 3 (by omega) (by decide), em i 4 (by omega) (by decide), em i 5 (by omega) (by decide)]
    exact a5 i hi
  · intro i hi
    rw [ev i 0 (by omega) (by decide), ev i 1 (by omega) (by decide), ev i 2 (by omega) (by decide), ev i 3 (by omega) (by decide), ev i 4 (by omega) (by decide), ev i 5 (by omega) (by decide)]
    exact a6 i hi
theorem SH_move {t u : Nat} {σ σ' : Mem} (h : SH u σ) (e : ∀ k j, σ' k j = if (t + 3 ≤ k ∧ k < t + 17 ∧ j < 6) ∨ (k = t ∧ 3 ≤ j ∧ j ≤ 6) then σ (u + (k - t)) j else σ k j) : SH t σ' := by
  intro i hi
  have : σ' (t + 3 + i) 5 = σ (u + 3 + i) 5 := by
    rw [e, if_pos (by omega)]
    congr 1
    omega
  rw [this]
  exact h i hi
def K0 : Nat → Nat := fun _ => 0
theorem r_begins {τ : Mem} : FK K0 (f_X9_begins τ) ∧ ∀ k j, ¬ (k = 0 ∧ 34 ≤ j ∧ j ≤ 38) → f_X9_begins τ k j = τ k j := by
  have e : f_X9_begins τ = ms (ms (ms (ms (ms τ 0 34 (ι 0)) 0 35 (-ι 1)) 0 36 (-ι 1)) 0 37 (ι 0)) 0 38 (ι 0) := by
    unfold f_X9_begins
    rfl
  rw [e]
  refine ⟨⟨?_, ?_, ?_, ?_, ?_⟩, ?_⟩
  · simp (disch := omega) only [↓reduceIte, eq_self, Bool.false_eq_true, reduceCtorEq, ob_s, ob2_s, od_e, onl_n, onl_s, ι_nat, ι_add, ι_mul, ι_sub, ι_addm, lt_t, lt_f, le_t, le_f, eq_t, eq_f, inb_t, inb_f, neq_f, neq_f2, neq_nf, nlt_t, nlt_f, nle_t, nle_f, ms_at, ms_off, up_at, up_off, L0, L1, L2, L3, L4, L5, L6, L7, L8, L9, L10, L11, L12, L13, L14, L15, L16, L17, L18, L19, L20, L21, L22, L23, L24, L30, L31, L32, L40, L41, L42, L43, L45, L47, L48, L52, L57, L59, L60, L61, L63, L64, L72, L97, L99, L100, L122, L160, L161, L200, L255, L999, L1200, L1998, L99999, L100000, L1000005]; rfl
  · simp (disch := omega) only [↓reduceIte, eq_self, Bool.false_eq_true, reduceCtorEq, ob_s, ob2_s, od_e, onl_n, onl_s, ι_nat, ι_add, ι_mul, ι_sub, ι_addm, lt_t, lt_f, le_t, le_f, eq_t, eq_f, inb_t, inb_f, neq_f, neq_f2, neq_nf, nlt_t, nlt_f, nle_t, nle_f, ms_at, ms_off, up_at, up_off, L0, L1, L2, L3, L4, L5, L6, L7, L8, L9, L10, L11, L12, L13, L14, L15, L16, L17, L18, L19, L20, L21, L22, L23, L24, L30, L31, L32, L40, L41, L42, L43, L45, L47, L48, L52, L57, L59, L60, L61, L63, L64, L72, L97, L99, L100, L122, L160, L161, L200, L255, L999, L1200, L1998, L99999, L100000, L1000005]; rfl
  · simp (disch := omega) only [↓reduceIte, eq_self, Bool.false_eq_true, reduceCtorEq, ob_s, ob2_s, od_e, onl_n, onl_s, ι_nat, ι_add, ι_mul, ι_sub, ι_addm, lt_t, lt_f, le_t, le_f, eq_t, eq_f, inb_t, inb_f, neq_f, neq_f2, neq_nf, nlt_t, nlt_f, nle_t, nle_f, ms_at, ms_off, up_at, up_off, L0, L1, L2, L3, L4, L5, L6, L7, L8, L9, L10, L11, L12, L13, L14, L15, L16, L17, L18, L19, L20, L21, L22, L23, L24, L30, L31, L32, L40, L41, L42, L43, L45, L47, L48, L52, L57, L59, L60, L61, L63, L64, L72, L97, L99, L100, L122, L160, L161, L200, L255, L999, L1200, L1998, L99999, L100000, L1000005]; rfl
  · simp (disch := omega) only [↓reduceIte, eq_self, Bool.false_eq_true, reduceCtorEq, ob_s, ob2_s, od_e, onl_n, onl_s, ι_nat, ι_add, ι_mul, ι_sub, ι_addm, lt_t, lt_f, le_t, le_f, eq_t, eq_f, inb_t, inb_f, neq_f, neq_f2, neq_nf, nlt_t, nlt_f, nle_t, nle_f, ms_at, ms_off, up_at, up_off, L0, L1, L2, L3, L4, L5, L6, L7, L8, L9, L10, L11, L12, L13, L14, L15, L16, L17, L18, L19, L20, L21, L22, L23, L24, L30, L31, L32, L40, L41, L42, L43, L45, L47, L48, L52, L57, L59, L60, L61, L63, L64, L72, L97, L99, L100, L122, L160, L161, L200, L255, L999, L1200, L1998, L99999, L100000, L1000005]; rfl
  · simp (disch := omega) only [↓reduceIte, eq_self, Bool.false_eq_true, reduceCtorEq, ob_s, ob2_s, od_e, onl_n, onl_s, ι_nat, ι_add, ι_mul, ι_sub, ι_addm, lt_t, lt_f, le_t, le_f, eq_t, eq_f, inb_t, inb_f, neq_f, neq_f2, neq_nf, nlt_t, nlt_f, nle_t, nle_f, ms_at, ms_off, up_at, up_off, L0, L1, L2, L3, L4, L5, L6, L7, L8, L9, L10, L11, L12, L13, L14, L15, L16, L17, L18, L19, L20, L21, L22, L23, L24, L30, L31, L32, L40, L41, L42, L43, L45, L47, L48, L52, L57, L59, L60, L61, L63, L64, L72, L97, L99, L100, L122, L160, L161, L200, L255, L999, L1200, L1998, L99999, L100000, L1000005]; rfl
  · intro k j h
    simp (disch := omega) only [ms_off]
theorem c_tally {t : Nat} {σ : Mem} : CK t K0 (f_X6_startTally σ t) ∧ ∀ k j, ¬ (k = t ∧ 7 ≤ j ∧ j ≤ 11) → f_X6_startTally σ t k j = σ k j := by
  have e : f_X6_startTally σ t = ms (ms (ms (ms (ms σ t 7 (ι 0)) t 8 (-ι 1)) t 9 (-ι 1)) t 10 (ι 0)) t 11 (ι 0) := by
    unfold f_X6_startTally
    rfl
  rw [e]
  refine ⟨⟨?_, ?_, ?_, ?_, ?_⟩, ?_⟩
  · simp (disch := omega) only [↓reduceIte, eq_self, Bool.false_eq_true, reduceCtorEq, ob_s, ob2_s, od_e, onl_n, onl_s, ι_nat, ι_add, ι_mul, ι_sub, ι_addm, lt_t, lt_f, le_t, le_f, eq_t, eq_f, inb_t, inb_f, neq_f, neq_f2, neq_nf, nlt_t, nlt_f, nle_t, nle_f, ms_at, ms_off, up_at, up_off, L0, L1, L2, L3, L4, L5, L6, L7, L8, L9, L10, L11, L12, L13, L14, L15, L16, L17, L18, L19, L20, L21, L22, L23, L24, L30, L31, L32, L40, L41, L42, L43, L45, L47, L48, L52, L57, L59, L60, L61, L63, L64, L72, L97, L99, L100, L122, L160, L161, L200, L255, L999, L1200, L1998, L99999, L100000, L1000005]; rfl
  · simp (disch := omega) only [↓reduceIte, eq_self, Bool.false_eq_true, reduceCtorEq, ob_s, ob2_s, od_e, onl_n, onl_s, ι_nat, ι_add, ι_mul, ι_sub, ι_addm, lt_t, lt_f, le_t, le_f, eq_t, eq_f, inb_t, inb_f, neq_f, neq_f2, neq_nf, nlt_t, nlt_f, nle_t, nle_f, ms_at, ms_off, up_at, up_off, L0, L1, L2, L3, L4, L5, L6, L7, L8, L9, L10, L11, L12, L13, L14, L15, L16, L17, L18, L19, L20, L21, L22, L23, L24, L30, L31, L32, L40, L41, L42, L43, L45, L47, L48, L52, L57, L59, L60, L61, L63, L64, L72, L97, L99, L100, L122, L160, L161, L200, L255, L999, L1200, L1998, L99999, L100000, L1000005]; rfl
  · simp (disch := omega) only [↓reduceIte, eq_self, Bool.false_eq_true, reduceCtorEq, ob_s, ob2_s, od_e, onl_n, onl_s, ι_nat, ι_add, ι_mul, ι_sub, ι_addm, lt_t, lt_f, le_t, le_f, eq_t, eq_f, inb_t, inb_f, neq_f, neq_f2, neq_nf, nlt_t, nlt_f, nle_t, nle_f, ms_at, ms_off, up_at, up_off, L0, L1, L2, L3, L4, L5, L6, L7, L8, L9, L10, L11, L12, L13, L14, L15, L16, L17, L18, L19, L20, L21, L22, L23, L24, L30, L31, L32, L40, L41, L42, L43, L45, L47, L48, L52, L57, L59, L60, L61, L63, L64, L72, L97, L99, L100, L122, L160, L161, L200, L255, L999, L1200, L1998, L99999, L100000, L1000005]; rfl
  · simp (disch := omega) only [↓reduceIte, eq_self, Bool.false_eq_true, reduceCtorEq, ob_s, ob2_s, od_e, onl_n, onl_s, ι_nat, ι_add, ι_mul, ι_sub, ι_addm, lt_t, lt_f, le_t, le_f, eq_t, eq_f, inb_t, inb_f, neq_f, neq_f2, neq_nf, nlt_t, nlt_f, nle_t, nle_f, ms_at, ms_off, up_at, up_off, L0, L1, L2, L3, L4, L5, L6, L7, L8, L9, L10, L11, L12, L13, L14, L15, L16, L17, L18, L19, L20, L21, L22, L23, L24, L30, L31, L32, L40, L41, L42, L43, L45, L47, L48, L52, L57, L59, L60, L61, L63, L64, L72, L97, L99, L100, L122, L160, L161, L200, L255, L999, L1200, L1998, L99999, L100000, L1000005]; rfl
  · simp (disch := omega) only [↓reduceIte, eq_self, Bool.false_eq_true, reduceCtorEq, ob_s, ob2_s, od_e, onl_n, onl_s, ι_nat, ι_add, ι_mul, ι_sub, ι_addm, lt_t, lt_f, le_t, le_f, eq_t, eq_f, inb_t, inb_f, neq_f, neq_f2, neq_nf, nlt_t, nlt_f, nle_t, nle_f, ms_at, ms_off, up_at, up_off, L0, L1, L2, L3, L4, L5, L6, L7, L8, L9, L10, L11, L12, L13, L14, L15, L16, L17, L18, L19, L20, L21, L22, L23, L24, L30, L31, L32, L40, L41, L42, L43, L45, L47, L48, L52, L57, L59, L60, L61, L63, L64, L72, L97, L99, L100, L122, L160, L161, L200, L255, L999, L1200, L1998, L99999, L100000, L1000005]; rfl
  · intro k j h
    simp (disch := omega) only [ms_off]
theorem r_keeps_l : ∀ d i n (τ : Mem), i + d = 72 → d < n → ∃ τ', f_X9_keeps_b2 n τ (ι i) = some (f_X9_begins (ms τ' 0 40 (τ' 0 6))) ∧ ∀ k j, τ' k j = if k = 17 ∧ i ≤ j ∧ j < 72 then (if j < 24 then τ 3 j else τ 4 (j - 24)) else τ k j := by
  intro d
  induction d with
  | zero =>
    intro i n τ hi hn
    obtain ⟨n, rfl⟩ : ∃ k, n = k + 1 := ⟨n - 1, by omega⟩
    refine ⟨τ, ?_, fun k j => by rw [if_neg (by omega)]⟩
    unfold f_X9_keeps_b2
    simp (disch := omega) only [↓reduceIte, eq_self, Bool.false_eq_true, reduceCtorEq, ob_s, ob2_s, od_e, onl_n, onl_s, ι_nat, ι_add, ι_mul, ι_sub, ι_addm, lt_t, lt_f, le_t, le_f, eq_t, eq_f, inb_t, inb_f, neq_f, neq_f2, neq_nf, nlt_t, nlt_f, nle_t, nle_f, ms_at, ms_off, up_at, up_off, L0, L1, L2, L3, L4, L5, L6, L7, L8, L9, L10, L11, L12, L13, L14, L15, L16, L17, L18, L19, L20, L21, L22, L23, L24, L30, L31, L32, L40, L41, L42, L43, L45, L47, L48, L52, L57, L59, L60, L61, L63, L64, L72, L97, L99, L100, L122, L160, L161, L200, L255, L999, L1200, L1998, L99999, L100000, L1000005]
  | succ d ih =>
    intro i n τ hi hn
    obtain ⟨n, rfl⟩ : ∃ k, n = k + 1 := ⟨n - 1, by omega⟩
    obtain ⟨τ', g1, g2⟩ := ih (i + 1) n (ms τ 17 i (if i < 24 then τ 3 i else τ 4 (i - 24))) (by omega) (by omega)
    refine ⟨τ', ?_, ?_⟩
    · unfold f_X9_keeps_b2
      by_cases h : i < 24
      · rw [if_pos h] at g1
        simp (disch := omega) only [f_X9_within, f_X9_keeps_b49, ↓reduceIte, eq_self, Bool.false_eq_true, reduceCtorEq, ob_s, ob2_s, od_e, onl_n, onl_s, ι_nat, ι_add, ι_mul, ι_sub, ι_addm, lt_t, lt_f, le_t, le_f, eq_t, eq_f, inb_t, inb_f, neq_f, neq_f2, neq_nf, nlt_t, nlt_f, nle_t, nle_f, ms_at, ms_off, up_at, up_off, L0, L1, L2, L3, L4, L5, L6, L7, L8, L9, L10, L11, L12, L13, L14, L15, L16, L17, L18, L19, L20, L21, L22, L23, L24, L30, L31, L32, L40, L41, L42, L43, L45, L47, L48, L52, L57, L59, L60, L61, L63, L64, L72, L97, L99, L100, L122, L160, L161, L200, L255, L999, L1200, L1998, L99999, L100000, L1000005]
        exact g1
      · rw [if_neg h] at g1
        simp (disch := omega) only [f_X9_within, f_X9_keeps_b49, ↓reduceIte, eq_self, Bool.false_eq_true, reduceCtorEq, ob_s, ob2_s, od_e, onl_n, onl_s, ι_nat, ι_add, ι_mul, ι_sub, ι_addm, lt_t, lt_f, le_t, le_f, eq_t, eq_f, inb_t, inb_f, neq_f, neq_f2, neq_nf, nlt_t, nlt_f, nle_t, nle_f, ms_at, ms_off, up_at, up_off, L0, L1, L2, L3, L4, L5, L6, L7, L8, L9, L10, L11, L12, L13, L14, L15, L16, L17, L18, L19, L20, L21, L22, L23, L24, L30, L31, L32, L40, L41, L42, L43, L45, L47, L48, L52, L57, L59, L60, L61, L63, L64, L72, L97, L99, L100, L122, L160, L161, L200, L255, L999, L1200, L1998, L99999, L100000, L1000005]
        exact g1
    · intro k j
      rw [g2 k j]
      by_cases h : k = 17 ∧ i ≤ j ∧ j < 72
      · rw [if_pos h]
        by_cases h2 : j = i
        · subst h2
          rw [if_neg (by omega), h.1, ms_at rfl rfl]
        · rw [if_pos (by omega), ms_off (by omega), ms_off (by omega)]
      · rw [if_neg h, if_neg (by omega), ms_off (by omega)]
theorem r_keeps {τ : Mem} : ∃ τ', f_X9_keeps τ = some τ' ∧ (∀ j, j < 24 → τ' 17 j = τ 3 j) ∧ (∀ j, j < 48 → τ' 17 (24 + j) = τ 4 j) ∧ τ' 0 40 = τ 0 6 ∧ FK K0 τ' ∧ ∀ k j, k ≠ 17 → ¬ (k = 0 ∧ (j = 40 ∨ (34 ≤ j ∧ j ≤ 38))) → τ' k j = τ k j := by
  obtain ⟨τ1, g1, g2⟩ := r_keeps_l 72 0 FU τ (by omega) (by unfold FU; omega)
  obtain ⟨b1, b2⟩ := r_begins (τ := ms τ1 0 40 (τ1 0 6))
  refine ⟨_, g1, ?_, ?_, ?_, b1, ?_⟩
  · intro j hj
    rw [b2 _ _ (by omega), ms_off (by omega), g2, if_pos (by omega), if_pos hj]
  · intro j hj
    rw [b2 _ _ (by omega), ms_off (by omega), g2, if_pos (by omega), if_neg (by omega), Nat.add_sub_cancel_left]
  · rw [b2 _ _ (by omega), ms_at rfl rfl, g2, if_neg (by omega)]
  · intro k j h1 h2
    rw [b2 _ _ (by omega), ms_off (by omega), g2, if_neg (by omega)]
theorem r_lays2 : ∀ d i n (τ : Mem), i + d = 48 → d < n → ∃ τ', f_X9_laysBack_b40 n τ (ι i) = some (ms τ' 0 6 (τ' 0 40)) ∧ ∀ k j, τ' k j = if k = 4 ∧ i ≤ j ∧ j < 48 then τ 17 (24 + j) else if k = 18 ∧ 24 + i ≤ j ∧ j < 72 then τ 4 (j - 24) else τ k j := by
  intro d
  induction d with
  | zero =>
    intro i n τ hi hn
    obtain ⟨n, rfl⟩ : ∃ k, n = k + 1 := ⟨n - 1, by omega⟩
    refine ⟨τ, ?_, fun k j => by rw [if_neg (by omega), if_neg (by omega)]⟩
    unfold f_X9_laysBack_b40
    simp (disch := omega) only [↓reduceIte, eq_self, Bool.false_eq_true, reduceCtorEq, ob_s, ob2_s, od_e, onl_n, onl_s, ι_nat, ι_add, ι_mul, ι_sub, ι_addm, lt_t, lt_f, le_t, le_f, eq_t, eq_f, inb_t, inb_f, neq_f, neq_f2, neq_nf, nlt_t, nlt_f, nle_t, nle_f, ms_at, ms_off, up_at, up_off, L0, L1, L2, L3, L4, L5, L6, L7, L8, L9, L10, L11, L12, L13, L14, L15, L16, L17, L18, L19, L20, L21, L22, L23, L24, L30, L31, L32, L40, L41, L42, L43, L45, L47, L48, L52, L57, L59, L60, L61, L63, L64, L72, L97, L99, L100, L122, L160, L161, L200, L255, L999, L1200, L1998, L99999, L100000, L1000005]
  | succ d ih =>
    intro i n τ hi hn
    obtain ⟨n, rfl⟩ : ∃ k, n = k + 1 := ⟨n - 1, by omega⟩
    obtain ⟨τ', g1, g2⟩ := ih (i + 1) n (ms (ms τ 18 (24 + i) (τ 4 i)) 4 i (τ 17 (24 + i))) (by omega) (by omega)
    refine ⟨τ', ?_, ?_⟩
    · unfold f_X9_laysBack_b40
      simp (disch := omega) only [↓reduceIte, eq_self, Bool.false_eq_true, reduceCtorEq, ob_s, ob2_s, od_e, onl_n, onl_s, ι_nat, ι_add, ι_mul, ι_sub, ι_addm, lt_t, lt_f, le_t, le_f, eq_t, eq_f, inb_t, inb_f, neq_f, neq_f2, neq_nf, nlt_t, nlt_f, nle_t, nle_f, ms_at, ms_off, up_at, up_off, L0, L1, L2, L3, L4, L5, L6, L7, L8, L9, L10, L11, L12, L13, L14, L15, L16, L17, L18, L19, L20, L21, L22, L23, L24, L30, L31, L32, L40, L41, L42, L43, L45, L47, L48, L52, L57, L59, L60, L61, L63, L64, L72, L97, L99, L100, L122, L160, L161, L200, L255, L999, L1200, L1998, L99999, L100000, L1000005]
      exact g1
    · intro k j
      rw [g2 k j]
      by_cases h : k = 4 ∧ i ≤ j ∧ j < 48
      · rw [if_pos h]
        by_cases h2 : j = i
        · subst h2
          rw [if_neg (by omega), if_neg (by omega), h.1, ms_at rfl rfl]
        · rw [if_pos (by omega), ms_off (by omega), ms_off (by omega)]
      · rw [if_neg h, if_neg (by omega)]
        by_cases h3 : k = 18 ∧ 24 + i ≤ j ∧ j < 72
        · rw [if_pos h3]
          by_cases h2 : j = 24 + i
          · subst h2
            rw [if_neg (by omega), h3.1, ms_off (by omega), ms_at rfl rfl, Nat.add_sub_cancel_left]
          · rw [if_pos (by omega), ms_off (by omega), ms_off (by omega)]
        · rw [if_neg h3, if_neg (by omega), ms_off (by omega), ms_off (by omega)]
theorem r_lays1 : ∀ d i n (τ : Mem), i + d = 24 → d < n → ∃ τ', f_X9_laysBack_b2 n τ (ι i) = f_X9_laysBack_b40 FU τ' (ι 0) ∧ ∀ k j, τ' k j = if k = 3 ∧ i ≤ j ∧ j < 24 then τ 17 j else if k = 18 ∧ i ≤ j ∧ j < 24 then τ 3 j else τ k j := by
  intro d
  induction d with
  | zero =>
    intro i n τ hi hn
    obtain ⟨n, rfl⟩ : ∃ k, n = k + 1 := ⟨n - 1, by omega⟩
    refine ⟨τ, ?_, fun k j => by rw [if_neg (by omega), if_neg (by omega)]⟩
    rw [f_X9_laysBack_b2]
    simp (disch := omega) only [↓reduceIte, eq_self, Bool.false_eq_true, reduceCtorEq, ob_s, ob2_s, od_e, onl_n, onl_s, ι_nat, ι_add, ι_mul, ι_sub, ι_addm, lt_t, lt_f, le_t, le_f, eq_t, eq_f, inb_t, inb_f, neq_f, neq_f2, neq_nf, nlt_t, nlt_f, nle_t, nle_f, ms_at, ms_off, up_at, up_off, L0, L1, L2, L3, L4, L5, L6, L7, L8, L9, L10, L11, L12, L13, L14, L15, L16, L17, L18, L19, L20, L21, L22, L23, L24, L30, L31, L32, L40, L41, L42, L43, L45, L47, L48, L52, L57, L59, L60, L61, L63, L64, L72, L97, L99, L100, L122, L160, L161, L200, L255, L999, L1200, L1998, L99999, L100000, L1000005]
  | succ d ih =>
    intro i n τ hi hn
    obtain ⟨n, rfl⟩ : ∃ k, n = k + 1 := ⟨n - 1, by omega⟩
    obtain ⟨τ', g1, g2⟩ := ih (i + 1) n (ms (ms τ 18 i (τ 3 i)) 3 i (τ 17 i)) (by omega) (by omega)
    refine ⟨τ', ?_, ?_⟩
    · rw [f_X9_laysBack_b2]
      simp (disch := omega) only [↓reduceIte, eq_self, Bool.false_eq_true, reduceCtorEq, ob_s, ob2_s, od_e, onl_n, onl_s, ι_nat, ι_add, ι_mul, ι_sub, ι_addm, lt_t, lt_f, le_t, le_f, eq_t, eq_f, inb_t, inb_f, neq_f, neq_f2, neq_nf, nlt_t, nlt_f, nle_t, nle_f, ms_at, ms_off, up_at, up_off, L0, L1, L2, L3, L4, L5, L6, L7, L8, L9, L10, L11, L12, L13, L14, L15, L16, L17, L18, L19, L20, L21, L22, L23, L24, L30, L31, L32, L40, L41, L42, L43, L45, L47, L48, L52, L57, L59, L60, L61, L63, L64, L72, L97, L99, L100, L122, L160, L161, L200, L255, L999, L1200, L1998, L99999, L100000, L1000005]
      exact g1
    · intro k j
      rw [g2 k j]
      by_cases h : k = 3 ∧ i ≤ j ∧ j < 24
      · rw [if_pos h]
        by_cases h2 : j = i
        · subst h2
          rw [if_neg (by omega), if_neg (by omega), h.1, ms_at rfl rfl]
        · rw [if_pos (by omega), ms_off (by omega), ms_off (by omega)]
      · rw [if_neg h, if_neg (by omega)]
        by_cases h3 : k = 18 ∧ i ≤ j ∧ j < 24
        · rw [if_pos h3]
          by_cases h2 : j = i
          · subst h2
            rw [if_neg (by omega), h3.1, ms_off (by omega), ms_at rfl rfl]
          · rw [if_pos (by omega), ms_off (by omega), ms_off (by omega)]
        · rw [if_neg h3, if_neg (by omega), ms_off (by omega), ms_off (by omega)]
theorem r_lays {τ : Mem} : ∃ τ', f_X9_laysBack τ = some τ' ∧ (∀ j, j < 24 → τ' 3 j = τ 17 j ∧ τ' 18 j = τ 3 j) ∧ (∀ j, j < 48 → τ' 4 j = τ 17 (24 + j) ∧ τ' 18 (24 + j) = τ 4 j) ∧ τ' 0 6 = τ 0 40 ∧ ∀ k j, k ≠ 3 → k ≠ 4 → k ≠ 18 → ¬ (k = 0 ∧ j = 6) → τ' k j = τ k j := by
  obtain ⟨τ1, g1, g2⟩ := r_lays1 24 0 FU τ (by omega) (by unfold FU; omega)
  obtain ⟨τ2, b1, b2⟩ := r_lays2 48 0 FU τ1 (by omega) (by unfold FU; omega)
  refine ⟨ms τ2 0 6 (τ2 0 40), ?_, ?_, ?_, ?_, ?_⟩
  · unfold f_X9_laysBack
    rw [L0, g1, b1]
  · intro j hj
    constructor
    · rw [ms_off (by omega), b2, if_neg (by omega), if_neg (by omega), g2, if_pos (by omega)]
    · rw [ms_off (by omega), b2, if_neg (by omega), if_neg (by omega), g2, if_neg (by omega), if_pos (by omega)]
  · intro j hj
    constructor
    · rw [ms_off (by omega), b2, if_pos (by omega), g2, if_neg (by omega), if_neg (by omega)]
    · rw [ms_off (by omega), b2, if_neg (by omega), if_pos (by omega), g2, if_neg (by omega), if_neg (by omega), Nat.add_sub_cancel_left]
  · rw [ms_at rfl rfl, b2, if_neg (by omega), if_neg (by omega), g2, if_neg (by omega), if_neg (by omega)]
  · intro k j h1 h2 h3 h4
    rw [ms_off (by omega), b2, if_neg (by omega), if_neg (by omega), g2, if_neg (by omega), if_neg (by omega)]
/-- kept, changed but for what is kept, laid back: nothing has changed that anything is told by -/
theorem r_back {τ τ1 τ2 : Mem} {Q : Nat → Nat → Prop} (k1 : ∀ j, j < 24 → τ1 17 j = τ 3 j) (k2 : ∀ j, j < 48 → τ1 17 (24 + j) = τ 4 j) (k3 : τ1 0 40 = τ 0 6) (k4 : ∀ k j, k ≠ 17 → ¬ (k = 0 ∧ (j = 40 ∨ (34 ≤ j ∧ j ≤ 38))) → τ1 k j = τ k j)
    (e : ∀ k j, k ≠ 3 → k ≠ 4 → k ≠ 15 → k ≠ 16 → ¬ (k = 0 ∧ (j = 6 ∨ (34 ≤ j ∧ j ≤ 38))) → ¬ Q k j → τ2 k j = τ1 k j) (hQ : ∀ k j, Q k j → k ≠ 17 ∧ k ≠ 0 ∧ k ≠ 18) : ∃ τ3, f_X9_laysBack τ2 = some τ3 ∧ (∀ k j, ¬ sR k j → ¬ Q k j → τ3 k j = τ k j) ∧ (∀ j, j < 24 → τ3 18 j = τ2 3 j) ∧ (∀ j, j < 48 → τ3 18 (24 + j) = τ2 4 j) ∧ (∀ k j, k ≠ 3 → k ≠ 4 → k ≠ 18 → ¬ (k = 0 ∧ j = 6) → τ3 k j = τ2 k j) := by
  obtain ⟨τ3, g1, g2, g3, g4, g5⟩ := r_lays (τ := τ2)
  have n17 : ∀ j, ¬ Q 17 j := fun j h => (hQ 17 j h).1 rfl
  have n0 : ∀ j, ¬ Q 0 j := fun j h => (hQ 0 j h).2.1 rfl
  refine ⟨τ3, g1, ?_, fun j hj => (g2 j hj).2, fun j hj => (g3 j hj).2, g5⟩
  intro k j h hq
  unfold sR at h
  by_cases h3 : k = 3
  · subst h3
    rw [(g2 j (by omega)).1, e _ _ (by omega) (by omega) (by omega) (by omega) (by omega) (n17 _), k1 j (by omega)]
  · by_cases h4 : k = 4
    · subst h4
      rw [(g3 j (by omega)).1, e _ _ (by omega) (by omega) (by omega) (by omega) (by omega) (n17 _), k2 j (by omega)]
    · by_cases h0 : k = 0 ∧ j = 6
      · obtain ⟨rfl, rfl⟩ := h0
        rw [g4, e _ _ (by omega) (by omega) (by omega) (by omega) (by omega) (n0 _), k3]
      · rw [g5 k j h3 h4 (by omega) h0, e k j h3 h4 (by omega) (by omega) (by omega) hq, k4 k j (by omega) (by omega)]
