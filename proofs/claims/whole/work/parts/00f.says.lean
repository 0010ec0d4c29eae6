/-! THE PURE PART: what a text says -/
theorem cm_n {n : Nat} (h : n ≤ 9999) : cm (ι n) = ι (100000 + n) := by
  unfold cm
  simp (disch := omega) only [↓reduceIte, eq_self, Bool.false_eq_true, reduceCtorEq, ob_s, ob2_s, od_e, onl_n, onl_s, ι_nat, ι_add, ι_mul, ι_sub, ι_addm, lt_t, lt_f, le_t, le_f, eq_t, eq_f, inb_t, inb_f, neq_f, neq_f2, neq_nf, nlt_t, nlt_f, nle_t, nle_f, ms_at, ms_off, up_at, up_off, L0, L1, L2, L3, L4, L5, L6, L7, L8, L9, L10, L11, L12, L13, L14, L15, L16, L17, L18, L19, L20, L21, L22, L23, L24, L30, L31, L32, L40, L41, L42, L43, L45, L47, L48, L52, L57, L59, L60, L61, L63, L64, L72, L97, L99, L100, L122, L160, L161, L200, L255, L999, L1200, L1998, L99999, L100000, L1000005]
theorem cm_m {n : Nat} (h : 1 ≤ n) (h6 : n ≤ 6) : cm (-ι n) = ι (n - 1) := by
  have : ∀ n, n ≤ 6 → 1 ≤ n → cm (-ι n) = ι (n - 1) := by decide +kernel
  exact this n h6 h
def cmo (n : Nat) : Nat := if n = 10 then 11 else if n = 11 then 12 else if n = 12 then 14 else if n = 13 then 15 else if n = 14 then 16 else if n = 15 then 17 else if n = 16 then 18 else if n = 17 then 13 else 19
theorem cm_o {n : Nat} (h : 10 ≤ n) (h6 : n ≤ 18) : cm (-ι n) = ι (cmo n) := by
  have : ∀ n, n ≤ 18 → 10 ≤ n → cm (-ι n) = ι (cmo n) := by decide +kernel
  exact this n h6 h
theorem negsub {a b : Nat} (h : a ≤ b) (hb : b < 2147483648) : -ι a - -ι b = ι (b - a) := by
  refine Int32.toInt_inj.mp ?_
  rw [Int32.toInt_sub, neg_int (by omega), neg_int hb, ι_int (by omega), Int.bmod_def]
  split <;> omega
theorem neq_t {a b : Nat} (h : a = b) : (-ι a = -ι b) = True := by rw [h]; exact eq_self _
theorem two_joined {n : Nat} (h : 10 ≤ n) (h6 : n ≤ 16) (a b : Int32) : f_X9_two (ι (cmo n)) a b = f_X3_joined (-ι n) a b := by
  have hn : n = 10 ∨ n = 11 ∨ n = 12 ∨ n = 13 ∨ n = 14 ∨ n = 15 ∨ n = 16 := by omega
  rcases hn with h | h | h | h | h | h | h <;> subst h <;> rfl
theorem hg_le {c : Nat → Int32} {n k : Nat} (h : WFc c n) (hk : k ≤ n) : hg c k ≤ 64 := h.2.2.1 k hk
theorem c_operand {nm : Nat → Int32} {σ : Mem} {c : Int32} (hn : ∀ q, q < 6 → σ 4 q = nm q) (hc : okc c) (h : -10 < c) : f_X3_operand σ c = some (opn nm c) := by
  unfold f_X3_operand opn
  rcases hc with ⟨n, h1, e⟩ | ⟨n, h1, h2, e⟩ | ⟨n, h1, h2, e⟩
  · subst e
    simp (disch := omega) only [↓reduceIte, eq_self, Bool.false_eq_true, reduceCtorEq, ob_s, ob2_s, od_e, onl_n, onl_s, ι_nat, ι_add, ι_mul, ι_sub, ι_addm, lt_t, lt_f, le_t, le_f, eq_t, eq_f, inb_t, inb_f, neq_f, neq_f2, neq_nf, nlt_t, nlt_f, nle_t, nle_f, ms_at, ms_off, up_at, up_off, L0, L1, L2, L3, L4, L5, L6, L7, L8, L9, L10, L11, L12, L13, L14, L15, L16, L17, L18, L19, L20, L21, L22, L23, L24, L30, L31, L32, L40, L41, L42, L43, L45, L47, L48, L52, L57, L59, L60, L61, L63, L64, L72, L97, L99, L100, L122, L160, L161, L200, L255, L999, L1200, L1998, L99999, L100000, L1000005]
  · subst e
    simp (disch := omega) only [negsub, hn, ↓reduceIte, eq_self, Bool.false_eq_true, reduceCtorEq, ob_s, ob2_s, od_e, onl_n, onl_s, ι_nat, ι_add, ι_mul, ι_sub, ι_addm, lt_t, lt_f, le_t, le_f, eq_t, eq_f, inb_t, inb_f, neq_f, neq_f2, neq_nf, nlt_t, nlt_f, nle_t, nle_f, ms_at, ms_off, up_at, up_off, L0, L1, L2, L3, L4, L5, L6, L7, L8, L9, L10, L11, L12, L13, L14, L15, L16, L17, L18, L19, L20, L21, L22, L23, L24, L30, L31, L32, L40, L41, L42, L43, L45, L47, L48, L52, L57, L59, L60, L61, L63, L64, L72, L97, L99, L100, L122, L160, L161, L200, L255, L999, L1200, L1998, L99999, L100000, L1000005]
  · subst e
    exfalso
    rw [show (10 : Int32) = ι 10 from rfl, nn_lt_f h1 (by omega)] at h
    exact h
theorem c_worth {nm c : Nat → Int32} {p N : Nat} (W : WFc c N) (hp : p ≠ 3 ∧ p ≠ 4) : ∀ d i n (σ : Mem), i + d = N → d < n → alen σ p = N → (∀ j, j < N → σ p j = c j) → (∀ q, q < 6 → σ 4 q = nm q) → (∀ j, j < hg c i → σ 3 j = evS nm c i j) →
    ∃ σ', f_X3_worth_b4 p n σ (ι (hg c i)) (ι i) = some (evS nm c N 0, σ') ∧ ∀ a j, a ≠ 3 → σ' a j = σ a j := by
  intro d
  induction d with
  | zero =>
    intro i n σ hi hn ha hc hq hs
    obtain ⟨n, rfl⟩ : ∃ k, n = k + 1 := ⟨n - 1, by omega⟩
    have hN := W.2.1
    have e1 : i = N := by omega
    subst e1
    refine ⟨σ, ?_, fun _ _ _ => rfl⟩
    unfold f_X3_worth_b4
    rw [ha, if_pos (by rw [show Int32.ofNat i = ι i from rfl, le_t (Nat.le_refl i) (by omega)]; trivial), hs 0 (by rw [W.1]; decide)]
  | succ d ih =>
    intro i n σ hi hn ha hc hq hs
    obtain ⟨n, rfl⟩ : ∃ k, n = k + 1 := ⟨n - 1, by omega⟩
    have hN := W.2.1
    obtain ⟨o, w1, w2⟩ := W.2.2.2 i (by omega)
    have hl := hg_le W (show i ≤ N by omega)
    have hl2 := hg_le W (show i + 1 ≤ N by omega)
    have go : ∀ (σ1 : Mem), (∀ a j, a ≠ 3 → σ1 a j = σ a j) → (∀ j, j < hg c (i + 1) → σ1 3 j = evS nm c (i + 1) j) → ∃ σ', f_X3_worth_b4 p n σ1 (ι (hg c (i + 1))) (ι (i + 1)) = some (evS nm c N 0, σ') ∧ ∀ a j, a ≠ 3 → σ' a j = σ a j := by
      intro σ1 hf h3
      obtain ⟨σ', g1, g2⟩ := ih (i + 1) n σ1 (by omega) (by omega) (by unfold alen; rw [hf _ _ hp.1]; exact ha) (fun j hj => by rw [hf _ _ hp.1]; exact hc j hj) (fun q h => by rw [hf _ _ (by decide)]; exact hq q h) h3
      exact ⟨σ', g1, fun a j h => by rw [g2 a j h, hf a j h]⟩
    have ec := hc i (by omega)
    have e0 : Int32.ofNat N = ι N := rfl
    rcases o with ⟨k, o1, o2⟩ | ⟨k, o1, o2, o3⟩ | ⟨k, o1, o2, o3⟩
    · have hgt : -10 < c i := by rw [o2, show (10 : Int32) = ι 10 from rfl, nlt_t (by omega) (by omega) (by omega)]; trivial
      have hop := c_operand hq (Or.inl ⟨k, o1, o2⟩) hgt
      have hh : hg c (i + 1) = hg c i + 1 := by show (if -10 < c i then _ else _) = _; rw [if_pos hgt]
      have he : evS nm c (i + 1) = fun j => if j = hg c i then opn nm (c i) else evS nm c i j := by show (if -10 < c i then _ else _) = _; rw [if_pos hgt]
      rw [o2] at hop
      obtain ⟨σ', g1, g2⟩ := go (ms σ 3 (hg c i) (opn nm (c i))) (fun a j h => ms_off (Or.inl h)) (fun j hj => by
        rw [he]
        by_cases h : j = hg c i
        · rw [ms_at rfl h]; exact (if_pos h).symm
        · rw [ms_off (Or.inr h), hs j (by omega)]; exact (if_neg h).symm)
      refine ⟨σ', ?_, g2⟩
      rw [hh] at g1
      unfold f_X3_worth_b4
      simp (disch := omega) only [ha, e0, ec, o2, f_X3_worth_b177, hop, ↓reduceIte, eq_self, Bool.false_eq_true, reduceCtorEq, ob_s, ob2_s, od_e, onl_n, onl_s, ι_nat, ι_add, ι_mul, ι_sub, ι_addm, lt_t, lt_f, le_t, le_f, eq_t, eq_f, inb_t, inb_f, neq_f, neq_f2, neq_nf, nlt_t, nlt_f, nle_t, nle_f, ms_at, ms_off, up_at, up_off, L0, L1, L2, L3, L4, L5, L6, L7, L8, L9, L10, L11, L12, L13, L14, L15, L16, L17, L18, L19, L20, L21, L22, L23, L24, L30, L31, L32, L40, L41, L42, L43, L45, L47, L48, L52, L57, L59, L60, L61, L63, L64, L72, L97, L99, L100, L122, L160, L161, L200, L255, L999, L1200, L1998, L99999, L100000, L1000005]
      rw [← o2]
      exact g1
    · have hgt : -10 < c i := by rw [o3, show (10 : Int32) = ι 10 from rfl, nn_lt_t (by omega) (by omega)]; trivial
      have hop := c_operand hq (Or.inr (Or.inl ⟨k, o1, o2, o3⟩)) hgt
      have hh : hg c (i + 1) = hg c i + 1 := by show (if -10 < c i then _ else _) = _; rw [if_pos hgt]
      have he : evS nm c (i + 1) = fun j => if j = hg c i then opn nm (c i) else evS nm c i j := by show (if -10 < c i then _ else _) = _; rw [if_pos hgt]
      rw [o3] at hop
      obtain ⟨σ', g1, g2⟩ := go (ms σ 3 (hg c i) (opn nm (c i))) (fun a j h => ms_off (Or.inl h)) (fun j hj => by
        rw [he]
        by_cases h : j = hg c i
        · rw [ms_at rfl h]; exact (if_pos h).symm
        · rw [ms_off (Or.inr h), hs j (by omega)]; exact (if_neg h).symm)
      refine ⟨σ', ?_, g2⟩
      rw [hh] at g1
      unfold f_X3_worth_b4
      simp (disch := omega) only [ha, e0, ec, o3, f_X3_worth_b177, hop, nn_lt_t, nn_lt_f, nn_le_t, nn_le_f, ↓reduceIte, eq_self, Bool.false_eq_true, reduceCtorEq, ob_s, ob2_s, od_e, onl_n, onl_s, ι_nat, ι_add, ι_mul, ι_sub, ι_addm, lt_t, lt_f, le_t, le_f, eq_t, eq_f, inb_t, inb_f, neq_f, neq_f2, neq_nf, nlt_t, nlt_f, nle_t, nle_f, ms_at, ms_off, up_at, up_off, L0, L1, L2, L3, L4, L5, L6, L7, L8, L9, L10, L11, L12, L13, L14, L15, L16, L17, L18, L19, L20, L21, L22, L23, L24, L30, L31, L32, L40, L41, L42, L43, L45, L47, L48, L52, L57, L59, L60, L61, L63, L64, L72, L97, L99, L100, L122, L160, L161, L200, L255, L999, L1200, L1998, L99999, L100000, L1000005]
      rw [← o3]
      exact g1
    · have hgt : ¬ -10 < c i := by rw [o3, show (10 : Int32) = ι 10 from rfl, nn_lt_f (by omega) (by omega)]; exact id
      have w1 := w1 hgt
      by_cases hu : c i = -17 ∨ c i = -18
      · have hh : hg c (i + 1) = hg c i := by show (if -10 < c i then _ else _) = _; rw [if_neg hgt, if_pos hu]
        have he : evS nm c (i + 1) = fun j => if j = hg c i - 1 then un (c i) (evS nm c i (hg c i - 1)) else evS nm c i j := by show (if -10 < c i then _ else _) = _; rw [if_neg hgt, if_pos hu]
        obtain ⟨σ', g1, g2⟩ := go (ms σ 3 (hg c i - 1) (un (c i) (evS nm c i (hg c i - 1)))) (fun a j h => ms_off (Or.inl h)) (fun j hj => by
          rw [he]
          by_cases h : j = hg c i - 1
          · rw [ms_at rfl h]; exact (if_pos h).symm
          · rw [ms_off (Or.inr h), hs j (by omega)]; exact (if_neg h).symm)
        refine ⟨σ', ?_, g2⟩
        rw [hh] at g1
        unfold f_X3_worth_b4 f_X3_worth_b69 f_X3_worth_b125
        unfold un at g1
        have s1 := hs (hg c i - 1) (by omega)
        rw [o3, show (17 : Int32) = ι 17 from rfl, show (18 : Int32) = ι 18 from rfl] at hu
        have hk : k = 17 ∨ k = 18 := by
          by_cases a1 : k = 17
          · exact Or.inl a1
          · by_cases a2 : k = 18
            · exact Or.inr a2
            · rw [neq_nf a1 (by omega) (by omega), neq_nf a2 (by omega) (by omega)] at hu
              exact absurd hu (by simp)
        rcases hk with hk | hk
        · subst hk
          rw [o3] at g1
          by_cases hz : evS nm c i (hg c i - 1) = ι 0
          · simp (disch := omega) only [L0, L1, L18, hz, neq_nf, eq_t, ↓reduceIte] at g1
            simp (disch := omega) only [ha, e0, ec, o3, f_X3_worth_b177, nn_lt_t, nn_lt_f, nn_le_t, nn_le_f, neq_t, s1, hz, ↓reduceIte, eq_self, Bool.false_eq_true, reduceCtorEq, ob_s, ob2_s, od_e, onl_n, onl_s, ι_nat, ι_add, ι_mul, ι_sub, ι_addm, lt_t, lt_f, le_t, le_f, eq_t, eq_f, inb_t, inb_f, neq_f, neq_f2, neq_nf, nlt_t, nlt_f, nle_t, nle_f, ms_at, ms_off, up_at, up_off, L0, L1, L2, L3, L4, L5, L6, L7, L8, L9, L10, L11, L12, L13, L14, L15, L16, L17, L18, L19, L20, L21, L22, L23, L24, L30, L31, L32, L40, L41, L42, L43, L45, L47, L48, L52, L57, L59, L60, L61, L63, L64, L72, L97, L99, L100, L122, L160, L161, L200, L255, L999, L1200, L1998, L99999, L100000, L1000005]
            exact g1
          · simp (disch := omega) only [L0, L1, L18, hz, neq_nf, ↓reduceIte] at g1
            simp (disch := omega) only [ha, e0, ec, o3, f_X3_worth_b177, nn_lt_t, nn_lt_f, nn_le_t, nn_le_f, neq_t, s1, hz, ↓reduceIte, eq_self, Bool.false_eq_true, reduceCtorEq, ob_s, ob2_s, od_e, onl_n, onl_s, ι_nat, ι_add, ι_mul, ι_sub, ι_addm, lt_t, lt_f, le_t, le_f, eq_t, eq_f, inb_t, inb_f, neq_f, neq_f2, neq_nf, nlt_t, nlt_f, nle_t, nle_f, ms_at, ms_off, up_at, up_off, L0, L1, L2, L3, L4, L5, L6, L7, L8, L9, L10, L11, L12, L13, L14, L15, L16, L17, L18, L19, L20, L21, L22, L23, L24, L30, L31, L32, L40, L41, L42, L43, L45, L47, L48, L52, L57, L59, L60, L61, L63, L64, L72, L97, L99, L100, L122, L160, L161, L200, L255, L999, L1200, L1998, L99999, L100000, L1000005]
            exact g1
        · subst hk
          rw [o3] at g1
          simp (disch := omega) only [L18, neq_t, ↓reduceIte] at g1
          simp (disch := omega) only [ha, e0, ec, o3, f_X3_worth_b177, nn_lt_t, nn_lt_f, nn_le_t, nn_le_f, neq_t, s1, ↓reduceIte, eq_self, Bool.false_eq_true, reduceCtorEq, ob_s, ob2_s, od_e, onl_n, onl_s, ι_nat, ι_add, ι_mul, ι_sub, ι_addm, lt_t, lt_f, le_t, le_f, eq_t, eq_f, inb_t, inb_f, neq_f, neq_f2, neq_nf, nlt_t, nlt_f, nle_t, nle_f, ms_at, ms_off, up_at, up_off, L0, L1, L2, L3, L4, L5, L6, L7, L8, L9, L10, L11, L12, L13, L14, L15, L16, L17, L18, L19, L20, L21, L22, L23, L24, L30, L31, L32, L40, L41, L42, L43, L45, L47, L48, L52, L57, L59, L60, L61, L63, L64, L72, L97, L99, L100, L122, L160, L161, L200, L255, L999, L1200, L1998, L99999, L100000, L1000005]
          exact g1
      · have w2 := w2 hgt hu
        have hh : hg c (i + 1) = hg c i - 1 := by show (if -10 < c i then _ else _) = _; rw [if_neg hgt, if_neg hu]
        have he : evS nm c (i + 1) = fun j => if j = hg c i - 2 then f_X3_joined (c i) (evS nm c i (hg c i - 2)) (evS nm c i (hg c i - 1)) else evS nm c i j := by show (if -10 < c i then _ else _) = _; rw [if_neg hgt, if_neg hu]
        obtain ⟨σ', g1, g2⟩ := go (ms σ 3 (hg c i - 2) (f_X3_joined (c i) (evS nm c i (hg c i - 2)) (evS nm c i (hg c i - 1)))) (fun a j h => ms_off (Or.inl h)) (fun j hj => by
          rw [he]
          by_cases h : j = hg c i - 2
          · rw [ms_at rfl h]; exact (if_pos h).symm
          · rw [ms_off (Or.inr h), hs j (by omega)]; exact (if_neg h).symm)
        refine ⟨σ', ?_, g2⟩
        rw [hh] at g1
        unfold f_X3_worth_b4
        have s1 := hs (hg c i - 1) (by omega)
        have s2 := hs (hg c i - 2) (by omega)
        rw [o3, show (17 : Int32) = ι 17 from rfl, show (18 : Int32) = ι 18 from rfl] at hu
        have k1 : k ≠ 17 := fun h => hu (Or.inl (by rw [h]))
        have k2 : k ≠ 18 := fun h => hu (Or.inr (by rw [h]))
        rw [o3] at g1
        simp (disch := omega) only [ha, e0, ec, o3, f_X3_worth_b177, nn_lt_t, nn_lt_f, nn_le_t, nn_le_f, neq_t, s1, s2, ↓reduceIte, eq_self, Bool.false_eq_true, reduceCtorEq, ob_s, ob2_s, od_e, onl_n, onl_s, ι_nat, ι_add, ι_mul, ι_sub, ι_addm, lt_t, lt_f, le_t, le_f, eq_t, eq_f, inb_t, inb_f, neq_f, neq_f2, neq_nf, nlt_t, nlt_f, nle_t, nle_f, ms_at, ms_off, up_at, up_off, L0, L1, L2, L3, L4, L5, L6, L7, L8, L9, L10, L11, L12, L13, L14, L15, L16, L17, L18, L19, L20, L21, L22, L23, L24, L30, L31, L32, L40, L41, L42, L43, L45, L47, L48, L52, L57, L59, L60, L61, L63, L64, L72, L97, L99, L100, L122, L160, L161, L200, L255, L999, L1200, L1998, L99999, L100000, L1000005]
        exact g1
