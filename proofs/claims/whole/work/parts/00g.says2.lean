theorem r_says_l {nm c : Nat → Int32} {y q s N : Nat} (W : WFc c N) (hy : y < 6) (hq3 : q < 3) (hs2 : s + N ≤ 200) : ∀ d i n (τ : Mem), i + d = N → d < n → τ 0 12 = ι y → τ 7 (4 * y + q + 1) = ι (s + N) → (∀ j, j < N → τ 6 (200 * y + (s + j)) = cm (c j)) → (∀ q, q < 6 → τ 16 q = nm q) → (∀ j, j < hg c i → τ 15 j = evS nm c i j) →
    ∃ τ', f_X9_says_b16 (ι q) n τ (ι (hg c i)) (ι (s + i)) = some (evS nm c N 0, τ') ∧ ∀ a j, a ≠ 15 → τ' a j = τ a j := by
  intro d
  induction d with
  | zero =>
    intro i n τ hi hn hr ha hc hq hs
    obtain ⟨n, rfl⟩ : ∃ k, n = k + 1 := ⟨n - 1, by omega⟩
    have hN := W.2.1
    have e1 : i = N := by omega
    subst e1
    refine ⟨τ, ?_, fun _ _ _ => rfl⟩
    unfold f_X9_says_b16
    simp (disch := omega) only [hr, ha, ↓reduceIte, eq_self, Bool.false_eq_true, reduceCtorEq, ob_s, ob2_s, od_e, onl_n, onl_s, ι_nat, ι_add, ι_mul, ι_sub, ι_addm, lt_t, lt_f, le_t, le_f, eq_t, eq_f, inb_t, inb_f, neq_f, neq_f2, neq_nf, nlt_t, nlt_f, nle_t, nle_f, ms_at, ms_off, up_at, up_off, L0, L1, L2, L3, L4, L5, L6, L7, L8, L9, L10, L11, L12, L13, L14, L15, L16, L17, L18, L19, L20, L21, L22, L23, L24, L30, L31, L32, L40, L41, L42, L43, L45, L47, L48, L52, L57, L59, L60, L61, L63, L64, L72, L97, L99, L100, L122, L160, L161, L200, L255, L999, L1200, L1998, L99999, L100000, L1000005]
    rw [hs 0 (by rw [W.1]; decide)]
  | succ d ih =>
    intro i n τ hi hn hr ha hc hq hs
    obtain ⟨n, rfl⟩ : ∃ k, n = k + 1 := ⟨n - 1, by omega⟩
    have hN := W.2.1
    obtain ⟨o, w1, w2⟩ := W.2.2.2 i (by omega)
    have hl := hg_le W (show i ≤ N by omega)
    have hl2 := hg_le W (show i + 1 ≤ N by omega)
    have go : ∀ (τ1 : Mem), (∀ a j, a ≠ 15 → τ1 a j = τ a j) → (∀ j, j < hg c (i + 1) → τ1 15 j = evS nm c (i + 1) j) → ∃ τ', f_X9_says_b16 (ι q) n τ1 (ι (hg c (i + 1))) (ι (s + i + 1)) = some (evS nm c N 0, τ') ∧ ∀ a j, a ≠ 15 → τ' a j = τ a j := by
      intro τ1 hf h3
      obtain ⟨τ', g1, g2⟩ := ih (i + 1) n τ1 (by omega) (by omega) (by rw [hf _ _ (by decide)]; exact hr) (by rw [hf _ _ (by decide)]; exact ha) (fun j hj => by rw [hf _ _ (by decide)]; exact hc j hj) (fun q h => by rw [hf _ _ (by decide)]; exact hq q h) h3
      exact ⟨τ', g1, fun a j h => by rw [g2 a j h, hf a j h]⟩
    have ec := hc i (by omega)
    rcases o with ⟨k, o1, o2⟩ | ⟨k, o1, o2, o3⟩ | ⟨k, o1, o2, o3⟩
    · have hgt : -10 < c i := by rw [o2, show (10 : Int32) = ι 10 from rfl, nlt_t (by omega) (by omega) (by omega)]; trivial
      have hh : hg c (i + 1) = hg c i + 1 := by show (if -10 < c i then _ else _) = _; rw [if_pos hgt]
      have he : evS nm c (i + 1) = fun j => if j = hg c i then opn nm (c i) else evS nm c i j := by show (if -10 < c i then _ else _) = _; rw [if_pos hgt]
      have hop : opn nm (c i) = ι k := by
        rw [o2]
        unfold opn
        simp (disch := omega) only [↓reduceIte, eq_self, Bool.false_eq_true, reduceCtorEq, ob_s, ob2_s, od_e, onl_n, onl_s, ι_nat, ι_add, ι_mul, ι_sub, ι_addm, lt_t, lt_f, le_t, le_f, eq_t, eq_f, inb_t, inb_f, neq_f, neq_f2, neq_nf, nlt_t, nlt_f, nle_t, nle_f, ms_at, ms_off, up_at, up_off, L0, L1, L2, L3, L4, L5, L6, L7, L8, L9, L10, L11, L12, L13, L14, L15, L16, L17, L18, L19, L20, L21, L22, L23, L24, L30, L31, L32, L40, L41, L42, L43, L45, L47, L48, L52, L57, L59, L60, L61, L63, L64, L72, L97, L99, L100, L122, L160, L161, L200, L255, L999, L1200, L1998, L99999, L100000, L1000005]
      obtain ⟨τ', g1, g2⟩ := go (ms τ 15 (hg c i) (opn nm (c i))) (fun a j h => ms_off (Or.inl h)) (fun j hj => by
        rw [he]
        by_cases h : j = hg c i
        · rw [ms_at rfl h]; exact (if_pos h).symm
        · rw [ms_off (Or.inr h), hs j (by omega)]; exact (if_neg h).symm)
      refine ⟨τ', ?_, g2⟩
      rw [hh, hop] at g1
      rw [o2, cm_n o1] at ec
      unfold f_X9_says_b16
      simp (disch := omega) only [hr, ha, ec, f_X9_says_b66, f_X9_says_b93, f_X9_says_b191, Nat.add_sub_cancel_left, ↓reduceIte, eq_self, Bool.false_eq_true, reduceCtorEq, ob_s, ob2_s, od_e, onl_n, onl_s, ι_nat, ι_add, ι_mul, ι_sub, ι_addm, lt_t, lt_f, le_t, le_f, eq_t, eq_f, inb_t, inb_f, neq_f, neq_f2, neq_nf, nlt_t, nlt_f, nle_t, nle_f, ms_at, ms_off, up_at, up_off, L0, L1, L2, L3, L4, L5, L6, L7, L8, L9, L10, L11, L12, L13, L14, L15, L16, L17, L18, L19, L20, L21, L22, L23, L24, L30, L31, L32, L40, L41, L42, L43, L45, L47, L48, L52, L57, L59, L60, L61, L63, L64, L72, L97, L99, L100, L122, L160, L161, L200, L255, L999, L1200, L1998, L99999, L100000, L1000005]
      exact g1
    · have hgt : -10 < c i := by rw [o3, show (10 : Int32) = ι 10 from rfl, nn_lt_t (by omega) (by omega)]; trivial
      have hh : hg c (i + 1) = hg c i + 1 := by show (if -10 < c i then _ else _) = _; rw [if_pos hgt]
      have he : evS nm c (i + 1) = fun j => if j = hg c i then opn nm (c i) else evS nm c i j := by show (if -10 < c i then _ else _) = _; rw [if_pos hgt]
      have hop : opn nm (c i) = nm (k - 1) := by
        rw [o3]
        unfold opn
        simp (disch := omega) only [negsub, ↓reduceIte, eq_self, Bool.false_eq_true, reduceCtorEq, ob_s, ob2_s, od_e, onl_n, onl_s, ι_nat, ι_add, ι_mul, ι_sub, ι_addm, lt_t, lt_f, le_t, le_f, eq_t, eq_f, inb_t, inb_f, neq_f, neq_f2, neq_nf, nlt_t, nlt_f, nle_t, nle_f, ms_at, ms_off, up_at, up_off, L0, L1, L2, L3, L4, L5, L6, L7, L8, L9, L10, L11, L12, L13, L14, L15, L16, L17, L18, L19, L20, L21, L22, L23, L24, L30, L31, L32, L40, L41, L42, L43, L45, L47, L48, L52, L57, L59, L60, L61, L63, L64, L72, L97, L99, L100, L122, L160, L161, L200, L255, L999, L1200, L1998, L99999, L100000, L1000005]
      obtain ⟨τ', g1, g2⟩ := go (ms τ 15 (hg c i) (opn nm (c i))) (fun a j h => ms_off (Or.inl h)) (fun j hj => by
        rw [he]
        by_cases h : j = hg c i
        · rw [ms_at rfl h]; exact (if_pos h).symm
        · rw [ms_off (Or.inr h), hs j (by omega)]; exact (if_neg h).symm)
      refine ⟨τ', ?_, g2⟩
      rw [hh, hop] at g1
      rw [o3, cm_m o1 o2] at ec
      have hnm := hq (k - 1) (by omega)
      unfold f_X9_says_b16
      simp (disch := omega) only [hr, ha, ec, f_X9_says_b66, f_X9_says_b93, f_X9_says_b191, hnm, ↓reduceIte, eq_self, Bool.false_eq_true, reduceCtorEq, ob_s, ob2_s, od_e, onl_n, onl_s, ι_nat, ι_add, ι_mul, ι_sub, ι_addm, lt_t, lt_f, le_t, le_f, eq_t, eq_f, inb_t, inb_f, neq_f, neq_f2, neq_nf, nlt_t, nlt_f, nle_t, nle_f, ms_at, ms_off, up_at, up_off, L0, L1, L2, L3, L4, L5, L6, L7, L8, L9, L10, L11, L12, L13, L14, L15, L16, L17, L18, L19, L20, L21, L22, L23, L24, L30, L31, L32, L40, L41, L42, L43, L45, L47, L48, L52, L57, L59, L60, L61, L63, L64, L72, L97, L99, L100, L122, L160, L161, L200, L255, L999, L1200, L1998, L99999, L100000, L1000005]
      exact g1
    · have hgt : ¬ -10 < c i := by rw [o3, show (10 : Int32) = ι 10 from rfl, nn_lt_f (by omega) (by omega)]; exact id
      have w1 := w1 hgt
      by_cases hu : c i = -17 ∨ c i = -18
      · have hh : hg c (i + 1) = hg c i := by show (if -10 < c i then _ else _) = _; rw [if_neg hgt, if_pos hu]
        have he : evS nm c (i + 1) = fun j => if j = hg c i - 1 then un (c i) (evS nm c i (hg c i - 1)) else evS nm c i j := by show (if -10 < c i then _ else _) = _; rw [if_neg hgt, if_pos hu]
        obtain ⟨τ', g1, g2⟩ := go (ms τ 15 (hg c i - 1) (un (c i) (evS nm c i (hg c i - 1)))) (fun a j h => ms_off (Or.inl h)) (fun j hj => by
          rw [he]
          by_cases h : j = hg c i - 1
          · rw [ms_at rfl h]; exact (if_pos h).symm
          · rw [ms_off (Or.inr h), hs j (by omega)]; exact (if_neg h).symm)
        refine ⟨τ', ?_, g2⟩
        rw [hh] at g1
        unfold f_X9_says_b16
        unfold un at g1
        have s1 := hs (hg c i - 1) (by omega)
        rw [o3, show (17 : Int32) = ι 17 from rfl, show (18 : Int32) = ι 18 from rfl] at hu
        have hk : k = 17 ∨ k = 18 := by
          by_cases a1 : k = 17
          · exact Or.inl a1
          · by_cases a2 : k = 18
            · exact Or.inr a2
            · rw [neq_nf a1 (by omega) (by omega), neq_nf a2 (by omega) (by omega)] at hu
              exact absurd hu (by simp)
        rw [o3, cm_o o1 o2] at ec
        rcases hk with hk | hk
        · subst hk
          have ec : τ 6 (200 * y + (s + i)) = ι 13 := ec
          rw [o3] at g1
          by_cases hz : evS nm c i (hg c i - 1) = ι 0
          · simp (disch := omega) only [L0, L1, L18, hz, neq_nf, eq_t, ↓reduceIte] at g1
            simp (disch := omega) only [hr, ha, ec, f_X9_says_b130, f_X9_says_b191, s1, hz, ↓reduceIte, eq_self, Bool.false_eq_true, reduceCtorEq, ob_s, ob2_s, od_e, onl_n, onl_s, ι_nat, ι_add, ι_mul, ι_sub, ι_addm, lt_t, lt_f, le_t, le_f, eq_t, eq_f, inb_t, inb_f, neq_f, neq_f2, neq_nf, nlt_t, nlt_f, nle_t, nle_f, ms_at, ms_off, up_at, up_off, L0, L1, L2, L3, L4, L5, L6, L7, L8, L9, L10, L11, L12, L13, L14, L15, L16, L17, L18, L19, L20, L21, L22, L23, L24, L30, L31, L32, L40, L41, L42, L43, L45, L47, L48, L52, L57, L59, L60, L61, L63, L64, L72, L97, L99, L100, L122, L160, L161, L200, L255, L999, L1200, L1998, L99999, L100000, L1000005]
            exact g1
          · simp (disch := omega) only [L0, L1, L18, hz, neq_nf, ↓reduceIte] at g1
            simp (disch := omega) only [hr, ha, ec, f_X9_says_b130, f_X9_says_b191, s1, hz, ↓reduceIte, eq_self, Bool.false_eq_true, reduceCtorEq, ob_s, ob2_s, od_e, onl_n, onl_s, ι_nat, ι_add, ι_mul, ι_sub, ι_addm, lt_t, lt_f, le_t, le_f, eq_t, eq_f, inb_t, inb_f, neq_f, neq_f2, neq_nf, nlt_t, nlt_f, nle_t, nle_f, ms_at, ms_off, up_at, up_off, L0, L1, L2, L3, L4, L5, L6, L7, L8, L9, L10, L11, L12, L13, L14, L15, L16, L17, L18, L19, L20, L21, L22, L23, L24, L30, L31, L32, L40, L41, L42, L43, L45, L47, L48, L52, L57, L59, L60, L61, L63, L64, L72, L97, L99, L100, L122, L160, L161, L200, L255, L999, L1200, L1998, L99999, L100000, L1000005]
            exact g1
        · subst hk
          have ec : τ 6 (200 * y + (s + i)) = ι 19 := ec
          rw [o3] at g1
          simp (disch := omega) only [L18, neq_t, ↓reduceIte] at g1
          simp (disch := omega) only [hr, ha, ec, f_X9_says_b130, f_X9_says_b191, s1, ↓reduceIte, eq_self, Bool.false_eq_true, reduceCtorEq, ob_s, ob2_s, od_e, onl_n, onl_s, ι_nat, ι_add, ι_mul, ι_sub, ι_addm, lt_t, lt_f, le_t, le_f, eq_t, eq_f, inb_t, inb_f, neq_f, neq_f2, neq_nf, nlt_t, nlt_f, nle_t, nle_f, ms_at, ms_off, up_at, up_off, L0, L1, L2, L3, L4, L5, L6, L7, L8, L9, L10, L11, L12, L13, L14, L15, L16, L17, L18, L19, L20, L21, L22, L23, L24, L30, L31, L32, L40, L41, L42, L43, L45, L47, L48, L52, L57, L59, L60, L61, L63, L64, L72, L97, L99, L100, L122, L160, L161, L200, L255, L999, L1200, L1998, L99999, L100000, L1000005]
          exact g1
      · have w2 := w2 hgt hu
        have hh : hg c (i + 1) = hg c i - 1 := by show (if -10 < c i then _ else _) = _; rw [if_neg hgt, if_neg hu]
        have he : evS nm c (i + 1) = fun j => if j = hg c i - 2 then f_X3_joined (c i) (evS nm c i (hg c i - 2)) (evS nm c i (hg c i - 1)) else evS nm c i j := by show (if -10 < c i then _ else _) = _; rw [if_neg hgt, if_neg hu]
        obtain ⟨τ', g1, g2⟩ := go (ms τ 15 (hg c i - 2) (f_X3_joined (c i) (evS nm c i (hg c i - 2)) (evS nm c i (hg c i - 1)))) (fun a j h => ms_off (Or.inl h)) (fun j hj => by
          rw [he]
          by_cases h : j = hg c i - 2
          · rw [ms_at rfl h]; exact (if_pos h).symm
          · rw [ms_off (Or.inr h), hs j (by omega)]; exact (if_neg h).symm)
        refine ⟨τ', ?_, g2⟩
        rw [hh] at g1
        have s1 := hs (hg c i - 1) (by omega)
        have s2 := hs (hg c i - 2) (by omega)
        rw [o3, show (17 : Int32) = ι 17 from rfl, show (18 : Int32) = ι 18 from rfl] at hu
        have k1 : k ≠ 17 := fun h => hu (Or.inl (by rw [h]))
        have k2 : k ≠ 18 := fun h => hu (Or.inr (by rw [h]))
        rw [o3, ← two_joined o1 (by omega)] at g1
        rw [o3, cm_o o1 o2] at ec
        have b1 : 11 ≤ cmo k := by unfold cmo; (repeat' split) <;> omega
        have b2 : cmo k < 99 := by unfold cmo; (repeat' split) <;> omega
        have b3 : cmo k ≠ 13 := by unfold cmo; (repeat' split) <;> omega
        have b4 : cmo k ≠ 19 := by unfold cmo; (repeat' split) <;> omega
        have e2 : hg c i - 1 - 1 = hg c i - 2 := by omega
        unfold f_X9_says_b16
        simp (disch := omega) only [hr, ha, ec, f_X9_says_b191, s1, s2, e2, ↓reduceIte, eq_self, Bool.false_eq_true, reduceCtorEq, ob_s, ob2_s, od_e, onl_n, onl_s, ι_nat, ι_add, ι_mul, ι_sub, ι_addm, lt_t, lt_f, le_t, le_f, eq_t, eq_f, inb_t, inb_f, neq_f, neq_f2, neq_nf, nlt_t, nlt_f, nle_t, nle_f, ms_at, ms_off, up_at, up_off, L0, L1, L2, L3, L4, L5, L6, L7, L8, L9, L10, L11, L12, L13, L14, L15, L16, L17, L18, L19, L20, L21, L22, L23, L24, L30, L31, L32, L40, L41, L42, L43, L45, L47, L48, L52, L57, L59, L60, L61, L63, L64, L72, L97, L99, L100, L122, L160, L161, L200, L255, L999, L1200, L1998, L99999, L100000, L1000005]
        exact g1
theorem c_says {T : Nat} {X : XT} {σ : Mem} (hX : CXT T X σ) (hO : OKX T X) {y q k b o m w ow r : Nat} (hy : y < T) (hq : q < 3) (hk : 5 ≤ k) (e1 : σ k 1 = ι m) (e2 : σ k 2 = ι b) (e3 : σ k 3 = ι o) (e4 : σ k 4 = ι r) :
    ∃ σ', f_X3_says σ (ι y) (ι q) k (ι w) (ι ow) = some (ι (sayN X y q b o m w ow r), σ') ∧ ∀ a j, a ≠ 3 → a ≠ 4 → σ' a j = σ a j := by
  obtain ⟨t1, t2, hW⟩ := hO
  obtain ⟨x1, x2⟩ := hX
  obtain ⟨x2, x3⟩ := x2 y hy q hq
  have hp : tad y + 1 + q ≠ 3 ∧ tad y + 1 + q ≠ 4 := by unfold tad; split <;> omega
  have W := hW y hy q hq
  have hpo : ∀ σ : Mem, f_X5_partOf σ (tad y) (ι q) = tad y + 1 + q := by
    intro σ
    unfold f_X5_partOf
    have : q = 0 ∨ q = 1 ∨ q = 2 := by omega
    rcases this with h | h | h <;> subst h <;> rfl
  have htr : tref σ (ι y) = some (tad y) := by
    unfold tref txn
    simp (disch := omega) only [x1, if_pos, ↓reduceIte, eq_self, Bool.false_eq_true, reduceCtorEq, ob_s, ob2_s, od_e, onl_n, onl_s, ι_nat, ι_add, ι_mul, ι_sub, ι_addm, lt_t, lt_f, le_t, le_f, eq_t, eq_f, inb_t, inb_f, neq_f, neq_f2, neq_nf, nlt_t, nlt_f, nle_t, nle_f, ms_at, ms_off, up_at, up_off, L0, L1, L2, L3, L4, L5, L6, L7, L8, L9, L10, L11, L12, L13, L14, L15, L16, L17, L18, L19, L20, L21, L22, L23, L24, L30, L31, L32, L40, L41, L42, L43, L45, L47, L48, L52, L57, L59, L60, L61, L63, L64, L72, L97, L99, L100, L122, L160, L161, L200, L255, L999, L1200, L1998, L99999, L100000, L1000005]
  let σ0 : Mem := ms (ms (ms (ms (ms (ms σ 4 0 (ι b)) 4 1 (ι o)) 4 2 (ι m)) 4 3 (ι w)) 4 4 (ι ow)) 4 5 (ι r)
  have hf0 : ∀ a j, a ≠ 4 → σ0 a j = σ a j := by
    intro a j h
    show (ms (ms (ms (ms (ms (ms σ 4 0 (ι b)) 4 1 (ι o)) 4 2 (ι m)) 4 3 (ι w)) 4 4 (ι ow)) 4 5 (ι r)) a j = σ a j
    simp (disch := omega) only [ms_off]
  obtain ⟨σ', g1, g2⟩ := c_worth (nm := nmv b o m w ow r) W hp (X.2 y q) 0 FU σ0 (by omega) (by have := W.2.1; unfold FU; omega) (by unfold alen; rw [hf0 _ _ hp.2]; exact x2) (fun j hj => by rw [hf0 _ _ hp.2]; exact x3 j hj)
    (fun q hq => by
      have : q = 0 ∨ q = 1 ∨ q = 2 ∨ q = 3 ∨ q = 4 ∨ q = 5 := by omega
      show (ms (ms (ms (ms (ms (ms σ 4 0 (ι b)) 4 1 (ι o)) 4 2 (ι m)) 4 3 (ι w)) 4 4 (ι ow)) 4 5 (ι r)) 4 q = _
      rcases this with h | h | h | h | h | h <;> subst h <;> (simp (disch := omega) only [ms_at, ms_off]; rfl)) (fun j hj => absurd hj (Nat.not_lt_zero j))
  refine ⟨σ', ?_, fun a j h3 h4 => by rw [g2 a j h3, hf0 a j h4]⟩
  unfold f_X3_says f_X3_says_b31 f_X3_worth
  simp (disch := omega) only [x1, htr, e1, e2, e3, e4, hpo, ↓reduceIte, eq_self, Bool.false_eq_true, reduceCtorEq, ob_s, ob2_s, od_e, onl_n, onl_s, ι_nat, ι_add, ι_mul, ι_sub, ι_addm, lt_t, lt_f, le_t, le_f, eq_t, eq_f, inb_t, inb_f, neq_f, neq_f2, neq_nf, nlt_t, nlt_f, nle_t, nle_f, ms_at, ms_off, up_at, up_off, L0, L1, L2, L3, L4, L5, L6, L7, L8, L9, L10, L11, L12, L13, L14, L15, L16, L17, L18, L19, L20, L21, L22, L23, L24, L30, L31, L32, L40, L41, L42, L43, L45, L47, L48, L52, L57, L59, L60, L61, L63, L64, L72, L97, L99, L100, L122, L160, L161, L200, L255, L999, L1200, L1998, L99999, L100000, L1000005]
  rw [show f_X3_worth_b4 (tad y + 1 + q) FU (ms (ms (ms (ms (ms (ms σ 4 0 (ι b)) 4 1 (ι o)) 4 2 (ι m)) 4 3 (ι w)) 4 4 (ι ow)) 4 5 (ι r)) (ι 0) (ι 0) = _ from g1, ob2_s]
  rw [show ι 0 = (0 : Int32) from rfl, show ι 99 = (99 : Int32) from rfl, cl99_c]
  rfl
