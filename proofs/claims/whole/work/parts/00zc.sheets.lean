/-! THE PURE PART: sheets -/
theorem RR_sh {σ τ σ' τ' : Mem} (hR : RR σ τ) (hc : ∀ k j, ¬ sC k j → ¬ (67 ≤ k ∧ k < 75) → σ' k j = σ k j) (hr : ∀ k j, ¬ sR k j → ¬ (9 ≤ k ∧ k ≤ 11) → τ' k j = τ k j) (hS' : SRel σ' τ') : RR σ' τ' ∧ σ' 1 1 = σ 1 1 := by
  obtain ⟨M, V, w, y, A, B, T, X, h0, hA, hB, hOX, hC, hS, hS9, hF, hCX, hFX, hI, hSh, hD⟩ := hR
  refine ⟨⟨M, V, w, y, A, B, T, X, h0, hA, hB, hOX, ?_, ?_, ?_, ?_, ?_, ?_, ?_, hS', ?_⟩, ?_⟩
  · exact CT_fr h0.1 h0.2.1 (fun k j h1 h2 h3 => hc k j (by unfold sC; omega) (by omega)) hC
  · intro i hi
    rw [hc _ _ (by unfold sC; omega) (by omega)]
    exact hS i hi
  · intro i hi
    rw [hc _ _ (by unfold sC; omega) (by omega)]
    exact hS9 i hi
  · exact FT_fr h0.1 h0.2.1 (fun k j h => hr k j (by unfold sR; omega) (by omega)) hF
  · exact CXT_fr (fun k j h => hc k j (by unfold sC; omega) (by omega)) hCX
  · exact FXT_fr (fun k j h => hr k j (by unfold sR; omega) (by omega)) hFX
  · rcases hI with ⟨i1, i2⟩ | ⟨i1, i2, M1, V1, w1, y1, A1, B1, m, o1, o2, c, f⟩
    · refine Or.inl ⟨?_, ?_⟩
      · rw [hc _ _ (by unfold sC; omega) (by omega)]; exact i1
      · rw [hr _ _ (by unfold sR; omega) (by omega)]; exact i2
    · refine Or.inr ⟨?_, ?_, M1, V1, w1, y1, A1, B1, m, o1, o2, ?_, ?_⟩
      · rw [hc _ _ (by unfold sC; omega) (by omega)]; exact i1
      · rw [hr _ _ (by unfold sR; omega) (by omega)]; exact i2
      · exact CT_fr (by omega) m.2.1 (fun k j h1 h2 h3 => hc k j (by unfold sC; omega) (by omega)) c
      · refine FT_fr (by omega) m.2.1 (fun k j h => ?_) f
        unfold imgv
        by_cases k0 : k = 0
        · rw [if_pos k0, if_pos k0, hr 0 14 (by unfold sR; omega) (by omega), hr 0 15 (by unfold sR; omega) (by omega), hr 0 16 (by unfold sR; omega) (by omega), hr 0 17 (by unfold sR; omega) (by omega)]
        · rw [if_neg k0, if_neg k0]
          by_cases k3 : k = 3
          · rw [if_pos k3, if_pos k3, hr 8 j (by unfold sR; omega) (by omega)]
          · rw [if_neg k3, if_neg k3]
            by_cases k4 : k = 4
            · rw [if_pos k4, if_pos k4, hr 8 _ (by unfold sR; omega) (by omega)]
            · rw [if_neg k4, if_neg k4]
              exact hr k j (by unfold sR; omega) (by omega)
  · exact DRel_fr (fun k j h => hc k j (by unfold sC; omega) (by omega)) (fun k j h => hr k j (by unfold sR; omega) (by omega)) hD
  · exact hc _ _ (by unfold sC; omega) (by omega)
theorem SRel_at {σ τ σ' τ' : Mem} {s so sz : Nat} {ce : Nat → Int32} (h : SRel σ τ) (hN : ShN s so sz ce σ' τ') (hc : ∀ k j, 67 ≤ k → k < 75 → k ≠ 67 + 2 * s → k ≠ 68 + 2 * s → σ' k j = σ k j) (hr : ∀ k j, 9 ≤ k → k ≤ 10 → j ≠ s → τ' k j = τ k j) (hr2 : ∀ j, ¬ (40 * s ≤ j ∧ j < 40 * s + 40) → τ' 11 j = τ 11 j) : SRel σ' τ' := by
  intro k hk
  by_cases c : k = s
  · subst c
    obtain ⟨h0, h1, h2, h3, h4, h5, h6, h7, h8⟩ := hN
    exact ⟨so, sz, h1, h2, h3, h4, h5, h6, fun j hj => by rw [h7 j hj, h8 j hj]⟩
  · obtain ⟨so', sz', q1, q2, q3, q4, q5, q6, q7⟩ := h k hk
    refine ⟨so', sz', q1, q2, ?_, ?_, ?_, ?_, ?_⟩
    · rw [hc _ _ (by omega) (by omega) (by omega) (by omega)]; exact q3
    · rw [hc _ _ (by omega) (by omega) (by omega) (by omega)]; exact q4
    · rw [hr _ _ (by omega) (by omega) (by omega)]; exact q5
    · rw [hr _ _ (by omega) (by omega) (by omega)]; exact q6
    · intro j hj
      rw [hc _ _ (by omega) (by omega) (by omega) (by omega), hr2 _ (by omega)]
      exact q7 j hj
theorem al_sheet {s : Nat} (hs : s < 4) : al (67 + 2 * s + 1) = 40 := by
  have : ∀ s, s < 4 → al (67 + 2 * s + 1) = 40 := by decide
  exact this s hs
theorem c_fill {v : Nat} (hv : al v = 40) : ∀ d i n (σ : Mem), i + d = 40 → d < n → ∃ σ', f_J7_fill_53178_b5 v (ι 0) (Int32.ofNat (al v)) n σ (ι i) = some σ' ∧ ∀ k j, σ' k j = if k = v ∧ i ≤ j ∧ j < 40 then ι 0 else σ k j := by
  intro d
  induction d with
  | zero =>
    intro i n σ hi hn
    obtain ⟨n, rfl⟩ : ∃ k, n = k + 1 := ⟨n - 1, by omega⟩
    refine ⟨σ, ?_, fun k j => by rw [if_neg (by omega)]⟩
    rw [f_J7_fill_53178_b5, hv, if_pos (by rw [show Int32.ofNat 40 = ι 40 from rfl, le_t (by omega) (by omega)]; trivial)]
  | succ d ih =>
    intro i n σ hi hn
    obtain ⟨n, rfl⟩ : ∃ k, n = k + 1 := ⟨n - 1, by omega⟩
    obtain ⟨σ', g1, g2⟩ := ih (i + 1) n (ms σ v i (ι 0)) (by omega) (by omega)
    refine ⟨σ', ?_, ?_⟩
    · rw [f_J7_fill_53178_b5, if_neg (by rw [hv, show Int32.ofNat 40 = ι 40 from rfl, le_f (by omega) (by omega)]; exact id), if_pos (by rw [hv]; exact inb_t (by omega) (by omega)), ι_nat (by omega), L1, ι_add]
      exact g1
    · intro k j
      rw [g2 k j]
      by_cases h : k = v ∧ i ≤ j ∧ j < 40
      · rw [if_pos h]
        by_cases h2 : j = i
        · rw [if_neg (by omega), ms_at h.1 h2]
        · rw [if_pos (by omega)]
      · rw [if_neg h, if_neg (by omega), ms_off (by omega)]
theorem c_makeRow {s : Nat} (hs : s < 4) {σ : Mem} (so sz : Int32) : ∃ σ', f_X4_makeRow σ (67 + 2 * s) so sz = some σ' ∧ ∀ k j, σ' k j = if k = 68 + 2 * s ∧ j < 40 then ι 0 else if k = 67 + 2 * s ∧ j = 1 then so else if k = 67 + 2 * s ∧ j = 2 then sz else σ k j := by
  obtain ⟨σ', g1, g2⟩ := c_fill (al_sheet hs) 40 0 FU (ms (ms σ (67 + 2 * s) 1 so) (67 + 2 * s) 2 sz) (by omega) (by unfold FU; omega)
  refine ⟨σ', ?_, ?_⟩
  · unfold f_X4_makeRow f_J7_fill_53178
    rw [L0, g1]
    rfl
  · intro k j
    rw [g2 k j]
    by_cases h : k = 68 + 2 * s ∧ j < 40
    · rw [if_pos h, if_pos (by omega)]
    · rw [if_neg h, if_neg (by omega)]
      by_cases h1 : k = 67 + 2 * s ∧ j = 1
      · rw [if_pos h1, ms_off (by omega), ms_at h1.1 h1.2]
      · rw [if_neg h1]
        by_cases h2 : k = 67 + 2 * s ∧ j = 2
        · rw [if_pos h2, ms_at h2.1 h2.2]
        · rw [if_neg h2, ms_off (by omega), ms_off (by omega)]
theorem r_zero {s : Nat} (hs : s < 4) : ∀ d i n (τ : Mem), i + d = 40 → d < n → ∃ τ', f_X9_sheet_b70 (ι s) n τ (ι i) = some (ι 1, τ') ∧ ∀ k j, τ' k j = if k = 11 ∧ 40 * s + i ≤ j ∧ j < 40 * s + 40 then ι 0 else τ k j := by
  intro d
  induction d with
  | zero =>
    intro i n τ hi hn
    obtain ⟨n, rfl⟩ : ∃ k, n = k + 1 := ⟨n - 1, by omega⟩
    refine ⟨τ, ?_, fun k j => by rw [if_neg (by omega)]⟩
    rw [f_X9_sheet_b70, L40, if_pos (by rw [le_t (by omega) (by omega)]; trivial)]
    rfl
  | succ d ih =>
    intro i n τ hi hn
    obtain ⟨n, rfl⟩ : ∃ k, n = k + 1 := ⟨n - 1, by omega⟩
    obtain ⟨τ', g1, g2⟩ := ih (i + 1) n (ms τ 11 (40 * s + i) (ι 0)) (by omega) (by omega)
    refine ⟨τ', ?_, ?_⟩
    · rw [f_X9_sheet_b70, L40, if_neg (by rw [le_f (by omega) (by omega)]; exact id), ι_mul, ι_add, if_pos (inb_t (by omega) (by omega)), od_e, ι_nat (by omega), L1, ι_add, L0]
      exact g1
    · intro k j
      rw [g2 k j]
      by_cases h : k = 11 ∧ 40 * s + i ≤ j ∧ j < 40 * s + 40
      · rw [if_pos h]
        by_cases h2 : j = 40 * s + i
        · rw [if_neg (by omega), ms_at h.1 h2]
        · rw [if_pos (by omega)]
      · rw [if_neg h, if_neg (by omega), ms_off (by omega)]
theorem sheet_new {σ τ : Mem} (hR : RR σ τ) {s so sz : Nat} (hs : s < 4) (h3 : so ≤ 3) (hsz : sz ≤ 40) : ∃ σ' τ', f_X4_makeRow σ (67 + 2 * s) (pl so) (ι sz) = some σ' ∧ f_X9_sheet_b70 (ι s) FU (ms (ms τ 9 s (pl so)) 10 s (ι sz)) (ι 0) = some (ι 1, τ') ∧ RR σ' τ' ∧ σ' 1 1 = σ 1 1 := by
  obtain ⟨M, V, w, y, A, B, T, X, h0, hA, hB, hOX, hC, hS, hS9, hF, hCX, hFX, hI, hSh, hD⟩ := id hR
  obtain ⟨σ', g1, g2⟩ := c_makeRow (σ := σ) hs (pl so) (ι sz)
  obtain ⟨τ', q1, q2⟩ := r_zero hs 40 0 FU (ms (ms τ 9 s (pl so)) 10 s (ι sz)) (by omega) (by unfold FU; omega)
  refine ⟨σ', τ', g1, q1, RR_sh hR (fun k j c1 c2 => by rw [g2, if_neg (by omega), if_neg (by omega), if_neg (by omega)]) (fun k j c1 c2 => by rw [q2, if_neg (by omega), ms_off (by omega), ms_off (by omega)]) (SRel_at (s := s) (so := so) (sz := sz) (ce := fun _ => ι 0) hSh ⟨hs, h3, hsz, ?_, ?_, ?_, ?_, ?_, ?_⟩ ?_ ?_ ?_)⟩
  · rw [g2, if_neg (by omega), if_pos (by omega)]
  · rw [g2, if_neg (by omega), if_neg (by omega), if_pos (by omega)]
  · rw [q2, if_neg (by omega), ms_off (by omega), ms_at rfl rfl]
  · rw [q2, if_neg (by omega), ms_at rfl rfl]
  · intro j hj
    rw [g2, if_pos (by omega)]
  · intro j hj
    rw [q2, if_pos (by omega)]
  · intro k j c1 c2 c3 c4
    rw [g2, if_neg (by omega), if_neg (by omega), if_neg (by omega)]
  · intro k j c1 c2 c3
    rw [q2, if_neg (by omega), ms_off (by omega), ms_off (by omega)]
  · intro j c
    rw [q2, if_neg (by omega), ms_off (by omega), ms_off (by omega)]
theorem ng_in {x : Int32} (h : ng x) (hx : x ≠ -ι 1) : (x < -ι 1) = True := by
  unfold ng at h
  rw [Int32.lt_iff_toInt_lt, neg_int (by decide)]
  refine eq_true ?_
  have : x.toInt ≠ -1 := fun e => hx (Int32.toInt_inj.mp (by rw [e, neg_int (by decide)]; rfl))
  omega
theorem op_sheet : OP_sheet RR := by
  intro σ τ v1 v2 v3 hR
  obtain ⟨M, V, w, y, A, B, T, X, h0, hA, hB, hOX, hC, hS, hS9, hF, hCX, hFX, hI, hSh, hD⟩ := id hR
  obtain ⟨hM, hV, hw, hy⟩ := id h0
  obtain ⟨hB, hBs⟩ := id hB
  obtain ⟨a1, a2, a3, a4, a5, a6⟩ := id hC
  obtain ⟨b1, b2, b3, b4, b5, b6⟩ := id hF
  have hT := hOX.2.1
  have c1 := hCX.1
  have f1 := hFX.1
  unfold f_X8_sheet f_X9_sheet
  rcases argN 4 v1 with ⟨s, s1, s2, rfl⟩ | g1
  · have e1 : f_X9_in (ι s) 0 3 = ι 1 := by rw [L0, L3]; exact r_in (by omega) (by omega) (by omega)
    by_cases hm : v2 = -ι 1
    · subst hm
      obtain ⟨σ', τ', m1, m2, m3⟩ := sheet_new hR (so := 0) (sz := 0) s1 (by omega) (by omega)
      refine ⟨ι 1, σ', τ', ?_, ?_, m3⟩
      · rw [c_sheetAt s1, ob_s, onl_s, if_neg (show ¬ (-ι 1 : Int32) < -1 by decide), if_pos (show (-ι 1 : Int32) ≤ 2 by decide), if_pos (show (-ι 1 : Int32) = -1 from rfl)]
        have m1 : f_X4_makeRow σ (67 + 2 * s) (-1) 0 = some σ' := m1
        rw [m1]
        rfl
      · have e2 : f_X9_in (-ι 1) (-1) 2 = ι 1 := by decide
        rw [e1, if_neg (by decide), e2, if_neg (by decide), if_pos (show (-ι 1 : Int32) = -1 from rfl)]
        unfold f_X9_sheet_b32 f_X9_sheet_b44 f_X9_sheet_b66
        rw [if_pos (show (-ι 1 : Int32) = -1 from rfl), if_pos (inb_t s1 s2), if_pos (show (-ι 1 : Int32) = -1 from rfl), if_pos (inb_t s1 s2), ι_nat s2]
        exact m2
    · rcases argN 3 v2 with ⟨q, q1, q2, rfl⟩ | g2
      · have e2 : f_X9_in (ι q) (-1) 2 = ι 1 := by
          have : ∀ q, q < 3 → f_X9_in (ι q) (-1) 2 = ι 1 := by decide
          exact this q q1
        have e3 : ¬ (ι q : Int32) = -1 := fun e => hm e
        have e4 : ¬ (ι q : Int32) < -1 := by
          have : ∀ q, q < 3 → ¬ (ι q : Int32) < -1 := by decide
          exact this q q1
        have e5 : (ι q : Int32) ≤ 2 := by rw [L2, le_t (by omega) (by omega)]; trivial
        rcases argN 41 v3 with ⟨n, n1, n2, rfl⟩ | g3
        · obtain ⟨σ', τ', m1, m2, m3⟩ := sheet_new hR (so := q + 1) (sz := n) s1 (by omega) (by omega)
          rw [pl_s (by omega), Nat.add_sub_cancel] at m1 m2
          refine ⟨ι 1, σ', τ', ?_, ?_, m3⟩
          · rw [c_sheetAt s1, ob_s, onl_s, if_neg e4, if_pos e5, if_neg e3, L40, if_pos (by rw [le_t (by omega) (by omega)]; trivial), L0, if_pos (by rw [le_t (by omega) (by omega)]; trivial), m1]
            rfl
          · rw [e1, if_neg (by decide), e2, if_neg (by decide), if_neg e3, L40, if_pos (by rw [le_t (by omega) (by omega)]; trivial)]
            unfold f_X9_sheet_b32 f_X9_sheet_b44 f_X9_sheet_b66
            rw [if_neg e3, L0, if_pos (by rw [le_t (by omega) (by omega)]; trivial), if_pos (inb_t s1 s2), if_neg e3, if_pos (inb_t s1 s2), ι_nat s2]
            exact m2
        · rcases g3 with g | ⟨k, k1, k2, rfl⟩
          · refine ⟨-ι 14, σ, τ, ?_, ?_, hR, rfl⟩
            · rw [c_sheetAt s1, ob_s, onl_s, if_neg e4, if_pos e5, if_neg e3, L40, if_pos (by rw [ng_le g (by omega)]; trivial), L0, if_neg (by rw [ng_ge g (by omega)]; exact id)]
              rfl
            · rw [e1, if_neg (by decide), e2, if_neg (by decide), if_neg e3, L40, if_pos (by rw [ng_le g (by omega)]; trivial)]
              unfold f_X9_sheet_b32
              rw [if_neg e3, L0, if_neg (by rw [ng_ge g (by omega)]; exact id)]
              rfl
          · refine ⟨-ι 2, σ, τ, ?_, ?_, hR, rfl⟩
            · rw [c_sheetAt s1, ob_s, onl_s, if_neg e4, if_pos e5, if_neg e3, L40, if_neg (by rw [le_f (by omega) (by omega)]; exact id)]
              rfl
            · rw [e1, if_neg (by decide), e2, if_neg (by decide), if_neg e3, L40, if_neg (by rw [le_f (by omega) (by omega)]; exact id)]
              rfl
      · refine ⟨-ι 2, σ, τ, ?_, ?_, hR, rfl⟩
        · rw [c_sheetAt s1, ob_s, onl_s]
          rcases g2 with g | ⟨k, k1, k2, rfl⟩
          · rw [if_pos (show v2 < -1 by rw [show (-1 : Int32) = -ι 1 from rfl, ng_in g hm]; trivial)]
            rfl
          · rw [show (-1 : Int32) = -ι 1 from rfl, if_neg (by rw [nlt_f (by omega) (by omega)]; exact id), L2, if_neg (by rw [le_f (by omega) (by omega)]; exact id)]
        · have e2 : f_X9_in v2 (-1) 2 = 0 := by
            unfold f_X9_in
            rcases g2 with g | ⟨k, k1, k2, rfl⟩
            · rw [if_pos (show v2 < -1 by rw [show (-1 : Int32) = -ι 1 from rfl, ng_in g hm]; trivial)]
            · rw [show (-1 : Int32) = -ι 1 from rfl, if_neg (by rw [nlt_f (by omega) (by omega)]; exact id), L2, if_pos (by rw [lt_t (by omega) (by omega)]; trivial)]
          rw [e1, if_neg (by decide), e2, if_pos rfl]
          rfl
  · refine ⟨-ι 2, σ, τ, ?_, ?_, hR, rfl⟩
    · rw [c_sheetNo g1]
      rfl
    · rw [L0, L3, outN_in (n := 3) (by omega) g1, if_pos rfl]
      rfl
theorem op_cell : OP_cell RR := by
  intro σ τ v1 v2 v3 hR
  obtain ⟨M, V, w, y, A, B, T, X, h0, hA, hB, hOX, hC, hS, hS9, hF, hCX, hFX, hI, hSh, hD⟩ := id hR
  obtain ⟨hM, hV, hw, hy⟩ := id h0
  obtain ⟨hB, hBs⟩ := id hB
  obtain ⟨a1, a2, a3, a4, a5, a6⟩ := id hC
  obtain ⟨b1, b2, b3, b4, b5, b6⟩ := id hF
  have hT := hOX.2.1
  have c1 := hCX.1
  have f1 := hFX.1
  unfold f_X8_cell f_X9_cell
  rcases argN 4 v1 with ⟨s, s1, s2, rfl⟩ | g1
  · obtain ⟨so, sz, ce, hN⟩ := ShN_of hSh s1
    obtain ⟨h0', h1, h2, h3, h4, h5, h6, h7, h8⟩ := id hN
    by_cases hz : so = 0
    · refine ⟨-ι 11, σ, τ, ?_, ?_, hR, rfl⟩
      · simp (disch := omega) only [c_sheetAt s1, h3, pl_0 hz, ↓reduceIte, eq_self, Bool.false_eq_true, reduceCtorEq, ob_s, ob2_s, od_e, onl_n, onl_s, ι_nat, ι_add, ι_mul, ι_sub, ι_addm, lt_t, lt_f, le_t, le_f, eq_t, eq_f, inb_t, inb_f, neq_f, neq_f2, neq_nf, nlt_t, nlt_f, nle_t, nle_f, ms_at, ms_off, up_at, up_off, L0, L1, L2, L3, L4, L5, L6, L7, L8, L9, L10, L11, L12, L13, L14, L15, L16, L17, L18, L19, L20, L21, L22, L23, L24, L30, L31, L32, L40, L41, L42, L43, L45, L47, L48, L52, L57, L59, L60, L61, L63, L64, L72, L97, L99, L100, L122, L160, L161, L200, L255, L999, L1200, L1998, L99999, L100000, L1000005]
      · simp (disch := omega) only [r_in, h5, pl_0 hz, ↓reduceIte, eq_self, Bool.false_eq_true, reduceCtorEq, ob_s, ob2_s, od_e, onl_n, onl_s, ι_nat, ι_add, ι_mul, ι_sub, ι_addm, lt_t, lt_f, le_t, le_f, eq_t, eq_f, inb_t, inb_f, neq_f, neq_f2, neq_nf, nlt_t, nlt_f, nle_t, nle_f, ms_at, ms_off, up_at, up_off, L0, L1, L2, L3, L4, L5, L6, L7, L8, L9, L10, L11, L12, L13, L14, L15, L16, L17, L18, L19, L20, L21, L22, L23, L24, L30, L31, L32, L40, L41, L42, L43, L45, L47, L48, L52, L57, L59, L60, L61, L63, L64, L72, L97, L99, L100, L122, L160, L161, L200, L255, L999, L1200, L1998, L99999, L100000, L1000005]
    · rcases argN sz v2 with ⟨i, i1, i2, rfl⟩ | g2
      · let nv := if so = 1 then v3.toInt8.toInt32 else if so = 2 then v3.toInt16.toInt32 else v3
        have hso : so = 1 ∨ so = 2 ∨ so = 3 := by omega
        have e1 := r_inM (M := sz) i1 (by omega)
        rw [ι_sub (by omega) (by omega)] at e1
        refine ⟨ι 1, ms σ (68 + 2 * s) i nv, ms τ 11 (40 * s + i) nv, ?_, ?_, ?_⟩
        · have hp : f_X4_put σ (67 + 2 * s) (ι i) v3 = some (ms σ (68 + 2 * s) i nv) := by
            show _ = some (ms σ (68 + 2 * s) i (if so = 1 then v3.toInt8.toInt32 else if so = 2 then v3.toInt16.toInt32 else v3))
            unfold f_X4_put
            rcases hso with c | c | c
            · subst c
              simp (disch := omega) only [h3, h4, pl_s, show 67 + 2 * s + 1 = 68 + 2 * s by omega, ↓reduceIte, eq_self, Bool.false_eq_true, reduceCtorEq, ob_s, ob2_s, od_e, onl_n, onl_s, ι_nat, ι_add, ι_mul, ι_sub, ι_addm, lt_t, lt_f, le_t, le_f, eq_t, eq_f, inb_t, inb_f, neq_f, neq_f2, neq_nf, nlt_t, nlt_f, nle_t, nle_f, ms_at, ms_off, up_at, up_off, L0, L1, L2, L3, L4, L5, L6, L7, L8, L9, L10, L11, L12, L13, L14, L15, L16, L17, L18, L19, L20, L21, L22, L23, L24, L30, L31, L32, L40, L41, L42, L43, L45, L47, L48, L52, L57, L59, L60, L61, L63, L64, L72, L97, L99, L100, L122, L160, L161, L200, L255, L999, L1200, L1998, L99999, L100000, L1000005]
            · subst c
              rw [if_neg (show ¬ (2 : Nat) = 1 by decide), if_pos (show (2 : Nat) = 2 from rfl)]
              simp (disch := omega) only [h3, h4, pl_s, show 67 + 2 * s + 1 = 68 + 2 * s by omega, ↓reduceIte, eq_self, Bool.false_eq_true, reduceCtorEq, ob_s, ob2_s, od_e, onl_n, onl_s, ι_nat, ι_add, ι_mul, ι_sub, ι_addm, lt_t, lt_f, le_t, le_f, eq_t, eq_f, inb_t, inb_f, neq_f, neq_f2, neq_nf, nlt_t, nlt_f, nle_t, nle_f, ms_at, ms_off, up_at, up_off, L0, L1, L2, L3, L4, L5, L6, L7, L8, L9, L10, L11, L12, L13, L14, L15, L16, L17, L18, L19, L20, L21, L22, L23, L24, L30, L31, L32, L40, L41, L42, L43, L45, L47, L48, L52, L57, L59, L60, L61, L63, L64, L72, L97, L99, L100, L122, L160, L161, L200, L255, L999, L1200, L1998, L99999, L100000, L1000005]
            · subst c
              rw [if_neg (show ¬ (3 : Nat) = 1 by decide), if_neg (show ¬ (3 : Nat) = 2 by decide)]
              simp (disch := omega) only [h3, h4, pl_s, show 67 + 2 * s + 1 = 68 + 2 * s by omega, ↓reduceIte, eq_self, Bool.false_eq_true, reduceCtorEq, ob_s, ob2_s, od_e, onl_n, onl_s, ι_nat, ι_add, ι_mul, ι_sub, ι_addm, lt_t, lt_f, le_t, le_f, eq_t, eq_f, inb_t, inb_f, neq_f, neq_f2, neq_nf, nlt_t, nlt_f, nle_t, nle_f, ms_at, ms_off, up_at, up_off, L0, L1, L2, L3, L4, L5, L6, L7, L8, L9, L10, L11, L12, L13, L14, L15, L16, L17, L18, L19, L20, L21, L22, L23, L24, L30, L31, L32, L40, L41, L42, L43, L45, L47, L48, L52, L57, L59, L60, L61, L63, L64, L72, L97, L99, L100, L122, L160, L161, L200, L255, L999, L1200, L1998, L99999, L100000, L1000005]
          simp (disch := omega) only [c_sheetAt s1, h3, pl_s (show 0 < so by omega), h4, hp, ↓reduceIte, eq_self, Bool.false_eq_true, reduceCtorEq, ob_s, ob2_s, od_e, onl_n, onl_s, ι_nat, ι_add, ι_mul, ι_sub, ι_addm, lt_t, lt_f, le_t, le_f, eq_t, eq_f, inb_t, inb_f, neq_f, neq_f2, neq_nf, nlt_t, nlt_f, nle_t, nle_f, ms_at, ms_off, up_at, up_off, L0, L1, L2, L3, L4, L5, L6, L7, L8, L9, L10, L11, L12, L13, L14, L15, L16, L17, L18, L19, L20, L21, L22, L23, L24, L30, L31, L32, L40, L41, L42, L43, L45, L47, L48, L52, L57, L59, L60, L61, L63, L64, L72, L97, L99, L100, L122, L160, L161, L200, L255, L999, L1200, L1998, L99999, L100000, L1000005]
        · show _ = some (_, ms τ 11 (40 * s + i) (if so = 1 then v3.toInt8.toInt32 else if so = 2 then v3.toInt16.toInt32 else v3))
          rcases hso with c | c | c
          · subst c
            simp (disch := omega) only [r_in, h5, h6, pl_s, e1, ↓reduceIte, eq_self, Bool.false_eq_true, reduceCtorEq, ob_s, ob2_s, od_e, onl_n, onl_s, ι_nat, ι_add, ι_mul, ι_sub, ι_addm, lt_t, lt_f, le_t, le_f, eq_t, eq_f, inb_t, inb_f, neq_f, neq_f2, neq_nf, nlt_t, nlt_f, nle_t, nle_f, ms_at, ms_off, up_at, up_off, L0, L1, L2, L3, L4, L5, L6, L7, L8, L9, L10, L11, L12, L13, L14, L15, L16, L17, L18, L19, L20, L21, L22, L23, L24, L30, L31, L32, L40, L41, L42, L43, L45, L47, L48, L52, L57, L59, L60, L61, L63, L64, L72, L97, L99, L100, L122, L160, L161, L200, L255, L999, L1200, L1998, L99999, L100000, L1000005]
          · subst c
            rw [if_neg (show ¬ (2 : Nat) = 1 by decide), if_pos (show (2 : Nat) = 2 from rfl)]
            simp (disch := omega) only [r_in, h5, h6, pl_s, e1, ↓reduceIte, eq_self, Bool.false_eq_true, reduceCtorEq, ob_s, ob2_s, od_e, onl_n, onl_s, ι_nat, ι_add, ι_mul, ι_sub, ι_addm, lt_t, lt_f, le_t, le_f, eq_t, eq_f, inb_t, inb_f, neq_f, neq_f2, neq_nf, nlt_t, nlt_f, nle_t, nle_f, ms_at, ms_off, up_at, up_off, L0, L1, L2, L3, L4, L5, L6, L7, L8, L9, L10, L11, L12, L13, L14, L15, L16, L17, L18, L19, L20, L21, L22, L23, L24, L30, L31, L32, L40, L41, L42, L43, L45, L47, L48, L52, L57, L59, L60, L61, L63, L64, L72, L97, L99, L100, L122, L160, L161, L200, L255, L999, L1200, L1998, L99999, L100000, L1000005]
          · subst c
            rw [if_neg (show ¬ (3 : Nat) = 1 by decide), if_neg (show ¬ (3 : Nat) = 2 by decide)]
            simp (disch := omega) only [r_in, h5, h6, pl_s, e1, ↓reduceIte, eq_self, Bool.false_eq_true, reduceCtorEq, ob_s, ob2_s, od_e, onl_n, onl_s, ι_nat, ι_add, ι_mul, ι_sub, ι_addm, lt_t, lt_f, le_t, le_f, eq_t, eq_f, inb_t, inb_f, neq_f, neq_f2, neq_nf, nlt_t, nlt_f, nle_t, nle_f, ms_at, ms_off, up_at, up_off, L0, L1, L2, L3, L4, L5, L6, L7, L8, L9, L10, L11, L12, L13, L14, L15, L16, L17, L18, L19, L20, L21, L22, L23, L24, L30, L31, L32, L40, L41, L42, L43, L45, L47, L48, L52, L57, L59, L60, L61, L63, L64, L72, L97, L99, L100, L122, L160, L161, L200, L255, L999, L1200, L1998, L99999, L100000, L1000005]
        · refine RR_sh hR (fun k j c1 c2 => by rw [ms_off (by omega)]) (fun k j c1 c2 => by rw [ms_off (by omega)]) (SRel_at (s := s) (so := so) (sz := sz) (ce := fun j => if j = i then nv else ce j) hSh ⟨s1, h1, h2, ?_, ?_, ?_, ?_, ?_, ?_⟩ ?_ ?_ ?_)
          · rw [ms_off (by omega)]; exact h3
          · rw [ms_off (by omega)]; exact h4
          · rw [ms_off (by omega)]; exact h5
          · rw [ms_off (by omega)]; exact h6
          · intro j hj
            by_cases c : j = i
            · rw [ms_at rfl c]
              exact (if_pos c).symm
            · rw [ms_off (by omega), h7 j hj]
              exact (if_neg c).symm
          · intro j hj
            by_cases c : j = i
            · rw [ms_at rfl (by omega)]
              exact (if_pos c).symm
            · rw [ms_off (by omega), h8 j hj]
              exact (if_neg c).symm
          · intro k j c1 c2 c3 c4
            rw [ms_off (by omega)]
          · intro k j c1 c2 c3
            rw [ms_off (by omega)]
          · intro j c
            rw [ms_off (by omega)]
      · refine ⟨-ι 12, σ, τ, ?_, ?_, hR, rfl⟩
        · rcases g2 with g | ⟨k, k1, k2, rfl⟩
          · simp (disch := omega) only [c_sheetAt s1, h3, pl_s (show 0 < so by omega), h4, ng_lt g, ng_le g, ng_gt g, ng_ge g, ng_eq g, ng_eq2 g, ng_inb g, ↓reduceIte, eq_self, Bool.false_eq_true, reduceCtorEq, ob_s, ob2_s, od_e, onl_n, onl_s, ι_nat, ι_add, ι_mul, ι_sub, ι_addm, lt_t, lt_f, le_t, le_f, eq_t, eq_f, inb_t, inb_f, neq_f, neq_f2, neq_nf, nlt_t, nlt_f, nle_t, nle_f, ms_at, ms_off, up_at, up_off, L0, L1, L2, L3, L4, L5, L6, L7, L8, L9, L10, L11, L12, L13, L14, L15, L16, L17, L18, L19, L20, L21, L22, L23, L24, L30, L31, L32, L40, L41, L42, L43, L45, L47, L48, L52, L57, L59, L60, L61, L63, L64, L72, L97, L99, L100, L122, L160, L161, L200, L255, L999, L1200, L1998, L99999, L100000, L1000005]
          · simp (disch := omega) only [c_sheetAt s1, h3, pl_s (show 0 < so by omega), h4, ↓reduceIte, eq_self, Bool.false_eq_true, reduceCtorEq, ob_s, ob2_s, od_e, onl_n, onl_s, ι_nat, ι_add, ι_mul, ι_sub, ι_addm, lt_t, lt_f, le_t, le_f, eq_t, eq_f, inb_t, inb_f, neq_f, neq_f2, neq_nf, nlt_t, nlt_f, nle_t, nle_f, ms_at, ms_off, up_at, up_off, L0, L1, L2, L3, L4, L5, L6, L7, L8, L9, L10, L11, L12, L13, L14, L15, L16, L17, L18, L19, L20, L21, L22, L23, L24, L30, L31, L32, L40, L41, L42, L43, L45, L47, L48, L52, L57, L59, L60, L61, L63, L64, L72, L97, L99, L100, L122, L160, L161, L200, L255, L999, L1200, L1998, L99999, L100000, L1000005]
        · have e1 := r_inMNo (M := sz) (by omega) g2
          rw [L0, L3, r_in (by omega) (by omega) (by omega), if_neg (by decide), if_pos (inb_t s1 s2), ι_nat s2, h5, if_neg (by rw [pl_s (by omega), show (-1 : Int32) = -ι 1 from rfl, neq_f (by omega) (by omega) (by omega)]; exact id), if_pos (inb_t s1 s2), h6, L1, e1, if_pos rfl]
          rfl
  · refine ⟨-ι 2, σ, τ, ?_, ?_, hR, rfl⟩
    · simp (disch := omega) only [c_sheetNo g1, ↓reduceIte, eq_self, Bool.false_eq_true, reduceCtorEq, ob_s, ob2_s, od_e, onl_n, onl_s, ι_nat, ι_add, ι_mul, ι_sub, ι_addm, lt_t, lt_f, le_t, le_f, eq_t, eq_f, inb_t, inb_f, neq_f, neq_f2, neq_nf, nlt_t, nlt_f, nle_t, nle_f, ms_at, ms_off, up_at, up_off, L0, L1, L2, L3, L4, L5, L6, L7, L8, L9, L10, L11, L12, L13, L14, L15, L16, L17, L18, L19, L20, L21, L22, L23, L24, L30, L31, L32, L40, L41, L42, L43, L45, L47, L48, L52, L57, L59, L60, L61, L63, L64, L72, L97, L99, L100, L122, L160, L161, L200, L255, L999, L1200, L1998, L99999, L100000, L1000005]
    · simp (disch := omega) only [outN_in (n := 3) (by omega) g1, ↓reduceIte, eq_self, Bool.false_eq_true, reduceCtorEq, ob_s, ob2_s, od_e, onl_n, onl_s, ι_nat, ι_add, ι_mul, ι_sub, ι_addm, lt_t, lt_f, le_t, le_f, eq_t, eq_f, inb_t, inb_f, neq_f, neq_f2, neq_nf, nlt_t, nlt_f, nle_t, nle_f, ms_at, ms_off, up_at, up_off, L0, L1, L2, L3, L4, L5, L6, L7, L8, L9, L10, L11, L12, L13, L14, L15, L16, L17, L18, L19, L20, L21, L22, L23, L24, L30, L31, L32, L40, L41, L42, L43, L45, L47, L48, L52, L57, L59, L60, L61, L63, L64, L72, L97, L99, L100, L122, L160, L161, L200, L255, L999, L1200, L1998, L99999, L100000, L1000005]
