/-! THE PURE PART: ripe, soonest, kinds -/
def ripeN (X : XT) (y : Nat) (a : Nat → Nat) (w ow much : Nat) : Nat := firstN (fun j => decide (much ≤ cntA (rowB a (bdN X y a w ow (j + 1))))) 60 0
theorem c_ripe_l {T : Nat} {X : XT} (hO : OKX T X) {y w ow much : Nat} {a : Nat → Nat} (hy : y < T) (h1 : OK1 a) (hw : w < 10000) (hm : much < 10000) : ∀ d i n (σ : Mem), i + d = 60 → d < n → CXT T X σ → MC1 75 (rowB a (bdN X y a w ow i)) σ → σ 15 5 = ι w → σ 15 6 = ι y →
    ∃ σ', f_X8_ripeWeek_b11 (ι much) (ι ow) n σ (ι i) = some (pl (firstN (fun j => decide (much ≤ cntA (rowB a (bdN X y a w ow (j + 1))))) d i), σ') ∧ frG σ σ' := by
  intro d
  induction d with
  | zero =>
    intro i n σ hi hn hX hm2 e5 e6
    obtain ⟨n, rfl⟩ : ∃ k, n = k + 1 := ⟨n - 1, by omega⟩
    refine ⟨σ, ?_, frG.rfl⟩
    unfold f_X8_ripeWeek_b11
    simp (disch := omega) only [↓reduceIte, eq_self, Bool.false_eq_true, reduceCtorEq, ob_s, ob2_s, od_e, onl_n, onl_s, ι_nat, ι_add, ι_mul, ι_sub, ι_addm, lt_t, lt_f, le_t, le_f, eq_t, eq_f, inb_t, inb_f, neq_f, neq_f2, neq_nf, nlt_t, nlt_f, nle_t, nle_f, ms_at, ms_off, up_at, up_off, L0, L1, L2, L3, L4, L5, L6, L7, L8, L9, L10, L11, L12, L13, L14, L15, L16, L17, L18, L19, L20, L21, L22, L23, L24, L30, L31, L32, L40, L41, L42, L43, L45, L47, L48, L52, L57, L59, L60, L61, L63, L64, L72, L97, L99, L100, L122, L160, L161, L200, L255, L999, L1200, L1998, L99999, L100000, L1000005]
    rfl
  | succ d ih =>
    intro i n σ hi hn hX hm2 e5 e6
    obtain ⟨n, rfl⟩ : ∃ k, n = k + 1 := ⟨n - 1, by omega⟩
    obtain ⟨σ1, g1, g2, g3⟩ := c_ghost (w := w) (ow := ow) (n := i) hX hO hy hm2 h1 (by omega)
    have bl := bdN_le (X := X) (y := y) (w := w) (ow := ow) h1.2.2.1 (i + 1)
    obtain ⟨q0, q1, q2, q3, q4, q5⟩ := id g2
    have hc := c_counts q0 q1 q2 h1.1 h1.2.1 bl
    have cl := cntN_le (kd := a 0) (m := a 1) bl
    show ∃ σ', _ = some (pl (if decide (much ≤ cntN (a 0) (a 1) (bdN X y a w ow (i + 1))) = true then i + 1 else firstN (fun j => decide (much ≤ cntA (rowB a (bdN X y a w ow (j + 1))))) d (i + 1)), σ') ∧ _
    have hc : f_X1_counts (ms σ1 75 2 (ι (bdN X y a w ow (i + 1)))) 75 = ι (cntN (a 0) (a 1) (bdN X y a w ow (i + 1))) := hc
    by_cases c : much ≤ cntN (a 0) (a 1) (bdN X y a w ow (i + 1))
    · rw [if_pos (by simp [c])]
      refine ⟨ms σ1 75 2 (ι (bdN X y a w ow (i + 1))), ?_, g3⟩
      rw [f_X8_ripeWeek_b11, L60, if_neg (by rw [le_f (by omega) (by omega)]; exact id), e5, e6, ι_add, g1, ob2_s, hc, if_neg (by rw [lt_f c (by omega)]; exact id), pl_s (by omega), Nat.add_sub_cancel]
    · rw [if_neg (by simp; omega)]
      obtain ⟨σ', b1, b2⟩ := ih (i + 1) n (ms σ1 75 2 (ι (bdN X y a w ow (i + 1)))) (by omega) (by omega) (CXT_sc g3.sc hX) g2 (by rw [g3 _ _ (by omega) (by omega) (by omega)]; exact e5) (by rw [g3 _ _ (by omega) (by omega) (by omega)]; exact e6)
      refine ⟨σ', ?_, g3.tr b2⟩
      rw [f_X8_ripeWeek_b11, L60, if_neg (by rw [le_f (by omega) (by omega)]; exact id), e5, e6, ι_add, g1, ob2_s, hc, if_pos (by rw [lt_t (by omega) (by omega)]; trivial), L1, ι_add]
      exact b1
theorem c_ripe {M V w y T i much : Nat} {A B : TB2} {X : XT} {σ : Mem} (hM : M ≤ 6) (hV : V ≤ 8) (hw : w ≤ 999) (hC : CT 15 M V w y A B σ) (hA : OKA M A) (hX : CXT T X σ) (hO : OKX T X) (hy : y < T) (hi : i < M) (hm : much < 10000) (ow : Nat) :
    ∃ σ', f_X8_ripeWeek σ (15 + 3 + i) (ι much) (ι ow) = some (pl (ripeN X y (A i) w ow much), σ') ∧ eqC σ σ' := by
  obtain ⟨a1, a2, a3, a4, a5, a6⟩ := id hC
  obtain ⟨σ1, g1, g2, g3⟩ := c_become75 (show 15 + 3 + i ≠ 75 by omega) (MC_of a5 hi) (OK1_of hA hi)
  obtain ⟨σ', b1, b2⟩ := c_ripe_l (w := w) (ow := ow) (much := much) hO hy (OK1_of hA hi) (by omega) hm 60 0 FU σ1 (by omega) (by unfold FU; omega) (CXT_sc g3.sc hX) (by rw [show bdN X y (A i) w ow 0 = A i 2 from rfl, rowB_self]; exact g2) (by rw [g3 _ _ (by omega) (by omega) (by omega)]; exact a3) (by rw [g3 _ _ (by omega) (by omega) (by omega)]; exact a4)
  refine ⟨σ', ?_, (g3.tr b2).sc⟩
  unfold f_X8_ripeWeek
  rw [g1, ob_s, L0]
  exact b1
theorem r_ripe_l {T M V y w i much : Nat} {X : XT} {A B : TB2} (hOX : OKX T X) (hOA : OKA M A) (hOB : OKB M V B) (hM : M ≤ 6) (h8 : V ≤ 8) (hy : y < T) (hi : i < M) (hw : w < 10000) (hm : much < 10000) : ∀ d k n (τ : Mem), k + d = 60 → d + 1 < n → FXT T X τ → FT M V (w + k) y (up A i 2 (bdN X y (A i) w (owedN V B i) k)) B τ →
    ∃ τ', f_X9_ripeOf_b9 (ι i) (ι much) n τ (-ι 1) (ι k) = ob (f_X9_laysBack τ') (fun x => some (pl (firstN (fun j => decide (much ≤ cntA (rowB (A i) (bdN X y (A i) w (owedN V B i) (j + 1))))) d k), x)) ∧ frF τ τ' := by
  intro d
  induction d with
  | zero =>
    intro k n τ hk hn hX hF
    obtain ⟨n, rfl⟩ : ∃ k, n = k + 1 := ⟨n - 1, by omega⟩
    refine ⟨τ, ?_, frF.rfl⟩
    rw [f_X9_ripeOf_b9, L60, if_pos (by rw [le_t (by omega) (by omega)]; trivial)]
    rfl
  | succ d ih =>
    intro k n τ hk hn hX hF
    obtain ⟨n, rfl⟩ : ∃ k, n = k + 1 := ⟨n - 1, by omega⟩
    obtain ⟨τ1, g1, g2, g3, g4⟩ := r_ghost (w := w) (n := k) hX hOX hOA hOB hM h8 hy hi (by omega) hF
    have bl := bdN_le (X := X) (y := y) (w := w) (ow := owedN V B i) (hOA i hi).2.2.1 (k + 1)
    have h1 := OK1_of hOA hi
    have eb : ms τ1 0 6 (ι (w + k + 1)) 3 (4 * i) = ι (bdN X y (A i) w (owedN V B i) (k + 1)) := by
      have := fa_2 g3.2.2.2.2.1 hi
      rw [this, up_at rfl rfl]
    have e0 : ms τ1 0 6 (ι (w + k + 1)) 1 i = ι (A i 0) := by
      have := fa_0 g3.2.2.2.2.1 hi
      rw [this, up_off (by omega)]
    have e1 : ms τ1 0 6 (ι (w + k + 1)) 2 i = ι (A i 1) := by
      have := fa_1 g3.2.2.2.2.1 hi
      rw [this, up_off (by omega)]
    have hc := r_counts (b := bdN X y (A i) w (owedN V B i) (k + 1)) e0 e1 (show i < 6 by omega) h1.1 h1.2.1 bl
    have cl := cntN_le (kd := A i 0) (m := A i 1) bl
    have step : f_X9_ripeOf_b9 (ι i) (ι much) (n + 1) τ (-ι 1) (ι k) = if much ≤ cntN (A i 0) (A i 1) (bdN X y (A i) w (owedN V B i) (k + 1)) then f_X9_ripeOf_b9 (ι i) (ι much) n (ms τ1 0 6 (ι (w + k + 1))) (ι k) (ι (k + 1)) else f_X9_ripeOf_b9 (ι i) (ι much) n (ms τ1 0 6 (ι (w + k + 1))) (-ι 1) (ι (k + 1)) := by
      rw [f_X9_ripeOf_b9, L60, if_neg (by rw [le_f (by omega) (by omega)]; exact id), if_pos (show (-ι 1 : Int32) = -1 from rfl), g1, ob_s]
      by_cases c : much ≤ cntN (A i 0) (A i 1) (bdN X y (A i) w (owedN V B i) (k + 1))
      · rw [if_pos c]
        simp (disch := omega) only [L1, L4, ι_mul, ι_add, inb_t, if_true, ι_nat, g2, eb, hc, ob_s, lt_f, if_false, f_X9_ripeOf_b59]
      · rw [if_neg c]
        simp (disch := omega) only [L1, L4, ι_mul, ι_add, inb_t, if_true, ι_nat, g2, eb, hc, ob_s, lt_t, f_X9_ripeOf_b59]
    show ∃ τ', _ = ob _ (fun x => some (pl (if decide (much ≤ cntN (A i 0) (A i 1) (bdN X y (A i) w (owedN V B i) (k + 1))) = true then k + 1 else firstN (fun j => decide (much ≤ cntA (rowB (A i) (bdN X y (A i) w (owedN V B i) (j + 1))))) d (k + 1)), x)) ∧ _
    by_cases c : much ≤ cntN (A i 0) (A i 1) (bdN X y (A i) w (owedN V B i) (k + 1))
    · rw [if_pos (by simp [c]), step, if_pos c]
      obtain ⟨n, rfl⟩ : ∃ k, n = k + 1 := ⟨n - 1, by omega⟩
      refine ⟨ms τ1 0 6 (ι (w + k + 1)), ?_, g4⟩
      rw [pl_s (by omega), Nat.add_sub_cancel, f_X9_ripeOf_b9, L60]
      by_cases c2 : 60 ≤ k + 1
      · rw [if_pos (by rw [le_t c2 (by omega)]; trivial)]
      · rw [if_neg (by rw [le_f (by omega) (by omega)]; exact id), if_neg (show ¬ (ι k = (-1 : Int32)) from of_eq_false (neq_f (b := 1) (by omega) (by omega) (by omega)))]
    · rw [if_neg (by simp; omega), step, if_neg c]
      obtain ⟨τ', b1, b2⟩ := ih (k + 1) n (ms τ1 0 6 (ι (w + k + 1))) (by omega) (by omega) (FXT_F hX g4) g3
      exact ⟨τ', b1, g4.tr b2⟩
theorem r_ripe {T M V y w i much : Nat} {X : XT} {A B : TB2} {τ : Mem} (hX : FXT T X τ) (hOX : OKX T X) (hF : FT M V w y A B τ) (hOA : OKA M A) (hOB : OKB M V B) (hM : M ≤ 6) (h8 : V ≤ 8) (hy : y < T) (hi : i < M) (hw : w < 10000) (hm : much < 10000) :
    ∃ τ', f_X9_ripeOf τ (ι i) (ι much) = some (pl (ripeN X y (A i) w (owedN V B i) much), τ') ∧ eqR τ τ' := by
  obtain ⟨τ1, t1, t2, t3, t4, t5, t6, t7⟩ := r_think hM h8 hF hX
  obtain ⟨τ2, b1, b2⟩ := r_ripe_l (i := i) (much := much) (w := w) hOX hOA hOB hM h8 hy hi hw hm 60 0 FU τ1 (by omega) (by unfold FU; omega) t3 (by rw [show bdN X y (A i) w (owedN V B i) 0 = A i 2 from rfl, up_self]; exact t2.1)
  obtain ⟨τ3, l1, l2, l3, l4, l5⟩ := r_back (Q := fun _ _ => False) t4 t5 t6 t7 (fun k j h1 h2 h3 h4 h5 _ => b2 k j h1 h2 h3 h4 h5) (fun _ _ h => h.elim)
  refine ⟨τ3, ?_, fun k j h => l2 k j h id⟩
  unfold f_X9_ripeOf
  rw [t1, ob_s, L0]
  show f_X9_ripeOf_b9 (ι i) (ι much) FU τ1 (-ι 1) (ι 0) = _
  rw [b1, l1, ob_s]
  rfl
theorem op_ripe : OP_ripe RR := by
  intro σ τ v1 v2 hR
  obtain ⟨M, V, w, y, A, B, T, X, h0, hA, hB, hOX, hC, hS, hS9, hF, hCX, hFX, hI, hSh, hD⟩ := id hR
  obtain ⟨hM, hV, hw, hy⟩ := id h0
  obtain ⟨hB, hBs⟩ := id hB
  obtain ⟨a1, a2, a3, a4, a5, a6⟩ := id hC
  obtain ⟨b1, b2, b3, b4, b5, b6⟩ := id hF
  have hT := hOX.2.1
  have c1 := hCX.1
  have f1 := hFX.1
  unfold f_X8_ripe f_X9_ripe
  rcases argN M v1 with ⟨i, i1, i2, rfl⟩ | g1
  · rcases argN 1999 v2 with ⟨m, m1, m2, rfl⟩ | g2
    · obtain ⟨σ', s1, s2⟩ := c_ripe (much := m) hM hV hw hC hA hCX hOX hy i1 (by omega) (owedN V B i)
      obtain ⟨τ', t1, t2⟩ := r_ripe (much := m) hFX hOX hF hA hB hM hV hy i1 (by omega) (by omega)
      refine ⟨pl (ripeN X y (A i) w (owedN V B i) m), σ', τ', ?_, ?_, RR_eq hR s2 t2⟩
      · simp (disch := omega) only [c_manAt a1 hM i1, c_owed a2 hV a6 hB hM (show i < 100 by omega), s1, ↓reduceIte, eq_self, Bool.false_eq_true, reduceCtorEq, ob_s, ob2_s, od_e, onl_n, onl_s, ι_nat, ι_add, ι_mul, ι_sub, ι_addm, lt_t, lt_f, le_t, le_f, eq_t, eq_f, inb_t, inb_f, neq_f, neq_f2, neq_nf, nlt_t, nlt_f, nle_t, nle_f, ms_at, ms_off, up_at, up_off, L0, L1, L2, L3, L4, L5, L6, L7, L8, L9, L10, L11, L12, L13, L14, L15, L16, L17, L18, L19, L20, L21, L22, L23, L24, L30, L31, L32, L40, L41, L42, L43, L45, L47, L48, L52, L57, L59, L60, L61, L63, L64, L72, L97, L99, L100, L122, L160, L161, L200, L255, L999, L1200, L1998, L99999, L100000, L1000005]
      · simp (disch := omega) only [r_isMan b1 hM i1, r_in, t1, ↓reduceIte, eq_self, Bool.false_eq_true, reduceCtorEq, ob_s, ob2_s, od_e, onl_n, onl_s, ι_nat, ι_add, ι_mul, ι_sub, ι_addm, lt_t, lt_f, le_t, le_f, eq_t, eq_f, inb_t, inb_f, neq_f, neq_f2, neq_nf, nlt_t, nlt_f, nle_t, nle_f, ms_at, ms_off, up_at, up_off, L0, L1, L2, L3, L4, L5, L6, L7, L8, L9, L10, L11, L12, L13, L14, L15, L16, L17, L18, L19, L20, L21, L22, L23, L24, L30, L31, L32, L40, L41, L42, L43, L45, L47, L48, L52, L57, L59, L60, L61, L63, L64, L72, L97, L99, L100, L122, L160, L161, L200, L255, L999, L1200, L1998, L99999, L100000, L1000005]
    · refine ⟨-ι 7, σ, τ, ?_, ?_, hR, rfl⟩
      · rcases g2 with g | ⟨k, k1, k2, rfl⟩
        · simp (disch := omega) only [c_manAt a1 hM i1, ng_lt g, ng_le g, ng_gt g, ng_ge g, ng_eq g, ng_eq2 g, ng_inb g, ↓reduceIte, eq_self, Bool.false_eq_true, reduceCtorEq, ob_s, ob2_s, od_e, onl_n, onl_s, ι_nat, ι_add, ι_mul, ι_sub, ι_addm, lt_t, lt_f, le_t, le_f, eq_t, eq_f, inb_t, inb_f, neq_f, neq_f2, neq_nf, nlt_t, nlt_f, nle_t, nle_f, ms_at, ms_off, up_at, up_off, L0, L1, L2, L3, L4, L5, L6, L7, L8, L9, L10, L11, L12, L13, L14, L15, L16, L17, L18, L19, L20, L21, L22, L23, L24, L30, L31, L32, L40, L41, L42, L43, L45, L47, L48, L52, L57, L59, L60, L61, L63, L64, L72, L97, L99, L100, L122, L160, L161, L200, L255, L999, L1200, L1998, L99999, L100000, L1000005]
        · simp (disch := omega) only [c_manAt a1 hM i1, ↓reduceIte, eq_self, Bool.false_eq_true, reduceCtorEq, ob_s, ob2_s, od_e, onl_n, onl_s, ι_nat, ι_add, ι_mul, ι_sub, ι_addm, lt_t, lt_f, le_t, le_f, eq_t, eq_f, inb_t, inb_f, neq_f, neq_f2, neq_nf, nlt_t, nlt_f, nle_t, nle_f, ms_at, ms_off, up_at, up_off, L0, L1, L2, L3, L4, L5, L6, L7, L8, L9, L10, L11, L12, L13, L14, L15, L16, L17, L18, L19, L20, L21, L22, L23, L24, L30, L31, L32, L40, L41, L42, L43, L45, L47, L48, L52, L57, L59, L60, L61, L63, L64, L72, L97, L99, L100, L122, L160, L161, L200, L255, L999, L1200, L1998, L99999, L100000, L1000005]
      · simp (disch := omega) only [r_isMan b1 hM i1, outN_in (n := 1998) (by omega) g2, ↓reduceIte, eq_self, Bool.false_eq_true, reduceCtorEq, ob_s, ob2_s, od_e, onl_n, onl_s, ι_nat, ι_add, ι_mul, ι_sub, ι_addm, lt_t, lt_f, le_t, le_f, eq_t, eq_f, inb_t, inb_f, neq_f, neq_f2, neq_nf, nlt_t, nlt_f, nle_t, nle_f, ms_at, ms_off, up_at, up_off, L0, L1, L2, L3, L4, L5, L6, L7, L8, L9, L10, L11, L12, L13, L14, L15, L16, L17, L18, L19, L20, L21, L22, L23, L24, L30, L31, L32, L40, L41, L42, L43, L45, L47, L48, L52, L57, L59, L60, L61, L63, L64, L72, L97, L99, L100, L122, L160, L161, L200, L255, L999, L1200, L1998, L99999, L100000, L1000005]
  · refine ⟨-ι 5, σ, τ, ?_, ?_, hR, rfl⟩
    · simp (disch := omega) only [c_manNo a1 hM g1, ↓reduceIte, eq_self, Bool.false_eq_true, reduceCtorEq, ob_s, ob2_s, od_e, onl_n, onl_s, ι_nat, ι_add, ι_mul, ι_sub, ι_addm, lt_t, lt_f, le_t, le_f, eq_t, eq_f, inb_t, inb_f, neq_f, neq_f2, neq_nf, nlt_t, nlt_f, nle_t, nle_f, ms_at, ms_off, up_at, up_off, L0, L1, L2, L3, L4, L5, L6, L7, L8, L9, L10, L11, L12, L13, L14, L15, L16, L17, L18, L19, L20, L21, L22, L23, L24, L30, L31, L32, L40, L41, L42, L43, L45, L47, L48, L52, L57, L59, L60, L61, L63, L64, L72, L97, L99, L100, L122, L160, L161, L200, L255, L999, L1200, L1998, L99999, L100000, L1000005]
    · simp (disch := omega) only [r_isManNo b1 hM g1, ↓reduceIte, eq_self, Bool.false_eq_true, reduceCtorEq, ob_s, ob2_s, od_e, onl_n, onl_s, ι_nat, ι_add, ι_mul, ι_sub, ι_addm, lt_t, lt_f, le_t, le_f, eq_t, eq_f, inb_t, inb_f, neq_f, neq_f2, neq_nf, nlt_t, nlt_f, nle_t, nle_f, ms_at, ms_off, up_at, up_off, L0, L1, L2, L3, L4, L5, L6, L7, L8, L9, L10, L11, L12, L13, L14, L15, L16, L17, L18, L19, L20, L21, L22, L23, L24, L30, L31, L32, L40, L41, L42, L43, L45, L47, L48, L52, L57, L59, L60, L61, L63, L64, L72, L97, L99, L100, L122, L160, L161, L200, L255, L999, L1200, L1998, L99999, L100000, L1000005]
theorem op_soonest : OP_soonest RR := by
  intro σ τ v1 v2 hR
  obtain ⟨M, V, w, y, A, B, T, X, h0, hA, hB, hOX, hC, hS, hS9, hF, hCX, hFX, hI, hSh, hD⟩ := id hR
  obtain ⟨hM, hV, hw, hy⟩ := id h0
  obtain ⟨hB, hBs⟩ := id hB
  obtain ⟨a1, a2, a3, a4, a5, a6⟩ := id hC
  obtain ⟨b1, b2, b3, b4, b5, b6⟩ := id hF
  have hT := hOX.2.1
  have c1 := hCX.1
  have f1 := hFX.1
  unfold f_X8_soonest f_X9_soonest
  rcases argN M v1 with ⟨i, i1, i2, rfl⟩ | g1
  · by_cases hb : outN 201 v2 ∨ v2 = ι 0
    · refine ⟨-ι 7, σ, τ, ?_, ?_, hR, rfl⟩
      · rcases hb with (g | ⟨k, k1, k2, rfl⟩) | rfl
        · simp (disch := omega) only [c_manAt a1 hM i1, ng_lt g, ng_le g, ng_gt g, ng_ge g, ng_eq g, ng_eq2 g, ng_inb g, ↓reduceIte, eq_self, Bool.false_eq_true, reduceCtorEq, ob_s, ob2_s, od_e, onl_n, onl_s, ι_nat, ι_add, ι_mul, ι_sub, ι_addm, lt_t, lt_f, le_t, le_f, eq_t, eq_f, inb_t, inb_f, neq_f, neq_f2, neq_nf, nlt_t, nlt_f, nle_t, nle_f, ms_at, ms_off, up_at, up_off, L0, L1, L2, L3, L4, L5, L6, L7, L8, L9, L10, L11, L12, L13, L14, L15, L16, L17, L18, L19, L20, L21, L22, L23, L24, L30, L31, L32, L40, L41, L42, L43, L45, L47, L48, L52, L57, L59, L60, L61, L63, L64, L72, L97, L99, L100, L122, L160, L161, L200, L255, L999, L1200, L1998, L99999, L100000, L1000005]
        · simp (disch := omega) only [c_manAt a1 hM i1, ↓reduceIte, eq_self, Bool.false_eq_true, reduceCtorEq, ob_s, ob2_s, od_e, onl_n, onl_s, ι_nat, ι_add, ι_mul, ι_sub, ι_addm, lt_t, lt_f, le_t, le_f, eq_t, eq_f, inb_t, inb_f, neq_f, neq_f2, neq_nf, nlt_t, nlt_f, nle_t, nle_f, ms_at, ms_off, up_at, up_off, L0, L1, L2, L3, L4, L5, L6, L7, L8, L9, L10, L11, L12, L13, L14, L15, L16, L17, L18, L19, L20, L21, L22, L23, L24, L30, L31, L32, L40, L41, L42, L43, L45, L47, L48, L52, L57, L59, L60, L61, L63, L64, L72, L97, L99, L100, L122, L160, L161, L200, L255, L999, L1200, L1998, L99999, L100000, L1000005]
        · simp (disch := omega) only [c_manAt a1 hM i1, ↓reduceIte, eq_self, Bool.false_eq_true, reduceCtorEq, ob_s, ob2_s, od_e, onl_n, onl_s, ι_nat, ι_add, ι_mul, ι_sub, ι_addm, lt_t, lt_f, le_t, le_f, eq_t, eq_f, inb_t, inb_f, neq_f, neq_f2, neq_nf, nlt_t, nlt_f, nle_t, nle_f, ms_at, ms_off, up_at, up_off, L0, L1, L2, L3, L4, L5, L6, L7, L8, L9, L10, L11, L12, L13, L14, L15, L16, L17, L18, L19, L20, L21, L22, L23, L24, L30, L31, L32, L40, L41, L42, L43, L45, L47, L48, L52, L57, L59, L60, L61, L63, L64, L72, L97, L99, L100, L122, L160, L161, L200, L255, L999, L1200, L1998, L99999, L100000, L1000005]
      · have q : f_X9_in v2 (ι 1) (ι 200) = ι 0 := r_inNo (by
          rcases hb with (g | ⟨k, k1, k2, rfl⟩) | rfl
          · exact Or.inl g
          · exact Or.inr ⟨k, rfl, k2, by omega⟩
          · exact Or.inr ⟨0, rfl, by omega, by omega⟩) (by omega) (by omega)
        simp (disch := omega) only [r_isMan b1 hM i1, q, ↓reduceIte, eq_self, Bool.false_eq_true, reduceCtorEq, ob_s, ob2_s, od_e, onl_n, onl_s, ι_nat, ι_add, ι_mul, ι_sub, ι_addm, lt_t, lt_f, le_t, le_f, eq_t, eq_f, inb_t, inb_f, neq_f, neq_f2, neq_nf, nlt_t, nlt_f, nle_t, nle_f, ms_at, ms_off, up_at, up_off, L0, L1, L2, L3, L4, L5, L6, L7, L8, L9, L10, L11, L12, L13, L14, L15, L16, L17, L18, L19, L20, L21, L22, L23, L24, L30, L31, L32, L40, L41, L42, L43, L45, L47, L48, L52, L57, L59, L60, L61, L63, L64, L72, L97, L99, L100, L122, L160, L161, L200, L255, L999, L1200, L1998, L99999, L100000, L1000005]
    · rcases argN 201 v2 with ⟨m, m1, m2, rfl⟩ | g2
      · have m0 : m ≠ 0 := fun h => hb (Or.inr (by rw [h]))
        have e5 := ca_5 a5 i1
        have d5 := fa_5 b5 i1
        have o5 := (hA i i1).2.2.2.2.2
        by_cases hs : A i 5 = 0
        · obtain ⟨σ', s1, s2⟩ := c_ripe (much := m) hM hV hw hC hA hCX hOX hy i1 (by omega) (owedN V B i)
          obtain ⟨τ', t1, t2⟩ := r_ripe (much := m) hFX hOX hF hA hB hM hV hy i1 (by omega) (by omega)
          refine ⟨pl (ripeN X y (A i) w (owedN V B i) m), σ', τ', ?_, ?_, RR_eq hR s2 t2⟩
          · simp (disch := omega) only [c_manAt a1 hM i1, e5, hs, c_owed a2 hV a6 hB hM (show i < 100 by omega), s1, ↓reduceIte, eq_self, Bool.false_eq_true, reduceCtorEq, ob_s, ob2_s, od_e, onl_n, onl_s, ι_nat, ι_add, ι_mul, ι_sub, ι_addm, lt_t, lt_f, le_t, le_f, eq_t, eq_f, inb_t, inb_f, neq_f, neq_f2, neq_nf, nlt_t, nlt_f, nle_t, nle_f, ms_at, ms_off, up_at, up_off, L0, L1, L2, L3, L4, L5, L6, L7, L8, L9, L10, L11, L12, L13, L14, L15, L16, L17, L18, L19, L20, L21, L22, L23, L24, L30, L31, L32, L40, L41, L42, L43, L45, L47, L48, L52, L57, L59, L60, L61, L63, L64, L72, L97, L99, L100, L122, L160, L161, L200, L255, L999, L1200, L1998, L99999, L100000, L1000005]
          · simp (disch := omega) only [r_isMan b1 hM i1, r_in, d5, hs, t1, ↓reduceIte, eq_self, Bool.false_eq_true, reduceCtorEq, ob_s, ob2_s, od_e, onl_n, onl_s, ι_nat, ι_add, ι_mul, ι_sub, ι_addm, lt_t, lt_f, le_t, le_f, eq_t, eq_f, inb_t, inb_f, neq_f, neq_f2, neq_nf, nlt_t, nlt_f, nle_t, nle_f, ms_at, ms_off, up_at, up_off, L0, L1, L2, L3, L4, L5, L6, L7, L8, L9, L10, L11, L12, L13, L14, L15, L16, L17, L18, L19, L20, L21, L22, L23, L24, L30, L31, L32, L40, L41, L42, L43, L45, L47, L48, L52, L57, L59, L60, L61, L63, L64, L72, L97, L99, L100, L122, L160, L161, L200, L255, L999, L1200, L1998, L99999, L100000, L1000005]
        · have hs1 : A i 5 = 1 := by omega
          refine ⟨-ι 1, σ, τ, ?_, ?_, hR, rfl⟩
          · simp (disch := omega) only [c_manAt a1 hM i1, e5, hs1, ↓reduceIte, eq_self, Bool.false_eq_true, reduceCtorEq, ob_s, ob2_s, od_e, onl_n, onl_s, ι_nat, ι_add, ι_mul, ι_sub, ι_addm, lt_t, lt_f, le_t, le_f, eq_t, eq_f, inb_t, inb_f, neq_f, neq_f2, neq_nf, nlt_t, nlt_f, nle_t, nle_f, ms_at, ms_off, up_at, up_off, L0, L1, L2, L3, L4, L5, L6, L7, L8, L9, L10, L11, L12, L13, L14, L15, L16, L17, L18, L19, L20, L21, L22, L23, L24, L30, L31, L32, L40, L41, L42, L43, L45, L47, L48, L52, L57, L59, L60, L61, L63, L64, L72, L97, L99, L100, L122, L160, L161, L200, L255, L999, L1200, L1998, L99999, L100000, L1000005]
          · simp (disch := omega) only [r_isMan b1 hM i1, r_in, d5, hs1, ↓reduceIte, eq_self, Bool.false_eq_true, reduceCtorEq, ob_s, ob2_s, od_e, onl_n, onl_s, ι_nat, ι_add, ι_mul, ι_sub, ι_addm, lt_t, lt_f, le_t, le_f, eq_t, eq_f, inb_t, inb_f, neq_f, neq_f2, neq_nf, nlt_t, nlt_f, nle_t, nle_f, ms_at, ms_off, up_at, up_off, L0, L1, L2, L3, L4, L5, L6, L7, L8, L9, L10, L11, L12, L13, L14, L15, L16, L17, L18, L19, L20, L21, L22, L23, L24, L30, L31, L32, L40, L41, L42, L43, L45, L47, L48, L52, L57, L59, L60, L61, L63, L64, L72, L97, L99, L100, L122, L160, L161, L200, L255, L999, L1200, L1998, L99999, L100000, L1000005]
      · exact absurd (Or.inl g2) hb
  · refine ⟨-ι 5, σ, τ, ?_, ?_, hR, rfl⟩
    · simp (disch := omega) only [c_manNo a1 hM g1, ↓reduceIte, eq_self, Bool.false_eq_true, reduceCtorEq, ob_s, ob2_s, od_e, onl_n, onl_s, ι_nat, ι_add, ι_mul, ι_sub, ι_addm, lt_t, lt_f, le_t, le_f, eq_t, eq_f, inb_t, inb_f, neq_f, neq_f2, neq_nf, nlt_t, nlt_f, nle_t, nle_f, ms_at, ms_off, up_at, up_off, L0, L1, L2, L3, L4, L5, L6, L7, L8, L9, L10, L11, L12, L13, L14, L15, L16, L17, L18, L19, L20, L21, L22, L23, L24, L30, L31, L32, L40, L41, L42, L43, L45, L47, L48, L52, L57, L59, L60, L61, L63, L64, L72, L97, L99, L100, L122, L160, L161, L200, L255, L999, L1200, L1998, L99999, L100000, L1000005]
    · simp (disch := omega) only [r_isManNo b1 hM g1, ↓reduceIte, eq_self, Bool.false_eq_true, reduceCtorEq, ob_s, ob2_s, od_e, onl_n, onl_s, ι_nat, ι_add, ι_mul, ι_sub, ι_addm, lt_t, lt_f, le_t, le_f, eq_t, eq_f, inb_t, inb_f, neq_f, neq_f2, neq_nf, nlt_t, nlt_f, nle_t, nle_f, ms_at, ms_off, up_at, up_off, L0, L1, L2, L3, L4, L5, L6, L7, L8, L9, L10, L11, L12, L13, L14, L15, L16, L17, L18, L19, L20, L21, L22, L23, L24, L30, L31, L32, L40, L41, L42, L43, L45, L47, L48, L52, L57, L59, L60, L61, L63, L64, L72, L97, L99, L100, L122, L160, L161, L200, L255, L999, L1200, L1998, L99999, L100000, L1000005]
