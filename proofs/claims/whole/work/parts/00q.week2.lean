theorem c_brk {t M V w y m nth N : Nat} {K : Nat → Nat} (ht : 15 ≤ t ∧ t + 17 ≤ 98) (hM : M ≤ 6) (h8 : V ≤ 8) : ∀ d i n (B : TB2) (σ : Mem), i + d = V → d < n → σ t 4 = ι V → CB t V B σ → OKB M V B → m < 100 →
    ∃ σ', f_X6_shear_b55 t (ι m) (ι nth) n σ (ι i) = f_X6_shear_b118 σ' t (ι m) (ι nth) ∧ CB t V (brkD m d i B) σ' ∧ ∀ k j, ¬ (t + 9 ≤ k ∧ k < t + 17) → σ' k j = σ k j := by
  intro d
  induction d with
  | zero =>
    intro i n B σ hi hn hV hB hO hm
    obtain ⟨n, rfl⟩ : ∃ k, n = k + 1 := ⟨n - 1, by omega⟩
    refine ⟨σ, ?_, hB, fun _ _ _ => rfl⟩
    rw [f_X6_shear_b55]
    simp (disch := omega) only [hV, ↓reduceIte, eq_self, Bool.false_eq_true, reduceCtorEq, ob_s, ob2_s, od_e, onl_n, onl_s, ι_nat, ι_add, ι_mul, ι_sub, ι_addm, lt_t, lt_f, le_t, le_f, eq_t, eq_f, inb_t, inb_f, neq_f, neq_f2, neq_nf, nlt_t, nlt_f, nle_t, nle_f, ms_at, ms_off, up_at, up_off, L0, L1, L2, L3, L4, L5, L6, L7, L8, L9, L10, L11, L12, L13, L14, L15, L16, L17, L18, L19, L20, L21, L22, L23, L24, L30, L31, L32, L40, L41, L42, L43, L45, L47, L48, L52, L57, L59, L60, L61, L63, L64, L72, L97, L99, L100, L122, L160, L161, L200, L255, L999, L1200, L1998, L99999, L100000, L1000005]
  | succ d ih =>
    intro i n B σ hi hn hV hB hO hm
    obtain ⟨n, rfl⟩ : ∃ k, n = k + 1 := ⟨n - 1, by omega⟩
    have b := hO i (by omega)
    by_cases h1 : B i 4 = 0
    · by_cases h2 : B i 0 = m
      · obtain ⟨σ', g1, g2, g3⟩ := ih (i + 1) n (up B i 4 2) (ms σ (t + 9 + i) 4 (ι 2)) (by omega) (by omega) (by rw [ms_off (by omega)]; exact hV) (CB_up hB (by decide)) (OKB_st hO (by decide) (by decide)) hm
        refine ⟨σ', ?_, ?_, ?_⟩
        · rw [f_X6_shear_b55]
          simp (disch := omega) only [hV, cb_0 hB, cb_4 hB, f_X6_shear_b112, h1, h2, ↓reduceIte, eq_self, Bool.false_eq_true, reduceCtorEq, ob_s, ob2_s, od_e, onl_n, onl_s, ι_nat, ι_add, ι_mul, ι_sub, ι_addm, lt_t, lt_f, le_t, le_f, eq_t, eq_f, inb_t, inb_f, neq_f, neq_f2, neq_nf, nlt_t, nlt_f, nle_t, nle_f, ms_at, ms_off, up_at, up_off, L0, L1, L2, L3, L4, L5, L6, L7, L8, L9, L10, L11, L12, L13, L14, L15, L16, L17, L18, L19, L20, L21, L22, L23, L24, L30, L31, L32, L40, L41, L42, L43, L45, L47, L48, L52, L57, L59, L60, L61, L63, L64, L72, L97, L99, L100, L122, L160, L161, L200, L255, L999, L1200, L1998, L99999, L100000, L1000005]
          exact g1
        · show CB t V (brkD m d (i + 1) (if B i 4 = 0 ∧ B i 0 = m then up B i 4 2 else B)) σ'
          rw [if_pos ⟨h1, h2⟩]
          exact g2
        · intro k j h
          rw [g3 k j h, ms_off (by omega)]
      · obtain ⟨σ', g1, g2, g3⟩ := ih (i + 1) n B σ (by omega) (by omega) hV hB hO hm
        refine ⟨σ', ?_, ?_, g3⟩
        · rw [f_X6_shear_b55]
          simp (disch := omega) only [hV, cb_0 hB, cb_4 hB, f_X6_shear_b112, h1, ↓reduceIte, eq_self, Bool.false_eq_true, reduceCtorEq, ob_s, ob2_s, od_e, onl_n, onl_s, ι_nat, ι_add, ι_mul, ι_sub, ι_addm, lt_t, lt_f, le_t, le_f, eq_t, eq_f, inb_t, inb_f, neq_f, neq_f2, neq_nf, nlt_t, nlt_f, nle_t, nle_f, ms_at, ms_off, up_at, up_off, L0, L1, L2, L3, L4, L5, L6, L7, L8, L9, L10, L11, L12, L13, L14, L15, L16, L17, L18, L19, L20, L21, L22, L23, L24, L30, L31, L32, L40, L41, L42, L43, L45, L47, L48, L52, L57, L59, L60, L61, L63, L64, L72, L97, L99, L100, L122, L160, L161, L200, L255, L999, L1200, L1998, L99999, L100000, L1000005]
          exact g1
        · show CB t V (brkD m d (i + 1) (if B i 4 = 0 ∧ B i 0 = m then up B i 4 2 else B)) σ'
          rw [if_neg (fun h => h2 h.2)]
          exact g2
    · obtain ⟨σ', g1, g2, g3⟩ := ih (i + 1) n B σ (by omega) (by omega) hV hB hO hm
      refine ⟨σ', ?_, ?_, g3⟩
      · rw [f_X6_shear_b55]
        simp (disch := omega) only [hV, cb_0 hB, cb_4 hB, f_X6_shear_b112, ↓reduceIte, eq_self, Bool.false_eq_true, reduceCtorEq, ob_s, ob2_s, od_e, onl_n, onl_s, ι_nat, ι_add, ι_mul, ι_sub, ι_addm, lt_t, lt_f, le_t, le_f, eq_t, eq_f, inb_t, inb_f, neq_f, neq_f2, neq_nf, nlt_t, nlt_f, nle_t, nle_f, ms_at, ms_off, up_at, up_off, L0, L1, L2, L3, L4, L5, L6, L7, L8, L9, L10, L11, L12, L13, L14, L15, L16, L17, L18, L19, L20, L21, L22, L23, L24, L30, L31, L32, L40, L41, L42, L43, L45, L47, L48, L52, L57, L59, L60, L61, L63, L64, L72, L97, L99, L100, L122, L160, L161, L200, L255, L999, L1200, L1998, L99999, L100000, L1000005]
        exact g1
      · show CB t V (brkD m d (i + 1) (if B i 4 = 0 ∧ B i 0 = m then up B i 4 2 else B)) σ'
        rw [if_neg (fun h => h1 h.1)]
        exact g2
theorem c_shear {t M V w y T m nth N : Nat} {X : XT} {s : DS} {σ : Mem} (ht : 15 ≤ t ∧ t + 17 ≤ 98) (hM : M ≤ 6) (h8 : V ≤ 8) (hy : y < T) (hX : CXT T X σ) (hOX : OKX T X) (hN : N < 100000) (hs : CD t M V w y s σ) (hO : OKD M V N s) (hm : m < M) (hnt : nth < 100000) :
    ∃ σ', f_X6_shear σ t (ι m) (ι nth) = some σ' ∧ CD t M V w y (shrD X y V w nth m s) σ' ∧ frT t M σ σ' := by
  obtain ⟨⟨a1, a2, a3, a4, a5, a6⟩, k0, k1, k2, k3, k4⟩ := hs
  obtain ⟨h1, h2, h3, h4⟩ := hO
  obtain ⟨p0, p1, p2, p3, p4, p5⟩ := h1 _ hm
  obtain ⟨m0, m1, m2, m3, m4, m5⟩ := a5 _ hm
  have mc := c_manAt a1 hM hm
  have ow := c_owed a2 h8 a6 h2 hM (show m < 100 by omega)
  obtain ⟨σ1, g1, g2⟩ := c_says hX hOX (q := 2) (w := w) (ow := owedN V s.2.1 m) hy (by decide) (show 5 ≤ t + 3 + m by omega) m1 m2 m3 m4
  let sh := sayN X y 2 (s.1 m 2) (s.1 m 3) (s.1 m 1) w (owedN V s.2.1 m) (s.1 m 4)
  let σ2 := ms (ms (ms σ1 t 11 (ι (s.2.2 4 + sh))) (t + 3 + m) 5 (ι 1)) (t + 3 + m) 2 (ι 0)
  have e2 : ∀ k j, k ≠ 3 → k ≠ 4 → ¬ (k = t ∧ j = 11) → k ≠ t + 3 + m → σ2 k j = σ k j := by
    intro k j q1 q2 q3 q4
    show ms (ms (ms σ1 t 11 (ι (s.2.2 4 + sh))) (t + 3 + m) 5 (ι 1)) (t + 3 + m) 2 (ι 0) k j = σ k j
    rw [ms_off (by omega), ms_off (by omega), ms_off (by omega), g2 k j q1 q2]
  obtain ⟨σ3, b1, b2, b3⟩ := c_brk (t := t) (M := M) (w := w) (y := y) (m := m) (nth := nth) (N := N) (K := s.2.2) ht hM h8 V 0 FU s.2.1 σ2 (by omega) (by unfold FU; omega) (by rw [e2 _ _ (by omega) (by omega) (by omega) (by omega)]; exact a2) (CB_fr a6 (fun i j hi => e2 _ _ (by omega) (by omega) (by omega) (by omega))) h2 (by omega)
  have e3 : ∀ k j, k ≠ 3 → k ≠ 4 → ¬ (k = t ∧ j = 11) → k ≠ t + 3 + m → ¬ (t + 9 ≤ k ∧ k < t + 17) → σ3 k j = σ k j := fun k j q1 q2 q3 q4 q5 => (b3 k j q5).trans (e2 k j q1 q2 q3 q4)
  have f11 : σ3 t 11 = ι (s.2.2 4 + sh) := by
    rw [b3 _ _ (by omega)]
    show ms (ms (ms σ1 t 11 (ι (s.2.2 4 + sh))) (t + 3 + m) 5 (ι 1)) (t + 3 + m) 2 (ι 0) t 11 = _
    rw [ms_off (by omega), ms_off (by omega), ms_at rfl rfl]
  have f7 : σ3 t 7 = ι (s.2.2 0) := by rw [e3 _ _ (by omega) (by omega) (by omega) (by omega) (by omega)]; exact k0
  have f8 : σ3 t 8 = pl (s.2.2 1) := by rw [e3 _ _ (by omega) (by omega) (by omega) (by omega) (by omega)]; exact k1
  have f9 : σ3 t 9 = pl (s.2.2 2) := by rw [e3 _ _ (by omega) (by omega) (by omega) (by omega) (by omega)]; exact k2
  have f10 : σ3 t 10 = ι (s.2.2 3) := by rw [e3 _ _ (by omega) (by omega) (by omega) (by omega) (by omega)]; exact k3
  have t3 : σ3 t 3 = ι M := by rw [e3 _ _ (by omega) (by omega) (by omega) (by omega) (by omega)]; exact a1
  have t4 : σ3 t 4 = ι V := by rw [e3 _ _ (by omega) (by omega) (by omega) (by omega) (by omega)]; exact a2
  have t5 : σ3 t 5 = ι w := by rw [e3 _ _ (by omega) (by omega) (by omega) (by omega) (by omega)]; exact a3
  have t6 : σ3 t 6 = ι y := by rw [e3 _ _ (by omega) (by omega) (by omega) (by omega) (by omega)]; exact a4
  have hCA : CA t M (up (up s.1 m 5 1) m 2 0) σ3 := by
    refine CA_fr (σ := σ2) ?_ (fun i j hi => b3 _ _ (by omega))
    refine CA_up (CA_up (CA_fr a5 (fun i j hi => ?_)) (by decide)) (by decide)
    rw [ms_off (by omega), g2 _ _ (by omega) (by omega)]
  by_cases hz : s.2.2 0 = 0
  · refine ⟨ms (ms (ms σ3 t 8 (ι m)) t 9 (ι nth)) t 7 (ι (s.2.2 0 + 1)), ?_, ⟨⟨?_, ?_, ?_, ?_, ?_, ?_⟩, ?_, ?_, ?_, ?_, ?_⟩, ?_⟩
    · unfold f_X6_shear
      simp (disch := omega) only [mc, ow, a3, a4, g1, k4, ↓reduceIte, eq_self, Bool.false_eq_true, reduceCtorEq, ob_s, ob2_s, od_e, onl_n, onl_s, ι_nat, ι_add, ι_mul, ι_sub, ι_addm, lt_t, lt_f, le_t, le_f, eq_t, eq_f, inb_t, inb_f, neq_f, neq_f2, neq_nf, nlt_t, nlt_f, nle_t, nle_f, ms_at, ms_off, up_at, up_off, L0, L1, L2, L3, L4, L5, L6, L7, L8, L9, L10, L11, L12, L13, L14, L15, L16, L17, L18, L19, L20, L21, L22, L23, L24, L30, L31, L32, L40, L41, L42, L43, L45, L47, L48, L52, L57, L59, L60, L61, L63, L64, L72, L97, L99, L100, L122, L160, L161, L200, L255, L999, L1200, L1998, L99999, L100000, L1000005]
      show f_X6_shear_b55 t (ι m) (ι nth) FU σ2 (ι 0) = _
      rw [b1]
      unfold f_X6_shear_b118
      simp (disch := omega) only [f7, hz, ↓reduceIte, eq_self, Bool.false_eq_true, reduceCtorEq, ob_s, ob2_s, od_e, onl_n, onl_s, ι_nat, ι_add, ι_mul, ι_sub, ι_addm, lt_t, lt_f, le_t, le_f, eq_t, eq_f, inb_t, inb_f, neq_f, neq_f2, neq_nf, nlt_t, nlt_f, nle_t, nle_f, ms_at, ms_off, up_at, up_off, L0, L1, L2, L3, L4, L5, L6, L7, L8, L9, L10, L11, L12, L13, L14, L15, L16, L17, L18, L19, L20, L21, L22, L23, L24, L30, L31, L32, L40, L41, L42, L43, L45, L47, L48, L52, L57, L59, L60, L61, L63, L64, L72, L97, L99, L100, L122, L160, L161, L200, L255, L999, L1200, L1998, L99999, L100000, L1000005]
    · simp (disch := omega) only [t3, ↓reduceIte, eq_self, Bool.false_eq_true, reduceCtorEq, ob_s, ob2_s, od_e, onl_n, onl_s, ι_nat, ι_add, ι_mul, ι_sub, ι_addm, lt_t, lt_f, le_t, le_f, eq_t, eq_f, inb_t, inb_f, neq_f, neq_f2, neq_nf, nlt_t, nlt_f, nle_t, nle_f, ms_at, ms_off, up_at, up_off, L0, L1, L2, L3, L4, L5, L6, L7, L8, L9, L10, L11, L12, L13, L14, L15, L16, L17, L18, L19, L20, L21, L22, L23, L24, L30, L31, L32, L40, L41, L42, L43, L45, L47, L48, L52, L57, L59, L60, L61, L63, L64, L72, L97, L99, L100, L122, L160, L161, L200, L255, L999, L1200, L1998, L99999, L100000, L1000005]
    · simp (disch := omega) only [t4, ↓reduceIte, eq_self, Bool.false_eq_true, reduceCtorEq, ob_s, ob2_s, od_e, onl_n, onl_s, ι_nat, ι_add, ι_mul, ι_sub, ι_addm, lt_t, lt_f, le_t, le_f, eq_t, eq_f, inb_t, inb_f, neq_f, neq_f2, neq_nf, nlt_t, nlt_f, nle_t, nle_f, ms_at, ms_off, up_at, up_off, L0, L1, L2, L3, L4, L5, L6, L7, L8, L9, L10, L11, L12, L13, L14, L15, L16, L17, L18, L19, L20, L21, L22, L23, L24, L30, L31, L32, L40, L41, L42, L43, L45, L47, L48, L52, L57, L59, L60, L61, L63, L64, L72, L97, L99, L100, L122, L160, L161, L200, L255, L999, L1200, L1998, L99999, L100000, L1000005]
    · simp (disch := omega) only [t5, ↓reduceIte, eq_self, Bool.false_eq_true, reduceCtorEq, ob_s, ob2_s, od_e, onl_n, onl_s, ι_nat, ι_add, ι_mul, ι_sub, ι_addm, lt_t, lt_f, le_t, le_f, eq_t, eq_f, inb_t, inb_f, neq_f, neq_f2, neq_nf, nlt_t, nlt_f, nle_t, nle_f, ms_at, ms_off, up_at, up_off, L0, L1, L2, L3, L4, L5, L6, L7, L8, L9, L10, L11, L12, L13, L14, L15, L16, L17, L18, L19, L20, L21, L22, L23, L24, L30, L31, L32, L40, L41, L42, L43, L45, L47, L48, L52, L57, L59, L60, L61, L63, L64, L72, L97, L99, L100, L122, L160, L161, L200, L255, L999, L1200, L1998, L99999, L100000, L1000005]
    · simp (disch := omega) only [t6, ↓reduceIte, eq_self, Bool.false_eq_true, reduceCtorEq, ob_s, ob2_s, od_e, onl_n, onl_s, ι_nat, ι_add, ι_mul, ι_sub, ι_addm, lt_t, lt_f, le_t, le_f, eq_t, eq_f, inb_t, inb_f, neq_f, neq_f2, neq_nf, nlt_t, nlt_f, nle_t, nle_f, ms_at, ms_off, up_at, up_off, L0, L1, L2, L3, L4, L5, L6, L7, L8, L9, L10, L11, L12, L13, L14, L15, L16, L17, L18, L19, L20, L21, L22, L23, L24, L30, L31, L32, L40, L41, L42, L43, L45, L47, L48, L52, L57, L59, L60, L61, L63, L64, L72, L97, L99, L100, L122, L160, L161, L200, L255, L999, L1200, L1998, L99999, L100000, L1000005]
    · exact CA_fr hCA (fun i j hi => by rw [ms_off (by omega), ms_off (by omega), ms_off (by omega)])
    · exact CB_fr b2 (fun i j hi => by rw [ms_off (by omega), ms_off (by omega), ms_off (by omega)])
    · simp (disch := omega) only [↓reduceIte, eq_self, Bool.false_eq_true, reduceCtorEq, ob_s, ob2_s, od_e, onl_n, onl_s, ι_nat, ι_add, ι_mul, ι_sub, ι_addm, lt_t, lt_f, le_t, le_f, eq_t, eq_f, inb_t, inb_f, neq_f, neq_f2, neq_nf, nlt_t, nlt_f, nle_t, nle_f, ms_at, ms_off, up_at, up_off, L0, L1, L2, L3, L4, L5, L6, L7, L8, L9, L10, L11, L12, L13, L14, L15, L16, L17, L18, L19, L20, L21, L22, L23, L24, L30, L31, L32, L40, L41, L42, L43, L45, L47, L48, L52, L57, L59, L60, L61, L63, L64, L72, L97, L99, L100, L122, L160, L161, L200, L255, L999, L1200, L1998, L99999, L100000, L1000005]
      rfl
    · simp (disch := omega) only [↓reduceIte, eq_self, Bool.false_eq_true, reduceCtorEq, ob_s, ob2_s, od_e, onl_n, onl_s, ι_nat, ι_add, ι_mul, ι_sub, ι_addm, lt_t, lt_f, le_t, le_f, eq_t, eq_f, inb_t, inb_f, neq_f, neq_f2, neq_nf, nlt_t, nlt_f, nle_t, nle_f, ms_at, ms_off, up_at, up_off, L0, L1, L2, L3, L4, L5, L6, L7, L8, L9, L10, L11, L12, L13, L14, L15, L16, L17, L18, L19, L20, L21, L22, L23, L24, L30, L31, L32, L40, L41, L42, L43, L45, L47, L48, L52, L57, L59, L60, L61, L63, L64, L72, L97, L99, L100, L122, L160, L161, L200, L255, L999, L1200, L1998, L99999, L100000, L1000005]
      show ι m = pl (if s.2.2 0 = 0 then m + 1 else s.2.2 1)
      rw [if_pos hz, pl_s (by omega), Nat.add_sub_cancel]
    · simp (disch := omega) only [↓reduceIte, eq_self, Bool.false_eq_true, reduceCtorEq, ob_s, ob2_s, od_e, onl_n, onl_s, ι_nat, ι_add, ι_mul, ι_sub, ι_addm, lt_t, lt_f, le_t, le_f, eq_t, eq_f, inb_t, inb_f, neq_f, neq_f2, neq_nf, nlt_t, nlt_f, nle_t, nle_f, ms_at, ms_off, up_at, up_off, L0, L1, L2, L3, L4, L5, L6, L7, L8, L9, L10, L11, L12, L13, L14, L15, L16, L17, L18, L19, L20, L21, L22, L23, L24, L30, L31, L32, L40, L41, L42, L43, L45, L47, L48, L52, L57, L59, L60, L61, L63, L64, L72, L97, L99, L100, L122, L160, L161, L200, L255, L999, L1200, L1998, L99999, L100000, L1000005]
      show ι nth = pl (if s.2.2 0 = 0 then nth + 1 else s.2.2 2)
      rw [if_pos hz, pl_s (by omega), Nat.add_sub_cancel]
    · simp (disch := omega) only [f10, ↓reduceIte, eq_self, Bool.false_eq_true, reduceCtorEq, ob_s, ob2_s, od_e, onl_n, onl_s, ι_nat, ι_add, ι_mul, ι_sub, ι_addm, lt_t, lt_f, le_t, le_f, eq_t, eq_f, inb_t, inb_f, neq_f, neq_f2, neq_nf, nlt_t, nlt_f, nle_t, nle_f, ms_at, ms_off, up_at, up_off, L0, L1, L2, L3, L4, L5, L6, L7, L8, L9, L10, L11, L12, L13, L14, L15, L16, L17, L18, L19, L20, L21, L22, L23, L24, L30, L31, L32, L40, L41, L42, L43, L45, L47, L48, L52, L57, L59, L60, L61, L63, L64, L72, L97, L99, L100, L122, L160, L161, L200, L255, L999, L1200, L1998, L99999, L100000, L1000005]
      rfl
    · simp (disch := omega) only [f11, ↓reduceIte, eq_self, Bool.false_eq_true, reduceCtorEq, ob_s, ob2_s, od_e, onl_n, onl_s, ι_nat, ι_add, ι_mul, ι_sub, ι_addm, lt_t, lt_f, le_t, le_f, eq_t, eq_f, inb_t, inb_f, neq_f, neq_f2, neq_nf, nlt_t, nlt_f, nle_t, nle_f, ms_at, ms_off, up_at, up_off, L0, L1, L2, L3, L4, L5, L6, L7, L8, L9, L10, L11, L12, L13, L14, L15, L16, L17, L18, L19, L20, L21, L22, L23, L24, L30, L31, L32, L40, L41, L42, L43, L45, L47, L48, L52, L57, L59, L60, L61, L63, L64, L72, L97, L99, L100, L122, L160, L161, L200, L255, L999, L1200, L1998, L99999, L100000, L1000005]
      rfl
    · intro k j q1 q2 q3 q4
      rw [ms_off (by omega), ms_off (by omega), ms_off (by omega), e3 k j q1 q2 (by omega) (by omega) q4]
  · refine ⟨ms σ3 t 7 (ι (s.2.2 0 + 1)), ?_, ⟨⟨?_, ?_, ?_, ?_, ?_, ?_⟩, ?_, ?_, ?_, ?_, ?_⟩, ?_⟩
    · unfold f_X6_shear
      simp (disch := omega) only [mc, ow, a3, a4, g1, k4, ↓reduceIte, eq_self, Bool.false_eq_true, reduceCtorEq, ob_s, ob2_s, od_e, onl_n, onl_s, ι_nat, ι_add, ι_mul, ι_sub, ι_addm, lt_t, lt_f, le_t, le_f, eq_t, eq_f, inb_t, inb_f, neq_f, neq_f2, neq_nf, nlt_t, nlt_f, nle_t, nle_f, ms_at, ms_off, up_at, up_off, L0, L1, L2, L3, L4, L5, L6, L7, L8, L9, L10, L11, L12, L13, L14, L15, L16, L17, L18, L19, L20, L21, L22, L23, L24, L30, L31, L32, L40, L41, L42, L43, L45, L47, L48, L52, L57, L59, L60, L61, L63, L64, L72, L97, L99, L100, L122, L160, L161, L200, L255, L999, L1200, L1998, L99999, L100000, L1000005]
      show f_X6_shear_b55 t (ι m) (ι nth) FU σ2 (ι 0) = _
      rw [b1]
      unfold f_X6_shear_b118
      simp (disch := omega) only [f7, ↓reduceIte, eq_self, Bool.false_eq_true, reduceCtorEq, ob_s, ob2_s, od_e, onl_n, onl_s, ι_nat, ι_add, ι_mul, ι_sub, ι_addm, lt_t, lt_f, le_t, le_f, eq_t, eq_f, inb_t, inb_f, neq_f, neq_f2, neq_nf, nlt_t, nlt_f, nle_t, nle_f, ms_at, ms_off, up_at, up_off, L0, L1, L2, L3, L4, L5, L6, L7, L8, L9, L10, L11, L12, L13, L14, L15, L16, L17, L18, L19, L20, L21, L22, L23, L24, L30, L31, L32, L40, L41, L42, L43, L45, L47, L48, L52, L57, L59, L60, L61, L63, L64, L72, L97, L99, L100, L122, L160, L161, L200, L255, L999, L1200, L1998, L99999, L100000, L1000005]
    · simp (disch := omega) only [t3, ↓reduceIte, eq_self, Bool.false_eq_true, reduceCtorEq, ob_s, ob2_s, od_e, onl_n, onl_s, ι_nat, ι_add, ι_mul, ι_sub, ι_addm, lt_t, lt_f, le_t, le_f, eq_t, eq_f, inb_t, inb_f, neq_f, neq_f2, neq_nf, nlt_t, nlt_f, nle_t, nle_f, ms_at, ms_off, up_at, up_off, L0, L1, L2, L3, L4, L5, L6, L7, L8, L9, L10, L11, L12, L13, L14, L15, L16, L17, L18, L19, L20, L21, L22, L23, L24, L30, L31, L32, L40, L41, L42, L43, L45, L47, L48, L52, L57, L59, L60, L61, L63, L64, L72, L97, L99, L100, L122, L160, L161, L200, L255, L999, L1200, L1998, L99999, L100000, L1000005]
    · simp (disch := omega) only [t4, ↓reduceIte, eq_self, Bool.false_eq_true, reduceCtorEq, ob_s, ob2_s, od_e, onl_n, onl_s, ι_nat, ι_add, ι_mul, ι_sub, ι_addm, lt_t, lt_f, le_t, le_f, eq_t, eq_f, inb_t, inb_f, neq_f, neq_f2, neq_nf, nlt_t, nlt_f, nle_t, nle_f, ms_at, ms_off, up_at, up_off, L0, L1, L2, L3, L4, L5, L6, L7, L8, L9, L10, L11, L12, L13, L14, L15, L16, L17, L18, L19, L20, L21, L22, L23, L24, L30, L31, L32, L40, L41, L42, L43, L45, L47, L48, L52, L57, L59, L60, L61, L63, L64, L72, L97, L99, L100, L122, L160, L161, L200, L255, L999, L1200, L1998, L99999, L100000, L1000005]
    · simp (disch := omega) only [t5, ↓reduceIte, eq_self, Bool.false_eq_true, reduceCtorEq, ob_s, ob2_s, od_e, onl_n, onl_s, ι_nat, ι_add, ι_mul, ι_sub, ι_addm, lt_t, lt_f, le_t, le_f, eq_t, eq_f, inb_t, inb_f, neq_f, neq_f2, neq_nf, nlt_t, nlt_f, nle_t, nle_f, ms_at, ms_off, up_at, up_off, L0, L1, L2, L3, L4, L5, L6, L7, L8, L9, L10, L11, L12, L13, L14, L15, L16, L17, L18, L19, L20, L21, L22, L23, L24, L30, L31, L32, L40, L41, L42, L43, L45, L47, L48, L52, L57, L59, L60, L61, L63, L64, L72, L97, L99, L100, L122, L160, L161, L200, L255, L999, L1200, L1998, L99999, L100000, L1000005]
    · simp (disch := omega) only [t6, ↓reduceIte, eq_self, Bool.false_eq_true, reduceCtorEq, ob_s, ob2_s, od_e, onl_n, onl_s, ι_nat, ι_add, ι_mul, ι_sub, ι_addm, lt_t, lt_f, le_t, le_f, eq_t, eq_f, inb_t, inb_f, neq_f, neq_f2, neq_nf, nlt_t, nlt_f, nle_t, nle_f, ms_at, ms_off, up_at, up_off, L0, L1, L2, L3, L4, L5, L6, L7, L8, L9, L10, L11, L12, L13, L14, L15, L16, L17, L18, L19, L20, L21, L22, L23, L24, L30, L31, L32, L40, L41, L42, L43, L45, L47, L48, L52, L57, L59, L60, L61, L63, L64, L72, L97, L99, L100, L122, L160, L161, L200, L255, L999, L1200, L1998, L99999, L100000, L1000005]
    · exact CA_fr hCA (fun i j hi => by rw [ms_off (by omega)])
    · exact CB_fr b2 (fun i j hi => by rw [ms_off (by omega)])
    · simp (disch := omega) only [↓reduceIte, eq_self, Bool.false_eq_true, reduceCtorEq, ob_s, ob2_s, od_e, onl_n, onl_s, ι_nat, ι_add, ι_mul, ι_sub, ι_addm, lt_t, lt_f, le_t, le_f, eq_t, eq_f, inb_t, inb_f, neq_f, neq_f2, neq_nf, nlt_t, nlt_f, nle_t, nle_f, ms_at, ms_off, up_at, up_off, L0, L1, L2, L3, L4, L5, L6, L7, L8, L9, L10, L11, L12, L13, L14, L15, L16, L17, L18, L19, L20, L21, L22, L23, L24, L30, L31, L32, L40, L41, L42, L43, L45, L47, L48, L52, L57, L59, L60, L61, L63, L64, L72, L97, L99, L100, L122, L160, L161, L200, L255, L999, L1200, L1998, L99999, L100000, L1000005]
      rfl
    · simp (disch := omega) only [f8, ↓reduceIte, eq_self, Bool.false_eq_true, reduceCtorEq, ob_s, ob2_s, od_e, onl_n, onl_s, ι_nat, ι_add, ι_mul, ι_sub, ι_addm, lt_t, lt_f, le_t, le_f, eq_t, eq_f, inb_t, inb_f, neq_f, neq_f2, neq_nf, nlt_t, nlt_f, nle_t, nle_f, ms_at, ms_off, up_at, up_off, L0, L1, L2, L3, L4, L5, L6, L7, L8, L9, L10, L11, L12, L13, L14, L15, L16, L17, L18, L19, L20, L21, L22, L23, L24, L30, L31, L32, L40, L41, L42, L43, L45, L47, L48, L52, L57, L59, L60, L61, L63, L64, L72, L97, L99, L100, L122, L160, L161, L200, L255, L999, L1200, L1998, L99999, L100000, L1000005]
      show pl (s.2.2 1) = pl (if s.2.2 0 = 0 then m + 1 else s.2.2 1)
      rw [if_neg hz]
    · simp (disch := omega) only [f9, ↓reduceIte, eq_self, Bool.false_eq_true, reduceCtorEq, ob_s, ob2_s, od_e, onl_n, onl_s, ι_nat, ι_add, ι_mul, ι_sub, ι_addm, lt_t, lt_f, le_t, le_f, eq_t, eq_f, inb_t, inb_f, neq_f, neq_f2, neq_nf, nlt_t, nlt_f, nle_t, nle_f, ms_at, ms_off, up_at, up_off, L0, L1, L2, L3, L4, L5, L6, L7, L8, L9, L10, L11, L12, L13, L14, L15, L16, L17, L18, L19, L20, L21, L22, L23, L24, L30, L31, L32, L40, L41, L42, L43, L45, L47, L48, L52, L57, L59, L60, L61, L63, L64, L72, L97, L99, L100, L122, L160, L161, L200, L255, L999, L1200, L1998, L99999, L100000, L1000005]
      show pl (s.2.2 2) = pl (if s.2.2 0 = 0 then nth + 1 else s.2.2 2)
      rw [if_neg hz]
    · simp (disch := omega) only [f10, ↓reduceIte, eq_self, Bool.false_eq_true, reduceCtorEq, ob_s, ob2_s, od_e, onl_n, onl_s, ι_nat, ι_add, ι_mul, ι_sub, ι_addm, lt_t, lt_f, le_t, le_f, eq_t, eq_f, inb_t, inb_f, neq_f, neq_f2, neq_nf, nlt_t, nlt_f, nle_t, nle_f, ms_at, ms_off, up_at, up_off, L0, L1, L2, L3, L4, L5, L6, L7, L8, L9, L10, L11, L12, L13, L14, L15, L16, L17, L18, L19, L20, L21, L22, L23, L24, L30, L31, L32, L40, L41, L42, L43, L45, L47, L48, L52, L57, L59, L60, L61, L63, L64, L72, L97, L99, L100, L122, L160, L161, L200, L255, L999, L1200, L1998, L99999, L100000, L1000005]
      rfl
    · simp (disch := omega) only [f11, ↓reduceIte, eq_self, Bool.false_eq_true, reduceCtorEq, ob_s, ob2_s, od_e, onl_n, onl_s, ι_nat, ι_add, ι_mul, ι_sub, ι_addm, lt_t, lt_f, le_t, le_f, eq_t, eq_f, inb_t, inb_f, neq_f, neq_f2, neq_nf, nlt_t, nlt_f, nle_t, nle_f, ms_at, ms_off, up_at, up_off, L0, L1, L2, L3, L4, L5, L6, L7, L8, L9, L10, L11, L12, L13, L14, L15, L16, L17, L18, L19, L20, L21, L22, L23, L24, L30, L31, L32, L40, L41, L42, L43, L45, L47, L48, L52, L57, L59, L60, L61, L63, L64, L72, L97, L99, L100, L122, L160, L161, L200, L255, L999, L1200, L1998, L99999, L100000, L1000005]
      rfl
    · intro k j q1 q2 q3 q4
      rw [ms_off (by omega), e3 k j q1 q2 (by omega) (by omega) q4]
theorem c_vows {t M V w y T nth : Nat} {X : XT} (ht : 15 ≤ t ∧ t + 17 ≤ 98) (hM : M ≤ 6) (h8 : V ≤ 8) (hy : y < T) (hOX : OKX T X) (hw : w < 10000) (hnt : nth < 100000) : ∀ d i n N (s : DS) (σ : Mem), i + d = V → d < n → N + d < 100000 → CXT T X σ → CD t M V w y s σ → OKD M V N s →
    ∃ σ', f_X6_liveWeek_b62 t (ι nth) n σ (ι i) = some σ' ∧ CD t M V (w + 1) y (vowsD X y V w nth d i s) σ' ∧ OKD M V (N + d) (vowsD X y V w nth d i s) ∧ frT t M σ σ' := by
  intro d
  induction d with
  | zero =>
    intro i n N s σ hi hn hN hX hs hO
    obtain ⟨n, rfl⟩ : ∃ k, n = k + 1 := ⟨n - 1, by omega⟩
    obtain ⟨⟨a1, a2, a3, a4, a5, a6⟩, k0, k1, k2, k3, k4⟩ := hs
    refine ⟨ms σ t 5 (ι (w + 1)), ?_, ⟨⟨?_, ?_, ?_, ?_, ?_, ?_⟩, ?_, ?_, ?_, ?_, ?_⟩, hO, ?_⟩
    · unfold f_X6_liveWeek_b62
      simp (disch := omega) only [a2, a3, ↓reduceIte, eq_self, Bool.false_eq_true, reduceCtorEq, ob_s, ob2_s, od_e, onl_n, onl_s, ι_nat, ι_add, ι_mul, ι_sub, ι_addm, lt_t, lt_f, le_t, le_f, eq_t, eq_f, inb_t, inb_f, neq_f, neq_f2, neq_nf, nlt_t, nlt_f, nle_t, nle_f, ms_at, ms_off, up_at, up_off, L0, L1, L2, L3, L4, L5, L6, L7, L8, L9, L10, L11, L12, L13, L14, L15, L16, L17, L18, L19, L20, L21, L22, L23, L24, L30, L31, L32, L40, L41, L42, L43, L45, L47, L48, L52, L57, L59, L60, L61, L63, L64, L72, L97, L99, L100, L122, L160, L161, L200, L255, L999, L1200, L1998, L99999, L100000, L1000005]
    · simp (disch := omega) only [a1, ↓reduceIte, eq_self, Bool.false_eq_true, reduceCtorEq, ob_s, ob2_s, od_e, onl_n, onl_s, ι_nat, ι_add, ι_mul, ι_sub, ι_addm, lt_t, lt_f, le_t, le_f, eq_t, eq_f, inb_t, inb_f, neq_f, neq_f2, neq_nf, nlt_t, nlt_f, nle_t, nle_f, ms_at, ms_off, up_at, up_off, L0, L1, L2, L3, L4, L5, L6, L7, L8, L9, L10, L11, L12, L13, L14, L15, L16, L17, L18, L19, L20, L21, L22, L23, L24, L30, L31, L32, L40, L41, L42, L43, L45, L47, L48, L52, L57, L59, L60, L61, L63, L64, L72, L97, L99, L100, L122, L160, L161, L200, L255, L999, L1200, L1998, L99999, L100000, L1000005]
    · simp (disch := omega) only [a2, ↓reduceIte, eq_self, Bool.false_eq_true, reduceCtorEq, ob_s, ob2_s, od_e, onl_n, onl_s, ι_nat, ι_add, ι_mul, ι_sub, ι_addm, lt_t, lt_f, le_t, le_f, eq_t, eq_f, inb_t, inb_f, neq_f, neq_f2, neq_nf, nlt_t, nlt_f, nle_t, nle_f, ms_at, ms_off, up_at, up_off, L0, L1, L2, L3, L4, L5, L6, L7, L8, L9, L10, L11, L12, L13, L14, L15, L16, L17, L18, L19, L20, L21, L22, L23, L24, L30, L31, L32, L40, L41, L42, L43, L45, L47, L48, L52, L57, L59, L60, L61, L63, L64, L72, L97, L99, L100, L122, L160, L161, L200, L255, L999, L1200, L1998, L99999, L100000, L1000005]
    · simp (disch := omega) only [↓reduceIte, eq_self, Bool.false_eq_true, reduceCtorEq, ob_s, ob2_s, od_e, onl_n, onl_s, ι_nat, ι_add, ι_mul, ι_sub, ι_addm, lt_t, lt_f, le_t, le_f, eq_t, eq_f, inb_t, inb_f, neq_f, neq_f2, neq_nf, nlt_t, nlt_f, nle_t, nle_f, ms_at, ms_off, up_at, up_off, L0, L1, L2, L3, L4, L5, L6, L7, L8, L9, L10, L11, L12, L13, L14, L15, L16, L17, L18, L19, L20, L21, L22, L23, L24, L30, L31, L32, L40, L41, L42, L43, L45, L47, L48, L52, L57, L59, L60, L61, L63, L64, L72, L97, L99, L100, L122, L160, L161, L200, L255, L999, L1200, L1998, L99999, L100000, L1000005]
    · simp (disch := omega) only [a4, ↓reduceIte, eq_self, Bool.false_eq_true, reduceCtorEq, ob_s, ob2_s, od_e, onl_n, onl_s, ι_nat, ι_add, ι_mul, ι_sub, ι_addm, lt_t, lt_f, le_t, le_f, eq_t, eq_f, inb_t, inb_f, neq_f, neq_f2, neq_nf, nlt_t, nlt_f, nle_t, nle_f, ms_at, ms_off, up_at, up_off, L0, L1, L2, L3, L4, L5, L6, L7, L8, L9, L10, L11, L12, L13, L14, L15, L16, L17, L18, L19, L20, L21, L22, L23, L24, L30, L31, L32, L40, L41, L42, L43, L45, L47, L48, L52, L57, L59, L60, L61, L63, L64, L72, L97, L99, L100, L122, L160, L161, L200, L255, L999, L1200, L1998, L99999, L100000, L1000005]
    · exact CA_fr a5 (fun i j hi => by rw [ms_off (by omega)])
    · exact CB_fr a6 (fun i j hi => by rw [ms_off (by omega)])
    · simp (disch := omega) only [↓reduceIte, eq_self, Bool.false_eq_true, reduceCtorEq, ob_s, ob2_s, od_e, onl_n, onl_s, ι_nat, ι_add, ι_mul, ι_sub, ι_addm, lt_t, lt_f, le_t, le_f, eq_t, eq_f, inb_t, inb_f, neq_f, neq_f2, neq_nf, nlt_t, nlt_f, nle_t, nle_f, ms_at, ms_off, up_at, up_off, L0, L1, L2, L3, L4, L5, L6, L7, L8, L9, L10, L11, L12, L13, L14, L15, L16, L17, L18, L19, L20, L21, L22, L23, L24, L30, L31, L32, L40, L41, L42, L43, L45, L47, L48, L52, L57, L59, L60, L61, L63, L64, L72, L97, L99, L100, L122, L160, L161, L200, L255, L999, L1200, L1998, L99999, L100000, L1000005]
      exact k0
    · simp (disch := omega) only [↓reduceIte, eq_self, Bool.false_eq_true, reduceCtorEq, ob_s, ob2_s, od_e, onl_n, onl_s, ι_nat, ι_add, ι_mul, ι_sub, ι_addm, lt_t, lt_f, le_t, le_f, eq_t, eq_f, inb_t, inb_f, neq_f, neq_f2, neq_nf, nlt_t, nlt_f, nle_t, nle_f, ms_at, ms_off, up_at, up_off, L0, L1, L2, L3, L4, L5, L6, L7, L8, L9, L10, L11, L12, L13, L14, L15, L16, L17, L18, L19, L20, L21, L22, L23, L24, L30, L31, L32, L40, L41, L42, L43, L45, L47, L48, L52, L57, L59, L60, L61, L63, L64, L72, L97, L99, L100, L122, L160, L161, L200, L255, L999, L1200, L1998, L99999, L100000, L1000005]
      exact k1
    · simp (disch := omega) only [↓reduceIte, eq_self, Bool.false_eq_true, reduceCtorEq, ob_s, ob2_s, od_e, onl_n, onl_s, ι_nat, ι_add, ι_mul, ι_sub, ι_addm, lt_t, lt_f, le_t, le_f, eq_t, eq_f, inb_t, inb_f, neq_f, neq_f2, neq_nf, nlt_t, nlt_f, nle_t, nle_f, ms_at, ms_off, up_at, up_off, L0, L1, L2, L3, L4, L5, L6, L7, L8, L9, L10, L11, L12, L13, L14, L15, L16, L17, L18, L19, L20, L21, L22, L23, L24, L30, L31, L32, L40, L41, L42, L43, L45, L47, L48, L52, L57, L59, L60, L61, L63, L64, L72, L97, L99, L100, L122, L160, L161, L200, L255, L999, L1200, L1998, L99999, L100000, L1000005]
      exact k2
    · simp (disch := omega) only [↓reduceIte, eq_self, Bool.false_eq_true, reduceCtorEq, ob_s, ob2_s, od_e, onl_n, onl_s, ι_nat, ι_add, ι_mul, ι_sub, ι_addm, lt_t, lt_f, le_t, le_f, eq_t, eq_f, inb_t, inb_f, neq_f, neq_f2, neq_nf, nlt_t, nlt_f, nle_t, nle_f, ms_at, ms_off, up_at, up_off, L0, L1, L2, L3, L4, L5, L6, L7, L8, L9, L10, L11, L12, L13, L14, L15, L16, L17, L18, L19, L20, L21, L22, L23, L24, L30, L31, L32, L40, L41, L42, L43, L45, L47, L48, L52, L57, L59, L60, L61, L63, L64, L72, L97, L99, L100, L122, L160, L161, L200, L255, L999, L1200, L1998, L99999, L100000, L1000005]
      exact k3
    · simp (disch := omega) only [↓reduceIte, eq_self, Bool.false_eq_true, reduceCtorEq, ob_s, ob2_s, od_e, onl_n, onl_s, ι_nat, ι_add, ι_mul, ι_sub, ι_addm, lt_t, lt_f, le_t, le_f, eq_t, eq_f, inb_t, inb_f, neq_f, neq_f2, neq_nf, nlt_t, nlt_f, nle_t, nle_f, ms_at, ms_off, up_at, up_off, L0, L1, L2, L3, L4, L5, L6, L7, L8, L9, L10, L11, L12, L13, L14, L15, L16, L17, L18, L19, L20, L21, L22, L23, L24, L30, L31, L32, L40, L41, L42, L43, L45, L47, L48, L52, L57, L59, L60, L61, L63, L64, L72, L97, L99, L100, L122, L160, L161, L200, L255, L999, L1200, L1998, L99999, L100000, L1000005]
      exact k4
    · intro k j q1 q2 q3 q4
      rw [ms_off (by omega)]
  | succ d ih =>
    intro i n N s σ hi hn hN hX hs hO
    obtain ⟨n, rfl⟩ : ∃ k, n = k + 1 := ⟨n - 1, by omega⟩
    obtain ⟨⟨a1, a2, a3, a4, a5, a6⟩, -⟩ := id hs
    have hv : i < V := by omega
    have b := hO.2.1 i hv
    have mt := c_matures a2 h8 a6 hO.2.1 hv
    have ml := matN_le hO.2.1 hv
    have go : ∀ (s1 : DS) (σ1 : Mem), CD t M V w y s1 σ1 → OKD M V (N + 1) s1 → frT t M σ σ1 → vowsD X y V w nth (d + 1) i s = vowsD X y V w nth d (i + 1) s1 →
        ∃ σ', f_X6_liveWeek_b62 t (ι nth) n σ1 (ι (i + 1)) = some σ' ∧ CD t M V (w + 1) y (vowsD X y V w nth (d + 1) i s) σ' ∧ OKD M V (N + (d + 1)) (vowsD X y V w nth (d + 1) i s) ∧ frT t M σ σ' := by
      intro s1 σ1 q1 q2 q3 q4
      obtain ⟨σ', g1, g2, g3, g4⟩ := ih (i + 1) n (N + 1) s1 σ1 (by omega) (by omega) (by omega) (CXT_T ht hM hX q3) q1 q2
      refine ⟨σ', g1, by rw [q4]; exact g2, ?_, q3.tr g4⟩
      rw [q4, show N + (d + 1) = N + 1 + d by omega]
      exact g3
    have up1 : OKD M V (N + 1) s := by
      obtain ⟨h1, h2, h3, h4⟩ := hO
      exact ⟨h1, h2, by omega, h4⟩
    by_cases hz : s.2.1 i 4 = 0
    · by_cases hd : matN s.2.1 i ≤ w
      · have hdue := OKD_due (X := X) (y := y) (w := w) (nth := nth) hM hO hv
        obtain ⟨pp, pn⟩ := c_pays ht hM h8 hy hX hOX (by omega) hs hO hv
        have e0 : vowsD X y V w nth (d + 1) i s = vowsD X y V w nth d (i + 1) (dueD X y V w nth i s) := by
          show vowsD X y V w nth d (i + 1) (if _ then _ else _) = _
          rw [if_pos ⟨hz, hd⟩]
        by_cases hp : s.2.1 i 2 ≤ cntA (s.1 (s.2.1 i 0))
        · obtain ⟨σ1, q1, q2, q3⟩ := pp hp
          have ed : dueD X y V w nth i s = payD X y V w i s := by unfold dueD; rw [if_pos hp]
          rw [ed] at e0 hdue
          obtain ⟨σ', g1, g2⟩ := go _ σ1 q2 hdue q3 e0
          refine ⟨σ', ?_, g2⟩
          unfold f_X6_liveWeek_b62
          simp (disch := omega) only [a2, a3, cb_4 a6, hz, mt, q1, f_X6_liveWeek_b130, ↓reduceIte, eq_self, Bool.false_eq_true, reduceCtorEq, ob_s, ob2_s, od_e, onl_n, onl_s, ι_nat, ι_add, ι_mul, ι_sub, ι_addm, lt_t, lt_f, le_t, le_f, eq_t, eq_f, inb_t, inb_f, neq_f, neq_f2, neq_nf, nlt_t, nlt_f, nle_t, nle_f, ms_at, ms_off, up_at, up_off, L0, L1, L2, L3, L4, L5, L6, L7, L8, L9, L10, L11, L12, L13, L14, L15, L16, L17, L18, L19, L20, L21, L22, L23, L24, L30, L31, L32, L40, L41, L42, L43, L45, L47, L48, L52, L57, L59, L60, L61, L63, L64, L72, L97, L99, L100, L122, L160, L161, L200, L255, L999, L1200, L1998, L99999, L100000, L1000005]
          exact g1
        · have q1 := pn hp
          have lt := c_isLate hM h8 (by omega) hs hO hv
          by_cases hl : matN s.2.1 i + grcN (s.1 (s.2.1 i 0) 0) ≤ w
          · rw [if_pos hl] at lt
            have ed : dueD X y V w nth i s = shrD X y V w nth (s.2.1 i 0) s := by unfold dueD; rw [if_neg hp, if_pos hl]
            obtain ⟨σ1, r1, r2, r3⟩ := c_shear ht hM h8 hy hX hOX (by omega) hs hO b.1 hnt
            rw [ed] at e0 hdue
            obtain ⟨σ', g1, g2⟩ := go _ σ1 r2 hdue r3 e0
            refine ⟨σ', ?_, g2⟩
            unfold f_X6_liveWeek_b62
            simp (disch := omega) only [a2, a3, cb_4 a6, cb_0 a6, hz, mt, q1, lt, r1, f_X6_liveWeek_b130, ↓reduceIte, eq_self, Bool.false_eq_true, reduceCtorEq, ob_s, ob2_s, od_e, onl_n, onl_s, ι_nat, ι_add, ι_mul, ι_sub, ι_addm, lt_t, lt_f, le_t, le_f, eq_t, eq_f, inb_t, inb_f, neq_f, neq_f2, neq_nf, nlt_t, nlt_f, nle_t, nle_f, ms_at, ms_off, up_at, up_off, L0, L1, L2, L3, L4, L5, L6, L7, L8, L9, L10, L11, L12, L13, L14, L15, L16, L17, L18, L19, L20, L21, L22, L23, L24, L30, L31, L32, L40, L41, L42, L43, L45, L47, L48, L52, L57, L59, L60, L61, L63, L64, L72, L97, L99, L100, L122, L160, L161, L200, L255, L999, L1200, L1998, L99999, L100000, L1000005]
            exact g1
          · rw [if_neg hl] at lt
            have ed : dueD X y V w nth i s = s := by unfold dueD; rw [if_neg hp, if_neg hl]
            rw [ed] at e0
            obtain ⟨σ', g1, g2⟩ := go s σ hs up1 frT.rfl e0
            refine ⟨σ', ?_, g2⟩
            unfold f_X6_liveWeek_b62
            simp (disch := omega) only [a2, a3, cb_4 a6, cb_0 a6, hz, mt, q1, lt, f_X6_liveWeek_b130, ↓reduceIte, eq_self, Bool.false_eq_true, reduceCtorEq, ob_s, ob2_s, od_e, onl_n, onl_s, ι_nat, ι_add, ι_mul, ι_sub, ι_addm, lt_t, lt_f, le_t, le_f, eq_t, eq_f, inb_t, inb_f, neq_f, neq_f2, neq_nf, nlt_t, nlt_f, nle_t, nle_f, ms_at, ms_off, up_at, up_off, L0, L1, L2, L3, L4, L5, L6, L7, L8, L9, L10, L11, L12, L13, L14, L15, L16, L17, L18, L19, L20, L21, L22, L23, L24, L30, L31, L32, L40, L41, L42, L43, L45, L47, L48, L52, L57, L59, L60, L61, L63, L64, L72, L97, L99, L100, L122, L160, L161, L200, L255, L999, L1200, L1998, L99999, L100000, L1000005]
            exact g1
      · have e0 : vowsD X y V w nth (d + 1) i s = vowsD X y V w nth d (i + 1) s := by
          show vowsD X y V w nth d (i + 1) (if _ then _ else _) = _
          rw [if_neg (fun h => hd h.2)]
        obtain ⟨σ', g1, g2⟩ := go s σ hs up1 frT.rfl e0
        refine ⟨σ', ?_, g2⟩
        unfold f_X6_liveWeek_b62
        simp (disch := omega) only [a2, a3, cb_4 a6, hz, mt, f_X6_liveWeek_b130, ↓reduceIte, eq_self, Bool.false_eq_true, reduceCtorEq, ob_s, ob2_s, od_e, onl_n, onl_s, ι_nat, ι_add, ι_mul, ι_sub, ι_addm, lt_t, lt_f, le_t, le_f, eq_t, eq_f, inb_t, inb_f, neq_f, neq_f2, neq_nf, nlt_t, nlt_f, nle_t, nle_f, ms_at, ms_off, up_at, up_off, L0, L1, L2, L3, L4, L5, L6, L7, L8, L9, L10, L11, L12, L13, L14, L15, L16, L17, L18, L19, L20, L21, L22, L23, L24, L30, L31, L32, L40, L41, L42, L43, L45, L47, L48, L52, L57, L59, L60, L61, L63, L64, L72, L97, L99, L100, L122, L160, L161, L200, L255, L999, L1200, L1998, L99999, L100000, L1000005]
        exact g1
    · have e0 : vowsD X y V w nth (d + 1) i s = vowsD X y V w nth d (i + 1) s := by
        show vowsD X y V w nth d (i + 1) (if _ then _ else _) = _
        rw [if_neg (fun h => hz h.1)]
      obtain ⟨σ', g1, g2⟩ := go s σ hs up1 frT.rfl e0
      refine ⟨σ', ?_, g2⟩
      unfold f_X6_liveWeek_b62
      simp (disch := omega) only [a2, a3, cb_4 a6, mt, f_X6_liveWeek_b130, ↓reduceIte, eq_self, Bool.false_eq_true, reduceCtorEq, ob_s, ob2_s, od_e, onl_n, onl_s, ι_nat, ι_add, ι_mul, ι_sub, ι_addm, lt_t, lt_f, le_t, le_f, eq_t, eq_f, inb_t, inb_f, neq_f, neq_f2, neq_nf, nlt_t, nlt_f, nle_t, nle_f, ms_at, ms_off, up_at, up_off, L0, L1, L2, L3, L4, L5, L6, L7, L8, L9, L10, L11, L12, L13, L14, L15, L16, L17, L18, L19, L20, L21, L22, L23, L24, L30, L31, L32, L40, L41, L42, L43, L45, L47, L48, L52, L57, L59, L60, L61, L63, L64, L72, L97, L99, L100, L122, L160, L161, L200, L255, L999, L1200, L1998, L99999, L100000, L1000005]
      exact g1
