/-! THE PURE PART: live, image, back -/
theorem SH_of {t M V w y : Nat} {A B : TB2} {σ σ' : Mem} (hM : M ≤ 6) (hC : CT t M V w y A B σ') (hA : OKA M A) (h : SH t σ) (e : ∀ i, M ≤ i → i < 6 → σ' (t + 3 + i) 5 = σ (t + 3 + i) 5) : SH t σ' := by
  intro i hi
  by_cases c : i < M
  · have := hC.2.2.2.2.1 i c
    rw [this.2.2.2.2.2]
    have := (hA i c).2.2.2.2.2
    by_cases z : A i 5 = 0
    · rw [z]
      exact Or.inl rfl
    · have z1 : A i 5 = 1 := by omega
      rw [z1]
      exact Or.inr rfl
  · rw [e i (by omega) hi]
    exact h i hi
theorem OKK0 {N : Nat} : OKK N K0 := ⟨Nat.zero_le _, ⟨fun _ => rfl, fun _ => rfl⟩, Nat.zero_le _⟩
theorem brk_5 {m : Nat} : ∀ d i (B : TB2) v, brkD m d i B v 5 = B v 5 := by
  intro d
  induction d with
  | zero => intro i B v; rfl
  | succ d ih =>
    intro i B v
    show brkD m d (i + 1) (if B i 4 = 0 ∧ B i 0 = m then up B i 4 2 else B) v 5 = B v 5
    rw [ih]
    split
    · rw [up_off (by omega)]
    · rfl
theorem due_5 {X : XT} {y V w nth i v : Nat} {s : DS} : (dueD X y V w nth i s).2.1 v 5 = s.2.1 v 5 := by
  unfold dueD
  split
  · show up s.2.1 i 4 1 v 5 = _
    rw [up_off (by omega)]
  · split
    · exact brk_5 V 0 s.2.1 v
    · rfl
theorem vows_5 {X : XT} {y V w nth v : Nat} : ∀ d i (s : DS), (vowsD X y V w nth d i s).2.1 v 5 = s.2.1 v 5 := by
  intro d
  induction d with
  | zero => intro i s; rfl
  | succ d ih =>
    intro i s
    show (vowsD X y V w nth d (i + 1) (if s.2.1 i 4 = 0 ∧ matN s.2.1 i ≤ w then dueD X y V w nth i s else s)).2.1 v 5 = _
    rw [ih]
    split
    · exact due_5
    · rfl
theorem OKS_week {X : XT} {y M V w nth : Nat} {s : DS} (h : OKS V s.2.1) : OKS V (weekD X y M V w nth s).2.1 := by
  intro v hv u hu
  have e : ∀ v, (weekD X y M V w nth s).2.1 v 5 = s.2.1 v 5 := fun v => vows_5 V 0 _
  rw [e] at hu ⊢
  exact h v hv u hu
theorem op_live : OP_live RR := by
  intro σ τ hR
  obtain ⟨M, V, w, y, A, B, T, X, h0, hA, hB, hOX, hC, hS, hS9, hF, hCX, hFX, hI, hSh, hD⟩ := id hR
  obtain ⟨hM, hV, hw, hy⟩ := id h0
  obtain ⟨hB, hBs⟩ := id hB
  obtain ⟨a1, a2, a3, a4, a5, a6⟩ := id hC
  obtain ⟨b1, b2, b3, b4, b5, b6⟩ := id hF
  have hT := hOX.2.1
  have c1 := hCX.1
  have f1 := hFX.1
  by_cases h9 : w = 999
  · refine ⟨-ι 4, σ, τ, ?_, ?_, hR, rfl⟩
    · unfold f_X8_live
      simp (disch := omega) only [a3, ↓reduceIte, eq_self, Bool.false_eq_true, reduceCtorEq, ob_s, ob2_s, od_e, onl_n, onl_s, ι_nat, ι_add, ι_mul, ι_sub, ι_addm, lt_t, lt_f, le_t, le_f, eq_t, eq_f, inb_t, inb_f, neq_f, neq_f2, neq_nf, nlt_t, nlt_f, nle_t, nle_f, ms_at, ms_off, up_at, up_off, L0, L1, L2, L3, L4, L5, L6, L7, L8, L9, L10, L11, L12, L13, L14, L15, L16, L17, L18, L19, L20, L21, L22, L23, L24, L30, L31, L32, L40, L41, L42, L43, L45, L47, L48, L52, L57, L59, L60, L61, L63, L64, L72, L97, L99, L100, L122, L160, L161, L200, L255, L999, L1200, L1998, L99999, L100000, L1000005]
    · unfold f_X9_live
      simp (disch := omega) only [b3, ↓reduceIte, eq_self, Bool.false_eq_true, reduceCtorEq, ob_s, ob2_s, od_e, onl_n, onl_s, ι_nat, ι_add, ι_mul, ι_sub, ι_addm, lt_t, lt_f, le_t, le_f, eq_t, eq_f, inb_t, inb_f, neq_f, neq_f2, neq_nf, nlt_t, nlt_f, nle_t, nle_f, ms_at, ms_off, up_at, up_off, L0, L1, L2, L3, L4, L5, L6, L7, L8, L9, L10, L11, L12, L13, L14, L15, L16, L17, L18, L19, L20, L21, L22, L23, L24, L30, L31, L32, L40, L41, L42, L43, L45, L47, L48, L52, L57, L59, L60, L61, L63, L64, L72, L97, L99, L100, L122, L160, L161, L200, L255, L999, L1200, L1998, L99999, L100000, L1000005]
  · obtain ⟨ck, cf⟩ := c_tally (t := 15) (σ := σ)
    obtain ⟨fk, ff⟩ := r_begins (τ := τ)
    have hC1 : CT 15 M V w y A B (f_X6_startTally σ 15) := CT_fr hM hV (fun k j h1 h2 h3 => cf k j (by omega)) hC
    have hF1 : FT M V w y A B (f_X9_begins τ) := FT_fr hM hV (fun k j h => ff k j (by omega)) hF
    have hX1 : CXT T X (f_X6_startTally σ 15) := CXT_fr (fun k j h => cf k j (by omega)) hCX
    have hY1 : FXT T X (f_X9_begins τ) := FXT_fr (fun k j h => ff k j (by omega)) hFX
    have hO : OKD M V 0 (A, B, K0) := ⟨hA, hB, OKK0⟩
    obtain ⟨σ', g1, ⟨g2, g3⟩, g4, g5⟩ := c_week (N := 0) (nth := 0) (by omega) hM hV hy hX1 hOX (by omega) (by omega) (by omega) (⟨hC1, ck⟩ : CD 15 M V w y (A, B, K0) _) hO
    obtain ⟨τ', q1, ⟨q2, q3⟩, q5⟩ := r_week (N := 0) (nth := 0) hM hV hy hY1 hOX (by omega) (by omega) (by omega) (⟨hF1, fk⟩ : FD M V w y (A, B, K0) _) hO
    refine ⟨ι ((weekD X y M V w 0 (A, B, K0)).2.2 0), σ', τ', ?_, ?_, ?_⟩
    · unfold f_X8_live
      simp (disch := omega) only [a3, g1, g3.1, ↓reduceIte, eq_self, Bool.false_eq_true, reduceCtorEq, ob_s, ob2_s, od_e, onl_n, onl_s, ι_nat, ι_add, ι_mul, ι_sub, ι_addm, lt_t, lt_f, le_t, le_f, eq_t, eq_f, inb_t, inb_f, neq_f, neq_f2, neq_nf, nlt_t, nlt_f, nle_t, nle_f, ms_at, ms_off, up_at, up_off, L0, L1, L2, L3, L4, L5, L6, L7, L8, L9, L10, L11, L12, L13, L14, L15, L16, L17, L18, L19, L20, L21, L22, L23, L24, L30, L31, L32, L40, L41, L42, L43, L45, L47, L48, L52, L57, L59, L60, L61, L63, L64, L72, L97, L99, L100, L122, L160, L161, L200, L255, L999, L1200, L1998, L99999, L100000, L1000005]
    · unfold f_X9_live
      simp (disch := omega) only [b3, q1, q3.1, ↓reduceIte, eq_self, Bool.false_eq_true, reduceCtorEq, ob_s, ob2_s, od_e, onl_n, onl_s, ι_nat, ι_add, ι_mul, ι_sub, ι_addm, lt_t, lt_f, le_t, le_f, eq_t, eq_f, inb_t, inb_f, neq_f, neq_f2, neq_nf, nlt_t, nlt_f, nle_t, nle_f, ms_at, ms_off, up_at, up_off, L0, L1, L2, L3, L4, L5, L6, L7, L8, L9, L10, L11, L12, L13, L14, L15, L16, L17, L18, L19, L20, L21, L22, L23, L24, L30, L31, L32, L40, L41, L42, L43, L45, L47, L48, L52, L57, L59, L60, L61, L63, L64, L72, L97, L99, L100, L122, L160, L161, L200, L255, L999, L1200, L1998, L99999, L100000, L1000005]
    · refine RR_upd hOX hS9 hCX hFX hI hSh hD (Nat.le_refl M) ⟨hM, hV, by omega, hy⟩ g4.1 ⟨g4.2.1, OKS_week (s := (A, B, K0)) hBs⟩ g2 ?_ q2 ?_ ?_
      · refine SH_of hM g2 g4.1 hS (fun i h1 h2 => ?_)
        rw [g5 _ _ (by omega) (by omega) (by omega) (by omega), cf _ _ (by omega)]
      · intro k j h
        unfold oC at h
        rw [g5 _ _ (by omega) (by omega) (by omega) (by omega), cf _ _ (by omega)]
      · intro k j h
        unfold oR at h
        rw [q5 _ _ (by omega) (by omega) (by omega) (by omega) (by omega), ff _ _ (by omega)]
theorem r_image2 : ∀ d i n (τ : Mem), i + d = 48 → d < n → ∃ τ', f_X9_image_b65 n τ (ι i) = some (τ' 0 0, τ') ∧ ∀ k j, τ' k j = if k = 8 ∧ 24 + i ≤ j ∧ j < 72 then τ 4 (j - 24) else τ k j := by
  intro d
  induction d with
  | zero =>
    intro i n τ hi hn
    obtain ⟨n, rfl⟩ : ∃ k, n = k + 1 := ⟨n - 1, by omega⟩
    refine ⟨τ, ?_, fun k j => by rw [if_neg (by omega)]⟩
    unfold f_X9_image_b65
    simp (disch := omega) only [↓reduceIte, eq_self, Bool.false_eq_true, reduceCtorEq, ob_s, ob2_s, od_e, onl_n, onl_s, ι_nat, ι_add, ι_mul, ι_sub, ι_addm, lt_t, lt_f, le_t, le_f, eq_t, eq_f, inb_t, inb_f, neq_f, neq_f2, neq_nf, nlt_t, nlt_f, nle_t, nle_f, ms_at, ms_off, up_at, up_off, L0, L1, L2, L3, L4, L5, L6, L7, L8, L9, L10, L11, L12, L13, L14, L15, L16, L17, L18, L19, L20, L21, L22, L23, L24, L30, L31, L32, L40, L41, L42, L43, L45, L47, L48, L52, L57, L59, L60, L61, L63, L64, L72, L97, L99, L100, L122, L160, L161, L200, L255, L999, L1200, L1998, L99999, L100000, L1000005]
  | succ d ih =>
    intro i n τ hi hn
    obtain ⟨n, rfl⟩ : ∃ k, n = k + 1 := ⟨n - 1, by omega⟩
    obtain ⟨τ', g1, g2⟩ := ih (i + 1) n (ms τ 8 (24 + i) (τ 4 i)) (by omega) (by omega)
    refine ⟨τ', ?_, ?_⟩
    · unfold f_X9_image_b65
      simp (disch := omega) only [↓reduceIte, eq_self, Bool.false_eq_true, reduceCtorEq, ob_s, ob2_s, od_e, onl_n, onl_s, ι_nat, ι_add, ι_mul, ι_sub, ι_addm, lt_t, lt_f, le_t, le_f, eq_t, eq_f, inb_t, inb_f, neq_f, neq_f2, neq_nf, nlt_t, nlt_f, nle_t, nle_f, ms_at, ms_off, up_at, up_off, L0, L1, L2, L3, L4, L5, L6, L7, L8, L9, L10, L11, L12, L13, L14, L15, L16, L17, L18, L19, L20, L21, L22, L23, L24, L30, L31, L32, L40, L41, L42, L43, L45, L47, L48, L52, L57, L59, L60, L61, L63, L64, L72, L97, L99, L100, L122, L160, L161, L200, L255, L999, L1200, L1998, L99999, L100000, L1000005]
      exact g1
    · intro k j
      rw [g2 k j]
      by_cases h3 : k = 8 ∧ 24 + i ≤ j ∧ j < 72
      · rw [if_pos h3]
        by_cases h2 : j = 24 + i
        · subst h2
          rw [if_neg (by omega), h3.1, ms_at rfl rfl, Nat.add_sub_cancel_left]
        · rw [if_pos (by omega), ms_off (by omega)]
      · rw [if_neg h3, if_neg (by omega), ms_off (by omega)]
theorem r_image1 : ∀ d i n (τ : Mem), i + d = 24 → d < n → ∃ τ', f_X9_image_b39 n τ (ι i) = f_X9_image_b65 FU τ' (ι 0) ∧ ∀ k j, τ' k j = if k = 8 ∧ i ≤ j ∧ j < 24 then τ 3 j else τ k j := by
  intro d
  induction d with
  | zero =>
    intro i n τ hi hn
    obtain ⟨n, rfl⟩ : ∃ k, n = k + 1 := ⟨n - 1, by omega⟩
    refine ⟨τ, ?_, fun k j => by rw [if_neg (by omega)]⟩
    rw [f_X9_image_b39]
    simp (disch := omega) only [↓reduceIte, eq_self, Bool.false_eq_true, reduceCtorEq, ob_s, ob2_s, od_e, onl_n, onl_s, ι_nat, ι_add, ι_mul, ι_sub, ι_addm, lt_t, lt_f, le_t, le_f, eq_t, eq_f, inb_t, inb_f, neq_f, neq_f2, neq_nf, nlt_t, nlt_f, nle_t, nle_f, ms_at, ms_off, up_at, up_off, L0, L1, L2, L3, L4, L5, L6, L7, L8, L9, L10, L11, L12, L13, L14, L15, L16, L17, L18, L19, L20, L21, L22, L23, L24, L30, L31, L32, L40, L41, L42, L43, L45, L47, L48, L52, L57, L59, L60, L61, L63, L64, L72, L97, L99, L100, L122, L160, L161, L200, L255, L999, L1200, L1998, L99999, L100000, L1000005]
  | succ d ih =>
    intro i n τ hi hn
    obtain ⟨n, rfl⟩ : ∃ k, n = k + 1 := ⟨n - 1, by omega⟩
    obtain ⟨τ', g1, g2⟩ := ih (i + 1) n (ms τ 8 i (τ 3 i)) (by omega) (by omega)
    refine ⟨τ', ?_, ?_⟩
    · rw [f_X9_image_b39]
      simp (disch := omega) only [↓reduceIte, eq_self, Bool.false_eq_true, reduceCtorEq, ob_s, ob2_s, od_e, onl_n, onl_s, ι_nat, ι_add, ι_mul, ι_sub, ι_addm, lt_t, lt_f, le_t, le_f, eq_t, eq_f, inb_t, inb_f, neq_f, neq_f2, neq_nf, nlt_t, nlt_f, nle_t, nle_f, ms_at, ms_off, up_at, up_off, L0, L1, L2, L3, L4, L5, L6, L7, L8, L9, L10, L11, L12, L13, L14, L15, L16, L17, L18, L19, L20, L21, L22, L23, L24, L30, L31, L32, L40, L41, L42, L43, L45, L47, L48, L52, L57, L59, L60, L61, L63, L64, L72, L97, L99, L100, L122, L160, L161, L200, L255, L999, L1200, L1998, L99999, L100000, L1000005]
      exact g1
    · intro k j
      rw [g2 k j]
      by_cases h3 : k = 8 ∧ i ≤ j ∧ j < 24
      · rw [if_pos h3]
        by_cases h2 : j = i
        · subst h2
          rw [if_neg (by omega), h3.1, ms_at rfl rfl]
        · rw [if_pos (by omega), ms_off (by omega)]
      · rw [if_neg h3, if_neg (by omega), ms_off (by omega)]
theorem r_back2 : ∀ d i n (τ : Mem), i + d = 48 → d < n → ∃ τ', f_X9_back_b70 n τ (ι i) = some (τ' 0 0, τ') ∧ ∀ k j, τ' k j = if k = 4 ∧ i ≤ j ∧ j < 48 then τ 8 (24 + j) else τ k j := by
  intro d
  induction d with
  | zero =>
    intro i n τ hi hn
    obtain ⟨n, rfl⟩ : ∃ k, n = k + 1 := ⟨n - 1, by omega⟩
    refine ⟨τ, ?_, fun k j => by rw [if_neg (by omega)]⟩
    unfold f_X9_back_b70
    simp (disch := omega) only [↓reduceIte, eq_self, Bool.false_eq_true, reduceCtorEq, ob_s, ob2_s, od_e, onl_n, onl_s, ι_nat, ι_add, ι_mul, ι_sub, ι_addm, lt_t, lt_f, le_t, le_f, eq_t, eq_f, inb_t, inb_f, neq_f, neq_f2, neq_nf, nlt_t, nlt_f, nle_t, nle_f, ms_at, ms_off, up_at, up_off, L0, L1, L2, L3, L4, L5, L6, L7, L8, L9, L10, L11, L12, L13, L14, L15, L16, L17, L18, L19, L20, L21, L22, L23, L24, L30, L31, L32, L40, L41, L42, L43, L45, L47, L48, L52, L57, L59, L60, L61, L63, L64, L72, L97, L99, L100, L122, L160, L161, L200, L255, L999, L1200, L1998, L99999, L100000, L1000005]
  | succ d ih =>
    intro i n τ hi hn
    obtain ⟨n, rfl⟩ : ∃ k, n = k + 1 := ⟨n - 1, by omega⟩
    obtain ⟨τ', g1, g2⟩ := ih (i + 1) n (ms τ 4 i (τ 8 (24 + i))) (by omega) (by omega)
    refine ⟨τ', ?_, ?_⟩
    · unfold f_X9_back_b70
      simp (disch := omega) only [↓reduceIte, eq_self, Bool.false_eq_true, reduceCtorEq, ob_s, ob2_s, od_e, onl_n, onl_s, ι_nat, ι_add, ι_mul, ι_sub, ι_addm, lt_t, lt_f, le_t, le_f, eq_t, eq_f, inb_t, inb_f, neq_f, neq_f2, neq_nf, nlt_t, nlt_f, nle_t, nle_f, ms_at, ms_off, up_at, up_off, L0, L1, L2, L3, L4, L5, L6, L7, L8, L9, L10, L11, L12, L13, L14, L15, L16, L17, L18, L19, L20, L21, L22, L23, L24, L30, L31, L32, L40, L41, L42, L43, L45, L47, L48, L52, L57, L59, L60, L61, L63, L64, L72, L97, L99, L100, L122, L160, L161, L200, L255, L999, L1200, L1998, L99999, L100000, L1000005]
      exact g1
    · intro k j
      rw [g2 k j]
      by_cases h3 : k = 4 ∧ i ≤ j ∧ j < 48
      · rw [if_pos h3]
        by_cases h2 : j = i
        · subst h2
          rw [if_neg (by omega), h3.1, ms_at rfl rfl]
        · rw [if_pos (by omega), ms_off (by omega)]
      · rw [if_neg h3, if_neg (by omega), ms_off (by omega)]
theorem r_back1 : ∀ d i n (τ : Mem), i + d = 24 → d < n → ∃ τ', f_X9_back_b44 n τ (ι i) = f_X9_back_b70 FU τ' (ι 0) ∧ ∀ k j, τ' k j = if k = 3 ∧ i ≤ j ∧ j < 24 then τ 8 j else τ k j := by
  intro d
  induction d with
  | zero =>
    intro i n τ hi hn
    obtain ⟨n, rfl⟩ : ∃ k, n = k + 1 := ⟨n - 1, by omega⟩
    refine ⟨τ, ?_, fun k j => by rw [if_neg (by omega)]⟩
    rw [f_X9_back_b44]
    simp (disch := omega) only [↓reduceIte, eq_self, Bool.false_eq_true, reduceCtorEq, ob_s, ob2_s, od_e, onl_n, onl_s, ι_nat, ι_add, ι_mul, ι_sub, ι_addm, lt_t, lt_f, le_t, le_f, eq_t, eq_f, inb_t, inb_f, neq_f, neq_f2, neq_nf, nlt_t, nlt_f, nle_t, nle_f, ms_at, ms_off, up_at, up_off, L0, L1, L2, L3, L4, L5, L6, L7, L8, L9, L10, L11, L12, L13, L14, L15, L16, L17, L18, L19, L20, L21, L22, L23, L24, L30, L31, L32, L40, L41, L42, L43, L45, L47, L48, L52, L57, L59, L60, L61, L63, L64, L72, L97, L99, L100, L122, L160, L161, L200, L255, L999, L1200, L1998, L99999, L100000, L1000005]
  | succ d ih =>
    intro i n τ hi hn
    obtain ⟨n, rfl⟩ : ∃ k, n = k + 1 := ⟨n - 1, by omega⟩
    obtain ⟨τ', g1, g2⟩ := ih (i + 1) n (ms τ 3 i (τ 8 i)) (by omega) (by omega)
    refine ⟨τ', ?_, ?_⟩
    · rw [f_X9_back_b44]
      simp (disch := omega) only [↓reduceIte, eq_self, Bool.false_eq_true, reduceCtorEq, ob_s, ob2_s, od_e, onl_n, onl_s, ι_nat, ι_add, ι_mul, ι_sub, ι_addm, lt_t, lt_f, le_t, le_f, eq_t, eq_f, inb_t, inb_f, neq_f, neq_f2, neq_nf, nlt_t, nlt_f, nle_t, nle_f, ms_at, ms_off, up_at, up_off, L0, L1, L2, L3, L4, L5, L6, L7, L8, L9, L10, L11, L12, L13, L14, L15, L16, L17, L18, L19, L20, L21, L22, L23, L24, L30, L31, L32, L40, L41, L42, L43, L45, L47, L48, L52, L57, L59, L60, L61, L63, L64, L72, L97, L99, L100, L122, L160, L161, L200, L255, L999, L1200, L1998, L99999, L100000, L1000005]
      exact g1
    · intro k j
      rw [g2 k j]
      by_cases h3 : k = 3 ∧ i ≤ j ∧ j < 24
      · rw [if_pos h3]
        by_cases h2 : j = i
        · subst h2
          rw [if_neg (by omega), h3.1, ms_at rfl rfl]
        · rw [if_pos (by omega), ms_off (by omega)]
      · rw [if_neg h3, if_neg (by omega), ms_off (by omega)]
theorem od_x {α β : Type} {v : α} {k : α → β} : od v k = k v := by rw [od]
theorem op_image : OP_image RR := by
  intro σ τ hR
  obtain ⟨M, V, w, y, A, B, T, X, h0, hA, hB, hOX, hC, hS, hS9, hF, hCX, hFX, hI, hSh, hD⟩ := id hR
  obtain ⟨hM, hV, hw, hy⟩ := id h0
  obtain ⟨hB, hBs⟩ := id hB
  obtain ⟨a1, a2, a3, a4, a5, a6⟩ := id hC
  obtain ⟨b1, b2, b3, b4, b5, b6⟩ := id hF
  have hT := hOX.2.1
  have c1 := hCX.1
  have f1 := hFX.1
  obtain ⟨σ1, g1, g2⟩ := c_become (t := 49) (u := 15) (by omega) hS
  let τ0 := ms (ms (ms (ms (ms τ 0 13 (ι 1)) 0 14 (ι M)) 0 15 (ι V)) 0 16 (ι w)) 0 17 (ι y)
  have e0 : ∀ k j, ¬ (k = 0 ∧ 13 ≤ j ∧ j ≤ 17) → τ0 k j = τ k j := by
    intro k j h
    show ms (ms (ms (ms (ms τ 0 13 (ι 1)) 0 14 (ι M)) 0 15 (ι V)) 0 16 (ι w)) 0 17 (ι y) k j = _
    simp (disch := omega) only [ms_off]
  obtain ⟨τ1, p1, p2⟩ := r_image1 24 0 FU τ0 (by omega) (by unfold FU; omega)
  obtain ⟨τ2, q1, q2⟩ := r_image2 48 0 FU τ1 (by omega) (by unfold FU; omega)
  have er : ∀ k j, k ≠ 8 → τ2 k j = τ0 k j := by
    intro k j h
    rw [q2, if_neg (by omega), p2, if_neg (by omega)]
  have e8 : ∀ j, j < 24 → τ2 8 j = τ 3 j := by
    intro j h
    rw [q2, if_neg (by omega), p2, if_pos (by omega), e0 _ _ (by omega)]
  have e8b : ∀ j, j < 48 → τ2 8 (24 + j) = τ 4 j := by
    intro j h
    rw [q2, if_pos (by omega), p2, if_neg (by omega), e0 _ _ (by omega), Nat.add_sub_cancel_left]
  have en : ∀ k j, k ≠ 8 → ¬ (k = 0 ∧ 13 ≤ j ∧ j ≤ 17) → τ2 k j = τ k j := fun k j h1 h2 => (er k j h1).trans (e0 k j h2)
  have cn : ∀ k j, ¬ (49 ≤ k ∧ k < 66) → ¬ (k = 0 ∧ j = 5) → ms σ1 0 5 (ι 1) k j = σ k j := by
    intro k j h1 h2
    rw [ms_off (by omega), g2, if_neg (by omega)]
  refine ⟨ι M, ms σ1 0 5 (ι 1), τ2, ?_, ?_, ⟨M, V, w, y, A, B, T, X, h0, hA, ⟨hB, hBs⟩, hOX, ?_, ?_, ?_, ?_, ?_, ?_, Or.inr ⟨?_, ?_, M, V, w, y, A, B, ⟨Nat.le_refl M, hV, hw, hy⟩, hA, ⟨hB, hBs⟩, ?_, ?_⟩, ?_, ?_⟩, ?_⟩
  · have e : σ1 15 3 = ι M := by rw [g2, if_neg (by omega)]; exact a1
    unfold f_X8_image
    simp (disch := omega) only [g1, e, ↓reduceIte, eq_self, Bool.false_eq_true, reduceCtorEq, ob_s, ob2_s, od_e, onl_n, onl_s, ι_nat, ι_add, ι_mul, ι_sub, ι_addm, lt_t, lt_f, le_t, le_f, eq_t, eq_f, inb_t, inb_f, neq_f, neq_f2, neq_nf, nlt_t, nlt_f, nle_t, nle_f, ms_at, ms_off, up_at, up_off, L0, L1, L2, L3, L4, L5, L6, L7, L8, L9, L10, L11, L12, L13, L14, L15, L16, L17, L18, L19, L20, L21, L22, L23, L24, L30, L31, L32, L40, L41, L42, L43, L45, L47, L48, L52, L57, L59, L60, L61, L63, L64, L72, L97, L99, L100, L122, L160, L161, L200, L255, L999, L1200, L1998, L99999, L100000, L1000005]
  · unfold f_X9_image
    simp only [od_x]
    have z0 : τ2 0 0 = ι M := (en 0 0 (by omega) (by omega)).trans b1
    have pq : f_X9_image_b39 FU (ms (ms (ms (ms (ms τ 0 13 (ι 1)) 0 14 (ι M)) 0 15 (ι V)) 0 16 (ι w)) 0 17 (ι y)) (ι 0) = some (ι M, τ2) := by
      refine Eq.trans (b := some (τ2 0 0, τ2)) (p1.trans q1) ?_
      rw [z0]
    simp (disch := omega) only [b1, b2, b3, b4, pq, ↓reduceIte, eq_self, Bool.false_eq_true, reduceCtorEq, ob_s, ob2_s, od_e, onl_n, onl_s, ι_nat, ι_add, ι_mul, ι_sub, ι_addm, lt_t, lt_f, le_t, le_f, eq_t, eq_f, inb_t, inb_f, neq_f, neq_f2, neq_nf, nlt_t, nlt_f, nle_t, nle_f, ms_at, ms_off, up_at, up_off, L0, L1, L2, L3, L4, L5, L6, L7, L8, L9, L10, L11, L12, L13, L14, L15, L16, L17, L18, L19, L20, L21, L22, L23, L24, L30, L31, L32, L40, L41, L42, L43, L45, L47, L48, L52, L57, L59, L60, L61, L63, L64, L72, L97, L99, L100, L122, L160, L161, L200, L255, L999, L1200, L1998, L99999, L100000, L1000005]
  · exact CT_fr hM hV (fun k j h1 h2 h3 => cn k j (by omega) (by omega)) hC
  · intro i hi
    rw [cn _ _ (by omega) (by omega)]
    exact hS i hi
  · have := SH_move hS g2
    intro i hi
    rw [ms_off (by omega)]
    exact this i hi
  · exact FT_fr hM hV (fun k j h => en k j (by omega) (by omega)) hF
  · exact CXT_fr (fun k j h => cn k j (by omega) (by omega)) hCX
  · exact FXT_fr (fun k j h => en k j (by omega) (by omega)) hFX
  · simp (disch := omega) only [↓reduceIte, eq_self, Bool.false_eq_true, reduceCtorEq, ob_s, ob2_s, od_e, onl_n, onl_s, ι_nat, ι_add, ι_mul, ι_sub, ι_addm, lt_t, lt_f, le_t, le_f, eq_t, eq_f, inb_t, inb_f, neq_f, neq_f2, neq_nf, nlt_t, nlt_f, nle_t, nle_f, ms_at, ms_off, up_at, up_off, L0, L1, L2, L3, L4, L5, L6, L7, L8, L9, L10, L11, L12, L13, L14, L15, L16, L17, L18, L19, L20, L21, L22, L23, L24, L30, L31, L32, L40, L41, L42, L43, L45, L47, L48, L52, L57, L59, L60, L61, L63, L64, L72, L97, L99, L100, L122, L160, L161, L200, L255, L999, L1200, L1998, L99999, L100000, L1000005]
  · rw [er _ _ (by omega)]
    show ms (ms (ms (ms (ms τ 0 13 (ι 1)) 0 14 (ι M)) 0 15 (ι V)) 0 16 (ι w)) 0 17 (ι y) 0 13 = _
    simp (disch := omega) only [↓reduceIte, eq_self, Bool.false_eq_true, reduceCtorEq, ob_s, ob2_s, od_e, onl_n, onl_s, ι_nat, ι_add, ι_mul, ι_sub, ι_addm, lt_t, lt_f, le_t, le_f, eq_t, eq_f, inb_t, inb_f, neq_f, neq_f2, neq_nf, nlt_t, nlt_f, nle_t, nle_f, ms_at, ms_off, up_at, up_off, L0, L1, L2, L3, L4, L5, L6, L7, L8, L9, L10, L11, L12, L13, L14, L15, L16, L17, L18, L19, L20, L21, L22, L23, L24, L30, L31, L32, L40, L41, L42, L43, L45, L47, L48, L52, L57, L59, L60, L61, L63, L64, L72, L97, L99, L100, L122, L160, L161, L200, L255, L999, L1200, L1998, L99999, L100000, L1000005]
  · exact CT_fr hM hV (fun k j h1 h2 h3 => by rw [ms_off (by omega)]) (CT_move hM hV hC g2)
  · refine ⟨?_, ?_, ?_, ?_, ?_, ?_⟩
    · show τ2 0 14 = _
      rw [er _ _ (by omega)]
      show ms (ms (ms (ms (ms τ 0 13 (ι 1)) 0 14 (ι M)) 0 15 (ι V)) 0 16 (ι w)) 0 17 (ι y) 0 14 = _
      simp (disch := omega) only [↓reduceIte, eq_self, Bool.false_eq_true, reduceCtorEq, ob_s, ob2_s, od_e, onl_n, onl_s, ι_nat, ι_add, ι_mul, ι_sub, ι_addm, lt_t, lt_f, le_t, le_f, eq_t, eq_f, inb_t, inb_f, neq_f, neq_f2, neq_nf, nlt_t, nlt_f, nle_t, nle_f, ms_at, ms_off, up_at, up_off, L0, L1, L2, L3, L4, L5, L6, L7, L8, L9, L10, L11, L12, L13, L14, L15, L16, L17, L18, L19, L20, L21, L22, L23, L24, L30, L31, L32, L40, L41, L42, L43, L45, L47, L48, L52, L57, L59, L60, L61, L63, L64, L72, L97, L99, L100, L122, L160, L161, L200, L255, L999, L1200, L1998, L99999, L100000, L1000005]
    · show τ2 0 15 = _
      rw [er _ _ (by omega)]
      show ms (ms (ms (ms (ms τ 0 13 (ι 1)) 0 14 (ι M)) 0 15 (ι V)) 0 16 (ι w)) 0 17 (ι y) 0 15 = _
      simp (disch := omega) only [↓reduceIte, eq_self, Bool.false_eq_true, reduceCtorEq, ob_s, ob2_s, od_e, onl_n, onl_s, ι_nat, ι_add, ι_mul, ι_sub, ι_addm, lt_t, lt_f, le_t, le_f, eq_t, eq_f, inb_t, inb_f, neq_f, neq_f2, neq_nf, nlt_t, nlt_f, nle_t, nle_f, ms_at, ms_off, up_at, up_off, L0, L1, L2, L3, L4, L5, L6, L7, L8, L9, L10, L11, L12, L13, L14, L15, L16, L17, L18, L19, L20, L21, L22, L23, L24, L30, L31, L32, L40, L41, L42, L43, L45, L47, L48, L52, L57, L59, L60, L61, L63, L64, L72, L97, L99, L100, L122, L160, L161, L200, L255, L999, L1200, L1998, L99999, L100000, L1000005]
    · show τ2 0 16 = _
      rw [er _ _ (by omega)]
      show ms (ms (ms (ms (ms τ 0 13 (ι 1)) 0 14 (ι M)) 0 15 (ι V)) 0 16 (ι w)) 0 17 (ι y) 0 16 = _
      simp (disch := omega) only [↓reduceIte, eq_self, Bool.false_eq_true, reduceCtorEq, ob_s, ob2_s, od_e, onl_n, onl_s, ι_nat, ι_add, ι_mul, ι_sub, ι_addm, lt_t, lt_f, le_t, le_f, eq_t, eq_f, inb_t, inb_f, neq_f, neq_f2, neq_nf, nlt_t, nlt_f, nle_t, nle_f, ms_at, ms_off, up_at, up_off, L0, L1, L2, L3, L4, L5, L6, L7, L8, L9, L10, L11, L12, L13, L14, L15, L16, L17, L18, L19, L20, L21, L22, L23, L24, L30, L31, L32, L40, L41, L42, L43, L45, L47, L48, L52, L57, L59, L60, L61, L63, L64, L72, L97, L99, L100, L122, L160, L161, L200, L255, L999, L1200, L1998, L99999, L100000, L1000005]
    · show τ2 0 17 = _
      rw [er _ _ (by omega)]
      show ms (ms (ms (ms (ms τ 0 13 (ι 1)) 0 14 (ι M)) 0 15 (ι V)) 0 16 (ι w)) 0 17 (ι y) 0 17 = _
      simp (disch := omega) only [↓reduceIte, eq_self, Bool.false_eq_true, reduceCtorEq, ob_s, ob2_s, od_e, onl_n, onl_s, ι_nat, ι_add, ι_mul, ι_sub, ι_addm, lt_t, lt_f, le_t, le_f, eq_t, eq_f, inb_t, inb_f, neq_f, neq_f2, neq_nf, nlt_t, nlt_f, nle_t, nle_f, ms_at, ms_off, up_at, up_off, L0, L1, L2, L3, L4, L5, L6, L7, L8, L9, L10, L11, L12, L13, L14, L15, L16, L17, L18, L19, L20, L21, L22, L23, L24, L30, L31, L32, L40, L41, L42, L43, L45, L47, L48, L52, L57, L59, L60, L61, L63, L64, L72, L97, L99, L100, L122, L160, L161, L200, L255, L999, L1200, L1998, L99999, L100000, L1000005]
    · intro i hi
      show τ2 1 i = _ ∧ τ2 2 i = _ ∧ τ2 8 (4 * i) = _ ∧ τ2 8 (4 * i + 1) = _ ∧ τ2 8 (4 * i + 2) = _ ∧ τ2 8 (4 * i + 3) = _
      rw [en _ _ (by omega) (by omega), en _ _ (by omega) (by omega), e8 _ (by omega), e8 _ (by omega), e8 _ (by omega), e8 _ (by omega)]
      exact b5 i hi
    · intro i hi
      show τ2 8 (24 + 6 * i) = _ ∧ τ2 8 (24 + (6 * i + 1)) = _ ∧ τ2 8 (24 + (6 * i + 2)) = _ ∧ τ2 8 (24 + (6 * i + 3)) = _ ∧ τ2 8 (24 + (6 * i + 4)) = _ ∧ τ2 8 (24 + (6 * i + 5)) = _
      rw [e8b _ (by omega), e8b _ (by omega), e8b _ (by omega), e8b _ (by omega), e8b _ (by omega), e8b _ (by omega)]
      exact b6 i hi
  · exact SRel_fr (fun k j h => cn k j (by omega) (by omega)) (fun k j h => en k j (by omega) (by omega)) hSh
  · exact DRel_fr (fun k j h => cn k j (by omega) (by omega)) (fun k j h => en k j (by omega) (by omega)) hD
  · exact cn _ _ (by omega) (by omega)
theorem op_back : OP_back RR := by
  intro σ τ hR
  obtain ⟨M, V, w, y, A, B, T, X, h0, hA, hB, hOX, hC, hS, hS9, hF, hCX, hFX, hI, hSh, hD⟩ := id hR
  obtain ⟨hM, hV, hw, hy⟩ := id h0
  obtain ⟨hB, hBs⟩ := id hB
  obtain ⟨a1, a2, a3, a4, a5, a6⟩ := id hC
  obtain ⟨b1, b2, b3, b4, b5, b6⟩ := id hF
  have hT := hOX.2.1
  have c1 := hCX.1
  have f1 := hFX.1
  rcases hI with ⟨i1, i2⟩ | ⟨i1, i2, M1, V1, w1, y1, A1, B1, ⟨m1, m2, m3, m4⟩, o1, o2, c, f⟩
  · refine ⟨-ι 3, σ, τ, ?_, ?_, hR, rfl⟩
    · unfold f_X8_back
      simp (disch := omega) only [i1, ↓reduceIte, eq_self, Bool.false_eq_true, reduceCtorEq, ob_s, ob2_s, od_e, onl_n, onl_s, ι_nat, ι_add, ι_mul, ι_sub, ι_addm, lt_t, lt_f, le_t, le_f, eq_t, eq_f, inb_t, inb_f, neq_f, neq_f2, neq_nf, nlt_t, nlt_f, nle_t, nle_f, ms_at, ms_off, up_at, up_off, L0, L1, L2, L3, L4, L5, L6, L7, L8, L9, L10, L11, L12, L13, L14, L15, L16, L17, L18, L19, L20, L21, L22, L23, L24, L30, L31, L32, L40, L41, L42, L43, L45, L47, L48, L52, L57, L59, L60, L61, L63, L64, L72, L97, L99, L100, L122, L160, L161, L200, L255, L999, L1200, L1998, L99999, L100000, L1000005]
    · unfold f_X9_back
      simp (disch := omega) only [i2, ↓reduceIte, eq_self, Bool.false_eq_true, reduceCtorEq, ob_s, ob2_s, od_e, onl_n, onl_s, ι_nat, ι_add, ι_mul, ι_sub, ι_addm, lt_t, lt_f, le_t, le_f, eq_t, eq_f, inb_t, inb_f, neq_f, neq_f2, neq_nf, nlt_t, nlt_f, nle_t, nle_f, ms_at, ms_off, up_at, up_off, L0, L1, L2, L3, L4, L5, L6, L7, L8, L9, L10, L11, L12, L13, L14, L15, L16, L17, L18, L19, L20, L21, L22, L23, L24, L30, L31, L32, L40, L41, L42, L43, L45, L47, L48, L52, L57, L59, L60, L61, L63, L64, L72, L97, L99, L100, L122, L160, L161, L200, L255, L999, L1200, L1998, L99999, L100000, L1000005]
  · obtain ⟨σ1, g1, g2⟩ := c_become (t := 15) (u := 49) (by omega) hS9
    obtain ⟨f1', f2', f3', f4', f5', f6'⟩ := id f
    have x1 : τ 0 14 = ι M1 := f1'
    have x2 : τ 0 15 = ι V1 := f2'
    have x3 : τ 0 16 = ι w1 := f3'
    have x4 : τ 0 17 = ι y1 := f4'
    let τ0 := ms (ms (ms (ms τ 0 0 (ι M1)) 0 4 (ι V1)) 0 6 (ι w1)) 0 12 (ι y1)
    have e0 : ∀ k j, ¬ (k = 0 ∧ (j = 0 ∨ j = 4 ∨ j = 6 ∨ j = 12)) → τ0 k j = τ k j := by
      intro k j h
      show ms (ms (ms (ms τ 0 0 (ι M1)) 0 4 (ι V1)) 0 6 (ι w1)) 0 12 (ι y1) k j = _
      simp (disch := omega) only [ms_off]
    obtain ⟨τ1, p1, p2⟩ := r_back1 24 0 FU τ0 (by omega) (by unfold FU; omega)
    obtain ⟨τ2, q1, q2⟩ := r_back2 48 0 FU τ1 (by omega) (by unfold FU; omega)
    have er : ∀ k j, k ≠ 3 → k ≠ 4 → τ2 k j = τ0 k j := by
      intro k j h h'
      rw [q2, if_neg (by omega), p2, if_neg (by omega)]
    have e3 : ∀ j, j < 24 → τ2 3 j = τ 8 j := by
      intro j h
      rw [q2, if_neg (by omega), p2, if_pos (by omega), e0 _ _ (by omega)]
    have e4 : ∀ j, j < 48 → τ2 4 j = τ 8 (24 + j) := by
      intro j h
      rw [q2, if_pos (by omega), p2, if_neg (by omega), e0 _ _ (by omega)]
    have en : ∀ k j, k ≠ 3 → k ≠ 4 → ¬ (k = 0 ∧ (j = 0 ∨ j = 4 ∨ j = 6 ∨ j = 12)) → τ2 k j = τ k j := fun k j h1 h2 h3 => (er k j h1 h2).trans (e0 k j h3)
    have cn : ∀ k j, ¬ (15 ≤ k ∧ k < 32) → σ1 k j = σ k j := by
      intro k j h1
      rw [g2, if_neg (by omega)]
    have z0 : τ2 0 0 = ι M1 := by
      rw [er _ _ (by omega) (by omega)]
      show ms (ms (ms (ms τ 0 0 (ι M1)) 0 4 (ι V1)) 0 6 (ι w1)) 0 12 (ι y1) 0 0 = _
      simp (disch := omega) only [↓reduceIte, eq_self, Bool.false_eq_true, reduceCtorEq, ob_s, ob2_s, od_e, onl_n, onl_s, ι_nat, ι_add, ι_mul, ι_sub, ι_addm, lt_t, lt_f, le_t, le_f, eq_t, eq_f, inb_t, inb_f, neq_f, neq_f2, neq_nf, nlt_t, nlt_f, nle_t, nle_f, ms_at, ms_off, up_at, up_off, L0, L1, L2, L3, L4, L5, L6, L7, L8, L9, L10, L11, L12, L13, L14, L15, L16, L17, L18, L19, L20, L21, L22, L23, L24, L30, L31, L32, L40, L41, L42, L43, L45, L47, L48, L52, L57, L59, L60, L61, L63, L64, L72, L97, L99, L100, L122, L160, L161, L200, L255, L999, L1200, L1998, L99999, L100000, L1000005]
    refine ⟨ι M1, σ1, τ2, ?_, ?_, ⟨M1, V1, w1, y1, A1, B1, T, X, ⟨by omega, m2, m3, m4⟩, o1, o2, hOX, ?_, ?_, ?_, ?_, ?_, ?_, Or.inr ⟨?_, ?_, M1, V1, w1, y1, A1, B1, ⟨Nat.le_refl M1, m2, m3, m4⟩, o1, o2, ?_, ?_⟩, ?_, ?_⟩, ?_⟩
    · have e := (CT_move (by omega) m2 c g2).1
      unfold f_X8_back
      simp (disch := omega) only [i1, g1, e, ↓reduceIte, eq_self, Bool.false_eq_true, reduceCtorEq, ob_s, ob2_s, od_e, onl_n, onl_s, ι_nat, ι_add, ι_mul, ι_sub, ι_addm, lt_t, lt_f, le_t, le_f, eq_t, eq_f, inb_t, inb_f, neq_f, neq_f2, neq_nf, nlt_t, nlt_f, nle_t, nle_f, ms_at, ms_off, up_at, up_off, L0, L1, L2, L3, L4, L5, L6, L7, L8, L9, L10, L11, L12, L13, L14, L15, L16, L17, L18, L19, L20, L21, L22, L23, L24, L30, L31, L32, L40, L41, L42, L43, L45, L47, L48, L52, L57, L59, L60, L61, L63, L64, L72, L97, L99, L100, L122, L160, L161, L200, L255, L999, L1200, L1998, L99999, L100000, L1000005]
    · unfold f_X9_back
      simp only [od_x]
      have pq : f_X9_back_b44 FU (ms (ms (ms (ms τ 0 0 (ι M1)) 0 4 (ι V1)) 0 6 (ι w1)) 0 12 (ι y1)) (ι 0) = some (ι M1, τ2) := by
        refine Eq.trans (b := some (τ2 0 0, τ2)) (p1.trans q1) ?_
        rw [z0]
      simp (disch := omega) only [i2, x1, x2, x3, x4, pq, ↓reduceIte, eq_self, Bool.false_eq_true, reduceCtorEq, ob_s, ob2_s, od_e, onl_n, onl_s, ι_nat, ι_add, ι_mul, ι_sub, ι_addm, lt_t, lt_f, le_t, le_f, eq_t, eq_f, inb_t, inb_f, neq_f, neq_f2, neq_nf, nlt_t, nlt_f, nle_t, nle_f, ms_at, ms_off, up_at, up_off, L0, L1, L2, L3, L4, L5, L6, L7, L8, L9, L10, L11, L12, L13, L14, L15, L16, L17, L18, L19, L20, L21, L22, L23, L24, L30, L31, L32, L40, L41, L42, L43, L45, L47, L48, L52, L57, L59, L60, L61, L63, L64, L72, L97, L99, L100, L122, L160, L161, L200, L255, L999, L1200, L1998, L99999, L100000, L1000005]
    · exact CT_move (by omega) m2 c g2
    · exact SH_move hS9 g2
    · intro i hi
      rw [cn _ _ (by omega)]
      exact hS9 i hi
    · refine ⟨z0, ?_, ?_, ?_, ?_, ?_⟩
      · rw [er _ _ (by omega) (by omega)]
        show ms (ms (ms (ms τ 0 0 (ι M1)) 0 4 (ι V1)) 0 6 (ι w1)) 0 12 (ι y1) 0 4 = _
        simp (disch := omega) only [↓reduceIte, eq_self, Bool.false_eq_true, reduceCtorEq, ob_s, ob2_s, od_e, onl_n, onl_s, ι_nat, ι_add, ι_mul, ι_sub, ι_addm, lt_t, lt_f, le_t, le_f, eq_t, eq_f, inb_t, inb_f, neq_f, neq_f2, neq_nf, nlt_t, nlt_f, nle_t, nle_f, ms_at, ms_off, up_at, up_off, L0, L1, L2, L3, L4, L5, L6, L7, L8, L9, L10, L11, L12, L13, L14, L15, L16, L17, L18, L19, L20, L21, L22, L23, L24, L30, L31, L32, L40, L41, L42, L43, L45, L47, L48, L52, L57, L59, L60, L61, L63, L64, L72, L97, L99, L100, L122, L160, L161, L200, L255, L999, L1200, L1998, L99999, L100000, L1000005]
      · rw [er _ _ (by omega) (by omega)]
        show ms (ms (ms (ms τ 0 0 (ι M1)) 0 4 (ι V1)) 0 6 (ι w1)) 0 12 (ι y1) 0 6 = _
        simp (disch := omega) only [↓reduceIte, eq_self, Bool.false_eq_true, reduceCtorEq, ob_s, ob2_s, od_e, onl_n, onl_s, ι_nat, ι_add, ι_mul, ι_sub, ι_addm, lt_t, lt_f, le_t, le_f, eq_t, eq_f, inb_t, inb_f, neq_f, neq_f2, neq_nf, nlt_t, nlt_f, nle_t, nle_f, ms_at, ms_off, up_at, up_off, L0, L1, L2, L3, L4, L5, L6, L7, L8, L9, L10, L11, L12, L13, L14, L15, L16, L17, L18, L19, L20, L21, L22, L23, L24, L30, L31, L32, L40, L41, L42, L43, L45, L47, L48, L52, L57, L59, L60, L61, L63, L64, L72, L97, L99, L100, L122, L160, L161, L200, L255, L999, L1200, L1998, L99999, L100000, L1000005]
      · rw [er _ _ (by omega) (by omega)]
        show ms (ms (ms (ms τ 0 0 (ι M1)) 0 4 (ι V1)) 0 6 (ι w1)) 0 12 (ι y1) 0 12 = _
        simp (disch := omega) only [↓reduceIte, eq_self, Bool.false_eq_true, reduceCtorEq, ob_s, ob2_s, od_e, onl_n, onl_s, ι_nat, ι_add, ι_mul, ι_sub, ι_addm, lt_t, lt_f, le_t, le_f, eq_t, eq_f, inb_t, inb_f, neq_f, neq_f2, neq_nf, nlt_t, nlt_f, nle_t, nle_f, ms_at, ms_off, up_at, up_off, L0, L1, L2, L3, L4, L5, L6, L7, L8, L9, L10, L11, L12, L13, L14, L15, L16, L17, L18, L19, L20, L21, L22, L23, L24, L30, L31, L32, L40, L41, L42, L43, L45, L47, L48, L52, L57, L59, L60, L61, L63, L64, L72, L97, L99, L100, L122, L160, L161, L200, L255, L999, L1200, L1998, L99999, L100000, L1000005]
      · intro i hi
        rw [en _ _ (by omega) (by omega) (by omega), en _ _ (by omega) (by omega) (by omega), e3 _ (by omega), e3 _ (by omega), e3 _ (by omega), e3 _ (by omega)]
        exact f5' i hi
      · intro i hi
        rw [e4 _ (by omega), e4 _ (by omega), e4 _ (by omega), e4 _ (by omega), e4 _ (by omega), e4 _ (by omega)]
        exact f6' i hi
    · exact CXT_fr (fun k j h => cn k j (by omega)) hCX
    · exact FXT_fr (fun k j h => en k j (by omega) (by omega) (by omega)) hFX
    · rw [cn _ _ (by omega)]
      exact i1
    · rw [en _ _ (by omega) (by omega) (by omega)]
      exact i2
    · exact CT_fr (by omega) m2 (fun k j h1 h2 h3 => cn k j (by omega)) c
    · refine ⟨?_, ?_, ?_, ?_, ?_, ?_⟩
      · show τ2 0 14 = _
        rw [en _ _ (by omega) (by omega) (by omega)]
        exact x1
      · show τ2 0 15 = _
        rw [en _ _ (by omega) (by omega) (by omega)]
        exact x2
      · show τ2 0 16 = _
        rw [en _ _ (by omega) (by omega) (by omega)]
        exact x3
      · show τ2 0 17 = _
        rw [en _ _ (by omega) (by omega) (by omega)]
        exact x4
      · intro i hi
        show τ2 1 i = _ ∧ τ2 2 i = _ ∧ τ2 8 (4 * i) = _ ∧ τ2 8 (4 * i + 1) = _ ∧ τ2 8 (4 * i + 2) = _ ∧ τ2 8 (4 * i + 3) = _
        rw [en _ _ (by omega) (by omega) (by omega), en _ _ (by omega) (by omega) (by omega), en _ _ (by omega) (by omega) (by omega), en _ _ (by omega) (by omega) (by omega), en _ _ (by omega) (by omega) (by omega), en _ _ (by omega) (by omega) (by omega)]
        exact f5' i hi
      · intro i hi
        show τ2 8 (24 + 6 * i) = _ ∧ τ2 8 (24 + (6 * i + 1)) = _ ∧ τ2 8 (24 + (6 * i + 2)) = _ ∧ τ2 8 (24 + (6 * i + 3)) = _ ∧ τ2 8 (24 + (6 * i + 4)) = _ ∧ τ2 8 (24 + (6 * i + 5)) = _
        rw [en _ _ (by omega) (by omega) (by omega), en _ _ (by omega) (by omega) (by omega), en _ _ (by omega) (by omega) (by omega), en _ _ (by omega) (by omega) (by omega), en _ _ (by omega) (by omega) (by omega), en _ _ (by omega) (by omega) (by omega)]
        exact f6' i hi
    · exact SRel_fr (fun k j h => cn k j (by omega)) (fun k j h => en k j (by omega) (by omega) (by omega)) hSh
    · exact DRel_fr (fun k j h => cn k j (by omega)) (fun k j h => en k j (by omega) (by omega) (by omega)) hD
    · exact cn _ _ (by omega)
