theorem growA_row {X : XT} {y V i w : Nat} {A B : TB2} : growA X y V B i w A i = A i := by
  funext j
  unfold growA
  rw [if_neg (by omega)]
theorem growA_step {X : XT} {y V i w : Nat} {A B : TB2} : growA X y V B (i + 1) w A = up (growA X y V B i w A) i 2 (grownN X y (A i) w (owedN V B i)) := by
  funext a j
  simp only [growA, up]
  by_cases h : a = i ∧ j = 2
  · rw [if_pos ⟨by omega, h.2⟩, if_pos h, h.1]
  · rw [if_neg h]
    by_cases h2 : a < i ∧ j = 2
    · rw [if_pos h2, if_pos ⟨by omega, h2.2⟩]
    · rw [if_neg h2, if_neg (by omega)]
theorem growA_0 {X : XT} {y V w : Nat} {A B : TB2} : growA X y V B 0 w A = A := by
  funext a j
  unfold growA
  rw [if_neg (by omega)]
theorem MC_of {t M : Nat} {A : TB2} {σ : Mem} (h : CA t M A σ) {i : Nat} (hi : i < M) : MC1 (t + 3 + i) (A i) σ := h i hi
theorem c_grows {t M V w y T nth N : Nat} {X : XT} {B A0 : TB2} {K : Nat → Nat} (ht : 15 ≤ t ∧ t + 17 ≤ 98) (hM : M ≤ 6) (h8 : V ≤ 8) (hy : y < T) (hOX : OKX T X) (hw : w < 10000) (hA : OKA M A0) (hB : OKB M V B) : ∀ d i n (σ : Mem), i + d = M → d < n → CXT T X σ → CD t M V w y (growA X y V B i w A0, B, K) σ →
    ∃ σ', f_X6_liveWeek_b2 t (ι nth) n σ (ι i) = f_X6_liveWeek_b60 σ' t (ι nth) ∧ CD t M V w y (growA X y V B M w A0, B, K) σ' ∧ frT t M σ σ' := by
  intro d
  induction d with
  | zero =>
    intro i n σ hi hn hX hs
    obtain ⟨n, rfl⟩ : ∃ k, n = k + 1 := ⟨n - 1, by omega⟩
    have e : i = M := by omega
    subst e
    refine ⟨σ, ?_, hs, frT.rfl⟩
    have a1 := hs.1.1
    unfold f_X6_liveWeek_b2
    simp (disch := omega) only [a1, ↓reduceIte, eq_self, Bool.false_eq_true, reduceCtorEq, ob_s, ob2_s, od_e, onl_n, onl_s, ι_nat, ι_add, ι_mul, ι_sub, ι_addm, lt_t, lt_f, le_t, le_f, eq_t, eq_f, inb_t, inb_f, neq_f, neq_f2, neq_nf, nlt_t, nlt_f, nle_t, nle_f, ms_at, ms_off, up_at, up_off, L0, L1, L2, L3, L4, L5, L6, L7, L8, L9, L10, L11, L12, L13, L14, L15, L16, L17, L18, L19, L20, L21, L22, L23, L24, L30, L31, L32, L40, L41, L42, L43, L45, L47, L48, L52, L57, L59, L60, L61, L63, L64, L72, L97, L99, L100, L122, L160, L161, L200, L255, L999, L1200, L1998, L99999, L100000, L1000005]
  | succ d ih =>
    intro i n σ hi hn hX hs
    obtain ⟨n, rfl⟩ : ∃ k, n = k + 1 := ⟨n - 1, by omega⟩
    obtain ⟨⟨a1, a2, a3, a4, a5, a6⟩, k0, k1, k2, k3, k4⟩ := id hs
    have hv : i < M := by omega
    have ow := c_owed a2 h8 a6 hB hM (show i < 100 by omega)
    obtain ⟨σ1, g1, g2⟩ := c_grown hX hOX (ow := owedN V B i) hy (show 5 ≤ t + 3 + i by omega) (MC_of a5 hv) (by rw [show (growA X y V B i w A0, B, K).1 = growA X y V B i w A0 from rfl, growA_row]; exact hA i hv) (show w < 100000 by omega)
    rw [show (growA X y V B i w A0, B, K).1 = growA X y V B i w A0 from rfl, growA_row] at g1
    have fr1 : frT t M σ (ms σ1 (t + 3 + i) 2 (ι (grownN X y (A0 i) w (owedN V B i)))) := by
      intro k j q1 q2 q3 q4
      rw [ms_off (by omega), g2 k j q1 q2]
    obtain ⟨σ', b1, b2, b3⟩ := ih (i + 1) n (ms σ1 (t + 3 + i) 2 (ι (grownN X y (A0 i) w (owedN V B i)))) (by omega) (by omega) (CXT_T ht hM hX fr1) (by
      rw [growA_step]
      refine ⟨⟨?_, ?_, ?_, ?_, ?_, ?_⟩, ?_, ?_, ?_, ?_, ?_⟩
      · rw [ms_off (by omega), g2 _ _ (by omega) (by omega)]; exact a1
      · rw [ms_off (by omega), g2 _ _ (by omega) (by omega)]; exact a2
      · rw [ms_off (by omega), g2 _ _ (by omega) (by omega)]; exact a3
      · rw [ms_off (by omega), g2 _ _ (by omega) (by omega)]; exact a4
      · exact CA_up (CA_fr a5 (fun i j hi => g2 _ _ (by omega) (by omega))) (by decide)
      · exact CB_fr a6 (fun i j hi => by rw [ms_off (by omega), g2 _ _ (by omega) (by omega)])
      · rw [ms_off (by omega), g2 _ _ (by omega) (by omega)]; exact k0
      · rw [ms_off (by omega), g2 _ _ (by omega) (by omega)]; exact k1
      · rw [ms_off (by omega), g2 _ _ (by omega) (by omega)]; exact k2
      · rw [ms_off (by omega), g2 _ _ (by omega) (by omega)]; exact k3
      · rw [ms_off (by omega), g2 _ _ (by omega) (by omega)]; exact k4)
    refine ⟨σ', ?_, b2, fr1.tr b3⟩
    unfold f_X6_liveWeek_b2
    simp (disch := omega) only [a1, a3, a4, ow, g1, ↓reduceIte, eq_self, Bool.false_eq_true, reduceCtorEq, ob_s, ob2_s, od_e, onl_n, onl_s, ι_nat, ι_add, ι_mul, ι_sub, ι_addm, lt_t, lt_f, le_t, le_f, eq_t, eq_f, inb_t, inb_f, neq_f, neq_f2, neq_nf, nlt_t, nlt_f, nle_t, nle_f, ms_at, ms_off, up_at, up_off, L0, L1, L2, L3, L4, L5, L6, L7, L8, L9, L10, L11, L12, L13, L14, L15, L16, L17, L18, L19, L20, L21, L22, L23, L24, L30, L31, L32, L40, L41, L42, L43, L45, L47, L48, L52, L57, L59, L60, L61, L63, L64, L72, L97, L99, L100, L122, L160, L161, L200, L255, L999, L1200, L1998, L99999, L100000, L1000005]
    exact b1
theorem c_week {t M V w y T nth N : Nat} {X : XT} {s : DS} {σ : Mem} (ht : 15 ≤ t ∧ t + 17 ≤ 98) (hM : M ≤ 6) (h8 : V ≤ 8) (hy : y < T) (hX : CXT T X σ) (hOX : OKX T X) (hw : w < 10000) (hnt : nth < 100000) (hN : N < 50000) (hs : CD t M V w y s σ) (hO : OKD M V N s) :
    ∃ σ', f_X6_liveWeek σ t (ι nth) = some σ' ∧ CD t M V (w + 1) y (weekD X y M V w nth s) σ' ∧ OKD M V (N + 8) (weekD X y M V w nth s) ∧ frT t M σ σ' := by
  obtain ⟨A, B, K⟩ := s
  obtain ⟨σ1, g1, g2, g3⟩ := c_grows (X := X) (nth := nth) (N := N) ht hM h8 hy hOX hw hO.1 hO.2.1 M 0 FU σ (by omega) (by unfold FU; omega) hX (by rw [growA_0]; exact hs)
  obtain ⟨σ2, b1, b2, b3, b4⟩ := c_vows (nth := nth) ht hM h8 hy hOX hw hnt V 0 FU N _ σ1 (by omega) (by unfold FU; omega) (by omega) (CXT_T ht hM hX g3) g2 ⟨OKA_grow hO.1, hO.2⟩
  refine ⟨σ2, ?_, b2, ?_, g3.tr b4⟩
  · unfold f_X6_liveWeek
    rw [L0, g1]
    unfold f_X6_liveWeek_b60
    rw [L0]
    exact b1
  · obtain ⟨q1, q2, q3, q4⟩ := b3
    exact ⟨q1, q2, Nat.le_trans q3 (by omega), q4⟩
/-- of the reference: nothing but rows, vows, the week, the tally, its stack and names has changed -/
def frF (τ τ' : Mem) : Prop := ∀ k j, k ≠ 3 → k ≠ 4 → k ≠ 15 → k ≠ 16 → ¬ (k = 0 ∧ (j = 6 ∨ (34 ≤ j ∧ j ≤ 38))) → τ' k j = τ k j
theorem frF.rfl {τ : Mem} : frF τ τ := fun _ _ _ _ _ _ _ => Eq.refl _
theorem frF.tr {a b c : Mem} (h : frF a b) (g : frF b c) : frF a c := fun k j h1 h2 h3 h4 h5 => (g k j h1 h2 h3 h4 h5).trans (h k j h1 h2 h3 h4 h5)
theorem FXT_F {T : Nat} {X : XT} {τ τ' : Mem} (h : FXT T X τ) (e : frF τ τ') : FXT T X τ' :=
  FXT_fr (fun k j h => e k j (by omega) (by omega) (by omega) (by omega) (by omega)) h
theorem r_grows {M V w y T nth : Nat} {X : XT} {B A0 : TB2} {K : Nat → Nat} (hM : M ≤ 6) (h8 : V ≤ 8) (hy : y < T) (hOX : OKX T X) (hw : w < 10000) (hA : OKA M A0) (hB : OKB M V B) : ∀ d i n (τ : Mem), i + d = M → d < n → FXT T X τ → FD M V w y (growA X y V B i w A0, B, K) τ →
    ∃ τ', f_X9_weekOf_b2 (ι nth) n τ (ι i) = f_X9_weekOf_b23 (ι nth) FU τ' (ι 0) ∧ FD M V w y (growA X y V B M w A0, B, K) τ' ∧ frF τ τ' := by
  intro d
  induction d with
  | zero =>
    intro i n τ hi hn hX hs
    obtain ⟨n, rfl⟩ : ∃ k, n = k + 1 := ⟨n - 1, by omega⟩
    have e : i = M := by omega
    subst e
    refine ⟨τ, ?_, hs, frF.rfl⟩
    have a1 := hs.1.1
    rw [f_X9_weekOf_b2]
    simp (disch := omega) only [a1, ↓reduceIte, eq_self, Bool.false_eq_true, reduceCtorEq, ob_s, ob2_s, od_e, onl_n, onl_s, ι_nat, ι_add, ι_mul, ι_sub, ι_addm, lt_t, lt_f, le_t, le_f, eq_t, eq_f, inb_t, inb_f, neq_f, neq_f2, neq_nf, nlt_t, nlt_f, nle_t, nle_f, ms_at, ms_off, up_at, up_off, L0, L1, L2, L3, L4, L5, L6, L7, L8, L9, L10, L11, L12, L13, L14, L15, L16, L17, L18, L19, L20, L21, L22, L23, L24, L30, L31, L32, L40, L41, L42, L43, L45, L47, L48, L52, L57, L59, L60, L61, L63, L64, L72, L97, L99, L100, L122, L160, L161, L200, L255, L999, L1200, L1998, L99999, L100000, L1000005]
  | succ d ih =>
    intro i n τ hi hn hX hs
    obtain ⟨n, rfl⟩ : ∃ k, n = k + 1 := ⟨n - 1, by omega⟩
    obtain ⟨⟨a1, a2, a3, a4, a5, a6⟩, k0, k1, k2, k3, k4⟩ := id hs
    have hv : i < M := by omega
    have hOA : OKA M (growA X y V B i w A0) := by
      intro u hu
      have o := hA u hu
      unfold growA
      have := grownN_le (X := X) (y := y) (w := w) (ow := owedN V B u) (a := A0 u) o.2.2.1
      by_cases c : u < i
      · simp [c]
        omega
      · simp [c]
        omega
    obtain ⟨τ1, g1, g2, g3⟩ := r_grow hX hOX (⟨a1, a2, a3, a4, a5, a6⟩ : FT M V w y _ _ τ) hOA hB hM h8 hy hv (show w < 100000 by omega)
    rw [show (growA X y V B i w A0, B, K).1 i = growA X y V B i w A0 i from rfl, growA_row] at g2
    have fr1 : frF τ τ1 := by
      intro k j q1 q2 q3 q4 q5
      exact g3 k j q3 q4 (by omega)
    obtain ⟨τ', b1, b2, b3⟩ := ih (i + 1) n τ1 (by omega) (by omega) (FXT_F hX fr1) (by
      rw [growA_step]
      refine ⟨⟨?_, ?_, ?_, ?_, ?_, ?_⟩, ?_, ?_, ?_, ?_, ?_⟩
      · rw [g3 _ _ (by omega) (by omega) (by omega)]; exact a1
      · rw [g3 _ _ (by omega) (by omega) (by omega)]; exact a2
      · rw [g3 _ _ (by omega) (by omega) (by omega)]; exact a3
      · rw [g3 _ _ (by omega) (by omega) (by omega)]; exact a4
      · have h := FA_up (i := i) (j := 0) (x := grownN X y (A0 i) w (owedN V B i)) a5 (by decide)
        intro u hu
        obtain ⟨e0, e1, e2, e3, e4, e5⟩ := h u hu
        refine ⟨?_, ?_, ?_, ?_, ?_, ?_⟩
        · rw [g3 _ _ (by omega) (by omega) (by omega), ← e0, ms_off (by omega)]
        · rw [g3 _ _ (by omega) (by omega) (by omega), ← e1, ms_off (by omega)]
        · by_cases c : u = i
          · subst c
            rw [g2]
            exact congrArg ι (up_at rfl rfl).symm
          · rw [g3 _ _ (by omega) (by omega) (by omega), ← e2, ms_off (by omega)]
        · rw [g3 _ _ (by omega) (by omega) (by omega), ← e3, ms_off (by omega)]
        · rw [g3 _ _ (by omega) (by omega) (by omega), ← e4, ms_off (by omega)]
        · rw [g3 _ _ (by omega) (by omega) (by omega), ← e5, ms_off (by omega)]
      · exact FB_fr a6 (fun j => g3 _ _ (by omega) (by omega) (by omega))
      · rw [g3 _ _ (by omega) (by omega) (by omega)]; exact k0
      · rw [g3 _ _ (by omega) (by omega) (by omega)]; exact k1
      · rw [g3 _ _ (by omega) (by omega) (by omega)]; exact k2
      · rw [g3 _ _ (by omega) (by omega) (by omega)]; exact k3
      · rw [g3 _ _ (by omega) (by omega) (by omega)]; exact k4)
    refine ⟨τ', ?_, b2, fr1.tr b3⟩
    rw [f_X9_weekOf_b2]
    simp (disch := omega) only [a1, g1, ↓reduceIte, eq_self, Bool.false_eq_true, reduceCtorEq, ob_s, ob2_s, od_e, onl_n, onl_s, ι_nat, ι_add, ι_mul, ι_sub, ι_addm, lt_t, lt_f, le_t, le_f, eq_t, eq_f, inb_t, inb_f, neq_f, neq_f2, neq_nf, nlt_t, nlt_f, nle_t, nle_f, ms_at, ms_off, up_at, up_off, L0, L1, L2, L3, L4, L5, L6, L7, L8, L9, L10, L11, L12, L13, L14, L15, L16, L17, L18, L19, L20, L21, L22, L23, L24, L30, L31, L32, L40, L41, L42, L43, L45, L47, L48, L52, L57, L59, L60, L61, L63, L64, L72, L97, L99, L100, L122, L160, L161, L200, L255, L999, L1200, L1998, L99999, L100000, L1000005]
    exact b1
