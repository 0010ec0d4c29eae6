/-! THE PURE PART: a week -/
abbrev TB2 : Type := Nat → Nat → Nat
abbrev DS : Type := TB2 × TB2 × (Nat → Nat)
def growA (X : XT) (y V : Nat) (B : TB2) (M w : Nat) (A : TB2) : TB2 := fun i j => if i < M ∧ j = 2 then grownN X y (A i) w (owedN V B i) else A i j
def brkD (m : Nat) : Nat → Nat → TB2 → TB2
  | 0, _, B => B
  | d + 1, i, B => brkD m d (i + 1) (if B i 4 = 0 ∧ B i 0 = m then up B i 4 2 else B)
def upK (K : Nat → Nat) (i x : Nat) : Nat → Nat := fun j => if j = i then x else K j
def cntA (a : Nat → Nat) : Nat := cntN (a 0) (a 1) (a 2)
def sayA (X : XT) (y q : Nat) (a : Nat → Nat) (w ow : Nat) : Nat := sayN X y q (a 2) (a 3) (a 1) w ow (a 4)
def payD (X : XT) (y V w v : Nat) (s : DS) : DS := (up s.1 (s.2.1 v 0) 2 (s.1 (s.2.1 v 0) 2 - (s.2.1 v 2 + sayA X y 1 (s.1 (s.2.1 v 0)) w (owedN V s.2.1 (s.2.1 v 0)))), up s.2.1 v 4 1, upK s.2.2 3 (s.2.2 3 + s.2.1 v 2))
def tlyD (K : Nat → Nat) (m nth sh : Nat) : Nat → Nat := fun j => if j = 0 then K 0 + 1 else if j = 1 then (if K 0 = 0 then m + 1 else K 1) else if j = 2 then (if K 0 = 0 then nth + 1 else K 2) else if j = 4 then K 4 + sh else K j
def shrD (X : XT) (y V w nth m : Nat) (s : DS) : DS := (up (up s.1 m 5 1) m 2 0, brkD m V 0 s.2.1, tlyD s.2.2 m nth (sayA X y 2 (s.1 m) w (owedN V s.2.1 m)))
def dueD (X : XT) (y V w nth v : Nat) (s : DS) : DS := if s.2.1 v 2 ≤ cntA (s.1 (s.2.1 v 0)) then payD X y V w v s else if matN s.2.1 v + grcN (s.1 (s.2.1 v 0) 0) ≤ w then shrD X y V w nth (s.2.1 v 0) s else s
def vowsD (X : XT) (y V w nth : Nat) : Nat → Nat → DS → DS
  | 0, _, s => s
  | d + 1, i, s => vowsD X y V w nth d (i + 1) (if s.2.1 i 4 = 0 ∧ matN s.2.1 i ≤ w then dueD X y V w nth i s else s)
def weekD (X : XT) (y M V w nth : Nat) (s : DS) : DS := vowsD X y V w nth V 0 (growA X y V s.2.1 M w s.1, s.2)
def OKK (N : Nat) (K : Nat → Nat) : Prop := K 0 ≤ N ∧ (K 0 = 0 ↔ K 1 = 0) ∧ K 1 ≤ 100
def OKD (M V N : Nat) (s : DS) : Prop := OKA M s.1 ∧ OKB M V s.2.1 ∧ OKK N s.2.2
theorem OKB_st {M V v x : Nat} {B : TB2} (h : OKB M V B) (hx : x ≤ 3) (hx0 : x ≠ 0) : OKB M V (up B v 4 x) := by
  intro u hu
  have := h u hu
  by_cases c : u = v
  · subst c
    simp (disch := omega) only [up_at, up_off]
    omega
  · simp (disch := omega) only [up_off]
    exact this
theorem OKA_b {M i x : Nat} {A : TB2} (h : OKA M A) (hx : x ≤ 999) : OKA M (up A i 2 x) := by
  intro u hu
  have := h u hu
  by_cases c : u = i
  · subst c
    simp (disch := omega) only [up_at, up_off]
    omega
  · simp (disch := omega) only [up_off]
    exact this
theorem OKA_s {M i x : Nat} {A : TB2} (h : OKA M A) (hx : x ≤ 1) : OKA M (up A i 5 x) := by
  intro u hu
  have := h u hu
  by_cases c : u = i
  · subst c
    simp (disch := omega) only [up_at, up_off]
    omega
  · simp (disch := omega) only [up_off]
    exact this
theorem OKB_brk {M V m : Nat} : ∀ d i (B : TB2), OKB M V B → OKB M V (brkD m d i B)
  | 0, _, _, h => h
  | d + 1, i, B, h => by
    refine OKB_brk d (i + 1) _ ?_
    split
    · exact OKB_st h (by decide) (by decide)
    · exact h
theorem OKA_grow {X : XT} {y V M w : Nat} {A B : TB2} (h : OKA M A) : OKA M (growA X y V B M w A) := by
  intro i hi
  have := h i hi
  unfold growA
  simp only [hi, true_and]
  have := grownN_le (X := X) (y := y) (w := w) (ow := owedN V B i) (a := A i) this.2.2.1
  simp
  omega
theorem OKD_due {X : XT} {y V w nth v M N : Nat} {s : DS} (hM : M ≤ 6) (h : OKD M V N s) (hv : v < V) : OKD M V (N + 1) (dueD X y V w nth v s) := by
  obtain ⟨h1, h2, h3, h4⟩ := h
  have o := h1 _ (h2 v hv).1
  unfold dueD
  split
  · refine ⟨OKA_b h1 (by omega), OKB_st h2 (by decide) (by decide), ?_, h4⟩
    show s.2.2 0 ≤ N + 1
    omega
  · split
    · have o2 := (h2 v hv).1
      refine ⟨OKA_b (OKA_s h1 (by decide)) (by decide), OKB_brk _ _ _ h2, ?_, ?_, ?_⟩
      · show s.2.2 0 + 1 ≤ N + 1
        omega
      · show s.2.2 0 + 1 = 0 ↔ (if s.2.2 0 = 0 then _ else s.2.2 1) = 0
        split <;> omega
      · show (if s.2.2 0 = 0 then s.2.1 v 0 + 1 else s.2.2 1) ≤ 100
        split <;> omega
    · exact ⟨h1, h2, by omega, h4⟩
theorem CA_fr {t M : Nat} {A : TB2} {σ σ' : Mem} (h : CA t M A σ) (e : ∀ i j, i < M → σ' (t + 3 + i) j = σ (t + 3 + i) j) : CA t M A σ' := by
  intro i hi
  rw [e i 0 hi, e i 1 hi, e i 2 hi, e i 3 hi, e i 4 hi, e i 5 hi]
  exact h i hi
theorem CB_fr {t V : Nat} {B : TB2} {σ σ' : Mem} (h : CB t V B σ) (e : ∀ i j, i < V → σ' (t + 9 + i) j = σ (t + 9 + i) j) : CB t V B σ' := by
  intro i hi
  rw [e i 0 hi, e i 1 hi, e i 2 hi, e i 3 hi, e i 4 hi, e i 5 hi]
  exact h i hi
theorem FA_fr {M : Nat} {A : TB2} {τ τ' : Mem} (h : FA M A τ) (e : ∀ k j, 1 ≤ k → k ≤ 3 → τ' k j = τ k j) : FA M A τ' := by
  intro i hi
  rw [e 1 _ (by decide) (by decide), e 2 _ (by decide) (by decide), e 3 _ (by decide) (by decide), e 3 _ (by decide) (by decide), e 3 _ (by decide) (by decide), e 3 _ (by decide) (by decide)]
  exact h i hi
theorem FB_fr {V : Nat} {B : TB2} {τ τ' : Mem} (h : FB V B τ) (e : ∀ j, τ' 4 j = τ 4 j) : FB V B τ' := by
  intro i hi
  rw [e, e, e, e, e, e]
  exact h i hi
theorem CA_up {t M i j x : Nat} {A : TB2} {σ : Mem} (h : CA t M A σ) (hj : j < 6) : CA t M (up A i j x) (ms σ (t + 3 + i) j (ι x)) := by
  intro u hu
  obtain ⟨e0, e1, e2, e3, e4, e5⟩ := h u hu
  have hj6 : j = 0 ∨ j = 1 ∨ j = 2 ∨ j = 3 ∨ j = 4 ∨ j = 5 := by omega
  by_cases c : u = i
  · subst c
    rcases hj6 with h | h | h | h | h | h <;> subst h <;> simp (disch := omega) only [up_at, up_off, ms_at, ms_off, e0, e1, e2, e3, e4, e5, and_self]
  · simp (disch := omega) only [up_off, ms_off, e0, e1, e2, e3, e4, e5, and_self]
theorem CB_up {t V v j x : Nat} {B : TB2} {σ : Mem} (h : CB t V B σ) (hj : j < 5) : CB t V (up B v j x) (ms σ (t + 9 + v) j (ι x)) := by
  intro u hu
  obtain ⟨e0, e1, e2, e3, e4, e5⟩ := h u hu
  have hj6 : j = 0 ∨ j = 1 ∨ j = 2 ∨ j = 3 ∨ j = 4 := by omega
  by_cases c : u = v
  · subst c
    rcases hj6 with h | h | h | h | h <;> subst h <;> simp (disch := omega) only [up_at, up_off, ms_at, ms_off, e0, e1, e2, e3, e4, e5, and_self]
  · simp (disch := omega) only [up_off, ms_off, e0, e1, e2, e3, e4, e5, and_self]
theorem FA_up {M i j x : Nat} {A : TB2} {τ : Mem} (h : FA M A τ) (hj : j < 4) : FA M (up A i (j + 2) x) (ms τ 3 (4 * i + j) (ι x)) := by
  intro u hu
  obtain ⟨e0, e1, e2, e3, e4, e5⟩ := h u hu
  have hj6 : j = 0 ∨ j = 1 ∨ j = 2 ∨ j = 3 := by omega
  by_cases c : u = i
  · subst c
    rcases hj6 with h | h | h | h <;> subst h <;> simp (disch := omega) only [up_at, up_off, ms_at, ms_off, e0, e1, e2, e3, e4, e5, and_self]
  · simp (disch := omega) only [up_off, ms_off, e0, e1, e2, e3, e4, e5, and_self]
theorem FB_st {V v x : Nat} {B : TB2} {τ : Mem} (h : FB V B τ) : FB V (up B v 4 x) (ms τ 4 (6 * v + 5) (ι x)) := by
  intro u hu
  obtain ⟨e0, e1, e2, e3, e4, e5⟩ := h u hu
  by_cases c : u = v
  · subst c
    simp (disch := omega) only [up_at, up_off, ms_at, ms_off, e0, e1, e2, e3, e4, e5, and_self]
  · simp (disch := omega) only [up_off, ms_off, e0, e1, e2, e3, e4, e5, and_self]
def CK (t : Nat) (K : Nat → Nat) (σ : Mem) : Prop := σ t 7 = ι (K 0) ∧ σ t 8 = pl (K 1) ∧ σ t 9 = pl (K 2) ∧ σ t 10 = ι (K 3) ∧ σ t 11 = ι (K 4)
def FK (K : Nat → Nat) (τ : Mem) : Prop := τ 0 34 = ι (K 0) ∧ τ 0 35 = pl (K 1) ∧ τ 0 36 = pl (K 2) ∧ τ 0 37 = ι (K 3) ∧ τ 0 38 = ι (K 4)
def CD (t M V w y : Nat) (s : DS) (σ : Mem) : Prop := CT t M V w y s.1 s.2.1 σ ∧ CK t s.2.2 σ
def FD (M V w y : Nat) (s : DS) (τ : Mem) : Prop := FT M V w y s.1 s.2.1 τ ∧ FK s.2.2 τ
/-- nothing but the town, and the scribe's stack and names, has changed -/
def frT (t M : Nat) (σ σ' : Mem) : Prop := ∀ k j, k ≠ 3 → k ≠ 4 → ¬ (t ≤ k ∧ k < t + 3 + M) → ¬ (t + 9 ≤ k ∧ k < t + 17) → σ' k j = σ k j
theorem frT.rfl {t M : Nat} {σ : Mem} : frT t M σ σ := fun _ _ _ _ _ _ => Eq.refl _
theorem frT.tr {t M : Nat} {a b c : Mem} (h : frT t M a b) (g : frT t M b c) : frT t M a c := fun k j h1 h2 h3 h4 => (g k j h1 h2 h3 h4).trans (h k j h1 h2 h3 h4)
theorem CXT_T {t M T : Nat} {X : XT} {σ σ' : Mem} (ht : 15 ≤ t ∧ t + 17 ≤ 98) (hM : M ≤ 6) (h : CXT T X σ) (e : frT t M σ σ') : CXT T X σ' :=
  CXT_fr (fun k j h => e k j (by omega) (by omega) (by omega) (by omega)) h
theorem c_pays {t M V w y T v N : Nat} {X : XT} {s : DS} {σ : Mem} (ht : 15 ≤ t ∧ t + 17 ≤ 98) (hM : M ≤ 6) (h8 : V ≤ 8) (hy : y < T) (hX : CXT T X σ) (hOX : OKX T X) (hw : w < 100000) (hs : CD t M V w y s σ) (hO : OKD M V N s) (hv : v < V) :
    (s.2.1 v 2 ≤ cntA (s.1 (s.2.1 v 0)) → ∃ σ', f_X6_pays σ t (t + 9 + v) = some (ι 1, σ') ∧ CD t M V w y (payD X y V w v s) σ' ∧ frT t M σ σ') ∧
    (¬ s.2.1 v 2 ≤ cntA (s.1 (s.2.1 v 0)) → f_X6_pays σ t (t + 9 + v) = some (ι 0, σ)) := by
  obtain ⟨⟨a1, a2, a3, a4, a5, a6⟩, k0, k1, k2, k3, k4⟩ := hs
  obtain ⟨h1, h2, h3, h4⟩ := hO
  obtain ⟨o0, o1, o2, o3, o4, o5, o6, o7⟩ := h2 v hv
  obtain ⟨p0, p1, p2, p3, p4, p5⟩ := h1 _ o0
  obtain ⟨e0, e1, e2, e3, e4, e5⟩ := a6 v hv
  obtain ⟨m0, m1, m2, m3, m4, m5⟩ := a5 _ o0
  have mc := c_manAt a1 hM o0
  have cc := c_counts m0 m1 m2 p0 p1 p2
  have cl := cntN_le (kd := s.1 (s.2.1 v 0) 0) (m := s.1 (s.2.1 v 0) 1) p2
  constructor
  · intro hc
    have ow := c_owed a2 h8 a6 h2 hM (show s.2.1 v 0 < 100 by omega)
    obtain ⟨σ', g1, g2⟩ := c_says hX hOX (q := 1) (w := w) (ow := owedN V s.2.1 (s.2.1 v 0)) hy (by decide) (show 5 ≤ t + 3 + s.2.1 v 0 by omega) m1 m2 m3 m4
    have sl := sayN_le X y 1 (s.1 (s.2.1 v 0) 2) (s.1 (s.2.1 v 0) 3) (s.1 (s.2.1 v 0) 1) w (owedN V s.2.1 (s.2.1 v 0)) (s.1 (s.2.1 v 0) 4)
    have n2 : σ' (t + 3 + s.2.1 v 0) 2 = ι (s.1 (s.2.1 v 0) 2) := by rw [g2 _ _ (by omega) (by omega)]; exact m2
    have nk : σ' t 10 = ι (s.2.2 3) := by rw [g2 _ _ (by omega) (by omega)]; exact k3
    have nv : σ' (t + 9 + v) 2 = ι (s.2.1 v 2) := by rw [g2 _ _ (by omega) (by omega)]; exact e2
    have cut : f_X1_cut σ' (t + 3 + s.2.1 v 0) (ι (s.2.1 v 2 + sayN X y 1 (s.1 (s.2.1 v 0) 2) (s.1 (s.2.1 v 0) 3) (s.1 (s.2.1 v 0) 1) w (owedN V s.2.1 (s.2.1 v 0)) (s.1 (s.2.1 v 0) 4))) = ms σ' (t + 3 + s.2.1 v 0) 2 (ι (s.1 (s.2.1 v 0) 2 - (s.2.1 v 2 + sayN X y 1 (s.1 (s.2.1 v 0) 2) (s.1 (s.2.1 v 0) 3) (s.1 (s.2.1 v 0) 1) w (owedN V s.2.1 (s.2.1 v 0)) (s.1 (s.2.1 v 0) 4)))) := by
      unfold f_X1_cut f_J9_max_7cf53
      rw [od_e, n2]
      congr 1
      by_cases c : s.2.1 v 2 + sayN X y 1 (s.1 (s.2.1 v 0) 2) (s.1 (s.2.1 v 0) 3) (s.1 (s.2.1 v 0) 1) w (owedN V s.2.1 (s.2.1 v 0)) (s.1 (s.2.1 v 0) 4) < s.1 (s.2.1 v 0) 2
      · simp (disch := omega) only [↓reduceIte, eq_self, Bool.false_eq_true, reduceCtorEq, ob_s, ob2_s, od_e, onl_n, onl_s, ι_nat, ι_add, ι_mul, ι_sub, ι_addm, lt_t, lt_f, le_t, le_f, eq_t, eq_f, inb_t, inb_f, neq_f, neq_f2, neq_nf, nlt_t, nlt_f, nle_t, nle_f, ms_at, ms_off, up_at, up_off, L0, L1, L2, L3, L4, L5, L6, L7, L8, L9, L10, L11, L12, L13, L14, L15, L16, L17, L18, L19, L20, L21, L22, L23, L24, L30, L31, L32, L40, L41, L42, L43, L45, L47, L48, L52, L57, L59, L60, L61, L63, L64, L72, L97, L99, L100, L122, L160, L161, L200, L255, L999, L1200, L1998, L99999, L100000, L1000005]
      · rw [Nat.sub_eq_zero_of_le (by omega)]
        by_cases c2 : s.2.1 v 2 + sayN X y 1 (s.1 (s.2.1 v 0) 2) (s.1 (s.2.1 v 0) 3) (s.1 (s.2.1 v 0) 1) w (owedN V s.2.1 (s.2.1 v 0)) (s.1 (s.2.1 v 0) 4) = s.1 (s.2.1 v 0) 2
        · rw [c2]
          simp (disch := omega) only [Nat.sub_self, ↓reduceIte, eq_self, Bool.false_eq_true, reduceCtorEq, ob_s, ob2_s, od_e, onl_n, onl_s, ι_nat, ι_add, ι_mul, ι_sub, ι_addm, lt_t, lt_f, le_t, le_f, eq_t, eq_f, inb_t, inb_f, neq_f, neq_f2, neq_nf, nlt_t, nlt_f, nle_t, nle_f, ms_at, ms_off, up_at, up_off, L0, L1, L2, L3, L4, L5, L6, L7, L8, L9, L10, L11, L12, L13, L14, L15, L16, L17, L18, L19, L20, L21, L22, L23, L24, L30, L31, L32, L40, L41, L42, L43, L45, L47, L48, L52, L57, L59, L60, L61, L63, L64, L72, L97, L99, L100, L122, L160, L161, L200, L255, L999, L1200, L1998, L99999, L100000, L1000005]
        · simp (disch := omega) only [nsub, ↓reduceIte, eq_self, Bool.false_eq_true, reduceCtorEq, ob_s, ob2_s, od_e, onl_n, onl_s, ι_nat, ι_add, ι_mul, ι_sub, ι_addm, lt_t, lt_f, le_t, le_f, eq_t, eq_f, inb_t, inb_f, neq_f, neq_f2, neq_nf, nlt_t, nlt_f, nle_t, nle_f, ms_at, ms_off, up_at, up_off, L0, L1, L2, L3, L4, L5, L6, L7, L8, L9, L10, L11, L12, L13, L14, L15, L16, L17, L18, L19, L20, L21, L22, L23, L24, L30, L31, L32, L40, L41, L42, L43, L45, L47, L48, L52, L57, L59, L60, L61, L63, L64, L72, L97, L99, L100, L122, L160, L161, L200, L255, L999, L1200, L1998, L99999, L100000, L1000005]
    refine ⟨ms (ms (ms σ' (t + 3 + s.2.1 v 0) 2 (ι (s.1 (s.2.1 v 0) 2 - (s.2.1 v 2 + sayN X y 1 (s.1 (s.2.1 v 0) 2) (s.1 (s.2.1 v 0) 3) (s.1 (s.2.1 v 0) 1) w (owedN V s.2.1 (s.2.1 v 0)) (s.1 (s.2.1 v 0) 4))))) (t + 9 + v) 4 (ι 1)) t 10 (ι (s.2.2 3 + s.2.1 v 2)), ?_, ⟨⟨?_, ?_, ?_, ?_, ?_, ?_⟩, ?_, ?_, ?_, ?_, ?_⟩, ?_⟩
    · unfold cntA at hc
      unfold f_X6_pays
      simp (disch := omega) only [e0, e2, mc, cc, ow, a3, a4, g1, cut, nk, nv, ↓reduceIte, eq_self, Bool.false_eq_true, reduceCtorEq, ob_s, ob2_s, od_e, onl_n, onl_s, ι_nat, ι_add, ι_mul, ι_sub, ι_addm, lt_t, lt_f, le_t, le_f, eq_t, eq_f, inb_t, inb_f, neq_f, neq_f2, neq_nf, nlt_t, nlt_f, nle_t, nle_f, ms_at, ms_off, up_at, up_off, L0, L1, L2, L3, L4, L5, L6, L7, L8, L9, L10, L11, L12, L13, L14, L15, L16, L17, L18, L19, L20, L21, L22, L23, L24, L30, L31, L32, L40, L41, L42, L43, L45, L47, L48, L52, L57, L59, L60, L61, L63, L64, L72, L97, L99, L100, L122, L160, L161, L200, L255, L999, L1200, L1998, L99999, L100000, L1000005]
    · simp (disch := omega) only [g2, ↓reduceIte, eq_self, Bool.false_eq_true, reduceCtorEq, ob_s, ob2_s, od_e, onl_n, onl_s, ι_nat, ι_add, ι_mul, ι_sub, ι_addm, lt_t, lt_f, le_t, le_f, eq_t, eq_f, inb_t, inb_f, neq_f, neq_f2, neq_nf, nlt_t, nlt_f, nle_t, nle_f, ms_at, ms_off, up_at, up_off, L0, L1, L2, L3, L4, L5, L6, L7, L8, L9, L10, L11, L12, L13, L14, L15, L16, L17, L18, L19, L20, L21, L22, L23, L24, L30, L31, L32, L40, L41, L42, L43, L45, L47, L48, L52, L57, L59, L60, L61, L63, L64, L72, L97, L99, L100, L122, L160, L161, L200, L255, L999, L1200, L1998, L99999, L100000, L1000005]
      exact a1
    · simp (disch := omega) only [g2, ↓reduceIte, eq_self, Bool.false_eq_true, reduceCtorEq, ob_s, ob2_s, od_e, onl_n, onl_s, ι_nat, ι_add, ι_mul, ι_sub, ι_addm, lt_t, lt_f, le_t, le_f, eq_t, eq_f, inb_t, inb_f, neq_f, neq_f2, neq_nf, nlt_t, nlt_f, nle_t, nle_f, ms_at, ms_off, up_at, up_off, L0, L1, L2, L3, L4, L5, L6, L7, L8, L9, L10, L11, L12, L13, L14, L15, L16, L17, L18, L19, L20, L21, L22, L23, L24, L30, L31, L32, L40, L41, L42, L43, L45, L47, L48, L52, L57, L59, L60, L61, L63, L64, L72, L97, L99, L100, L122, L160, L161, L200, L255, L999, L1200, L1998, L99999, L100000, L1000005]
      exact a2
    · simp (disch := omega) only [g2, ↓reduceIte, eq_self, Bool.false_eq_true, reduceCtorEq, ob_s, ob2_s, od_e, onl_n, onl_s, ι_nat, ι_add, ι_mul, ι_sub, ι_addm, lt_t, lt_f, le_t, le_f, eq_t, eq_f, inb_t, inb_f, neq_f, neq_f2, neq_nf, nlt_t, nlt_f, nle_t, nle_f, ms_at, ms_off, up_at, up_off, L0, L1, L2, L3, L4, L5, L6, L7, L8, L9, L10, L11, L12, L13, L14, L15, L16, L17, L18, L19, L20, L21, L22, L23, L24, L30, L31, L32, L40, L41, L42, L43, L45, L47, L48, L52, L57, L59, L60, L61, L63, L64, L72, L97, L99, L100, L122, L160, L161, L200, L255, L999, L1200, L1998, L99999, L100000, L1000005]
      exact a3
    · simp (disch := omega) only [g2, ↓reduceIte, eq_self, Bool.false_eq_true, reduceCtorEq, ob_s, ob2_s, od_e, onl_n, onl_s, ι_nat, ι_add, ι_mul, ι_sub, ι_addm, lt_t, lt_f, le_t, le_f, eq_t, eq_f, inb_t, inb_f, neq_f, neq_f2, neq_nf, nlt_t, nlt_f, nle_t, nle_f, ms_at, ms_off, up_at, up_off, L0, L1, L2, L3, L4, L5, L6, L7, L8, L9, L10, L11, L12, L13, L14, L15, L16, L17, L18, L19, L20, L21, L22, L23, L24, L30, L31, L32, L40, L41, L42, L43, L45, L47, L48, L52, L57, L59, L60, L61, L63, L64, L72, L97, L99, L100, L122, L160, L161, L200, L255, L999, L1200, L1998, L99999, L100000, L1000005]
      exact a4
    · refine CA_fr (CA_up (CA_fr a5 (fun i j hi => g2 _ _ (by omega) (by omega))) (by decide)) (fun i j hi => ?_)
      rw [ms_off (by omega), ms_off (by omega)]
      rfl
    · refine CB_fr (CB_up (v := v) (j := 4) (x := 1) (CB_fr (σ' := ms σ' (t + 3 + s.2.1 v 0) 2 (ι (s.1 (s.2.1 v 0) 2 - (s.2.1 v 2 + sayN X y 1 (s.1 (s.2.1 v 0) 2) (s.1 (s.2.1 v 0) 3) (s.1 (s.2.1 v 0) 1) w (owedN V s.2.1 (s.2.1 v 0)) (s.1 (s.2.1 v 0) 4))))) a6 (fun i j hi => ?_)) (by decide)) (fun i j hi => ?_)
      · rw [ms_off (by omega), g2 _ _ (by omega) (by omega)]
      · rw [ms_off (by omega)]
    · simp (disch := omega) only [g2, ↓reduceIte, eq_self, Bool.false_eq_true, reduceCtorEq, ob_s, ob2_s, od_e, onl_n, onl_s, ι_nat, ι_add, ι_mul, ι_sub, ι_addm, lt_t, lt_f, le_t, le_f, eq_t, eq_f, inb_t, inb_f, neq_f, neq_f2, neq_nf, nlt_t, nlt_f, nle_t, nle_f, ms_at, ms_off, up_at, up_off, L0, L1, L2, L3, L4, L5, L6, L7, L8, L9, L10, L11, L12, L13, L14, L15, L16, L17, L18, L19, L20, L21, L22, L23, L24, L30, L31, L32, L40, L41, L42, L43, L45, L47, L48, L52, L57, L59, L60, L61, L63, L64, L72, L97, L99, L100, L122, L160, L161, L200, L255, L999, L1200, L1998, L99999, L100000, L1000005]
      exact k0
    · simp (disch := omega) only [g2, ↓reduceIte, eq_self, Bool.false_eq_true, reduceCtorEq, ob_s, ob2_s, od_e, onl_n, onl_s, ι_nat, ι_add, ι_mul, ι_sub, ι_addm, lt_t, lt_f, le_t, le_f, eq_t, eq_f, inb_t, inb_f, neq_f, neq_f2, neq_nf, nlt_t, nlt_f, nle_t, nle_f, ms_at, ms_off, up_at, up_off, L0, L1, L2, L3, L4, L5, L6, L7, L8, L9, L10, L11, L12, L13, L14, L15, L16, L17, L18, L19, L20, L21, L22, L23, L24, L30, L31, L32, L40, L41, L42, L43, L45, L47, L48, L52, L57, L59, L60, L61, L63, L64, L72, L97, L99, L100, L122, L160, L161, L200, L255, L999, L1200, L1998, L99999, L100000, L1000005]
      exact k1
    · simp (disch := omega) only [g2, ↓reduceIte, eq_self, Bool.false_eq_true, reduceCtorEq, ob_s, ob2_s, od_e, onl_n, onl_s, ι_nat, ι_add, ι_mul, ι_sub, ι_addm, lt_t, lt_f, le_t, le_f, eq_t, eq_f, inb_t, inb_f, neq_f, neq_f2, neq_nf, nlt_t, nlt_f, nle_t, nle_f, ms_at, ms_off, up_at, up_off, L0, L1, L2, L3, L4, L5, L6, L7, L8, L9, L10, L11, L12, L13, L14, L15, L16, L17, L18, L19, L20, L21, L22, L23, L24, L30, L31, L32, L40, L41, L42, L43, L45, L47, L48, L52, L57, L59, L60, L61, L63, L64, L72, L97, L99, L100, L122, L160, L161, L200, L255, L999, L1200, L1998, L99999, L100000, L1000005]
      exact k2
    · simp (disch := omega) only [↓reduceIte, eq_self, Bool.false_eq_true, reduceCtorEq, ob_s, ob2_s, od_e, onl_n, onl_s, ι_nat, ι_add, ι_mul, ι_sub, ι_addm, lt_t, lt_f, le_t, le_f, eq_t, eq_f, inb_t, inb_f, neq_f, neq_f2, neq_nf, nlt_t, nlt_f, nle_t, nle_f, ms_at, ms_off, up_at, up_off, L0, L1, L2, L3, L4, L5, L6, L7, L8, L9, L10, L11, L12, L13, L14, L15, L16, L17, L18, L19, L20, L21, L22, L23, L24, L30, L31, L32, L40, L41, L42, L43, L45, L47, L48, L52, L57, L59, L60, L61, L63, L64, L72, L97, L99, L100, L122, L160, L161, L200, L255, L999, L1200, L1998, L99999, L100000, L1000005]
      rfl
    · simp (disch := omega) only [g2, ↓reduceIte, eq_self, Bool.false_eq_true, reduceCtorEq, ob_s, ob2_s, od_e, onl_n, onl_s, ι_nat, ι_add, ι_mul, ι_sub, ι_addm, lt_t, lt_f, le_t, le_f, eq_t, eq_f, inb_t, inb_f, neq_f, neq_f2, neq_nf, nlt_t, nlt_f, nle_t, nle_f, ms_at, ms_off, up_at, up_off, L0, L1, L2, L3, L4, L5, L6, L7, L8, L9, L10, L11, L12, L13, L14, L15, L16, L17, L18, L19, L20, L21, L22, L23, L24, L30, L31, L32, L40, L41, L42, L43, L45, L47, L48, L52, L57, L59, L60, L61, L63, L64, L72, L97, L99, L100, L122, L160, L161, L200, L255, L999, L1200, L1998, L99999, L100000, L1000005]
      exact k4
    · intro k j q1 q2 q3 q4
      rw [ms_off (by omega), ms_off (by omega), ms_off (by omega), g2 k j q1 q2]
  · intro hc
    unfold cntA at hc
    unfold f_X6_pays
    simp (disch := omega) only [e0, e2, mc, cc, ↓reduceIte, eq_self, Bool.false_eq_true, reduceCtorEq, ob_s, ob2_s, od_e, onl_n, onl_s, ι_nat, ι_add, ι_mul, ι_sub, ι_addm, lt_t, lt_f, le_t, le_f, eq_t, eq_f, inb_t, inb_f, neq_f, neq_f2, neq_nf, nlt_t, nlt_f, nle_t, nle_f, ms_at, ms_off, up_at, up_off, L0, L1, L2, L3, L4, L5, L6, L7, L8, L9, L10, L11, L12, L13, L14, L15, L16, L17, L18, L19, L20, L21, L22, L23, L24, L30, L31, L32, L40, L41, L42, L43, L45, L47, L48, L52, L57, L59, L60, L61, L63, L64, L72, L97, L99, L100, L122, L160, L161, L200, L255, L999, L1200, L1998, L99999, L100000, L1000005]
theorem c_isLate {t M V w y v N : Nat} {s : DS} {σ : Mem} (hM : M ≤ 6) (h8 : V ≤ 8) (hw : w < 100000) (hs : CD t M V w y s σ) (hO : OKD M V N s) (hv : v < V) :
    f_X6_isLate σ t (t + 9 + v) = some (ι (if matN s.2.1 v + grcN (s.1 (s.2.1 v 0) 0) ≤ w then 1 else 0)) := by
  obtain ⟨⟨a1, a2, a3, a4, a5, a6⟩, -⟩ := hs
  obtain ⟨h1, h2, h3, h4⟩ := hO
  obtain ⟨o0, o1, o2, o3, o4, o5, o6, o7⟩ := h2 v hv
  obtain ⟨p0, p1, p2, p3, p4, p5⟩ := h1 _ o0
  obtain ⟨e0, e1, e2, e3, e4, e5⟩ := a6 v hv
  obtain ⟨m0, m1, m2, m3, m4, m5⟩ := a5 _ o0
  have mc := c_manAt a1 hM o0
  have cg := c_grace m0 p0
  have gl := grcN_le (kd := s.1 (s.2.1 v 0) 0)
  have mt := c_matures a2 h8 a6 h2 hv
  have ml := matN_le h2 hv
  unfold f_X6_isLate
  by_cases c : matN s.2.1 v + grcN (s.1 (s.2.1 v 0) 0) ≤ w
  · rw [if_pos c]
    simp (disch := omega) only [e0, mc, mt, cg, a3, ↓reduceIte, eq_self, Bool.false_eq_true, reduceCtorEq, ob_s, ob2_s, od_e, onl_n, onl_s, ι_nat, ι_add, ι_mul, ι_sub, ι_addm, lt_t, lt_f, le_t, le_f, eq_t, eq_f, inb_t, inb_f, neq_f, neq_f2, neq_nf, nlt_t, nlt_f, nle_t, nle_f, ms_at, ms_off, up_at, up_off, L0, L1, L2, L3, L4, L5, L6, L7, L8, L9, L10, L11, L12, L13, L14, L15, L16, L17, L18, L19, L20, L21, L22, L23, L24, L30, L31, L32, L40, L41, L42, L43, L45, L47, L48, L52, L57, L59, L60, L61, L63, L64, L72, L97, L99, L100, L122, L160, L161, L200, L255, L999, L1200, L1998, L99999, L100000, L1000005]
  · rw [if_neg c]
    simp (disch := omega) only [e0, mc, mt, cg, a3, ↓reduceIte, eq_self, Bool.false_eq_true, reduceCtorEq, ob_s, ob2_s, od_e, onl_n, onl_s, ι_nat, ι_add, ι_mul, ι_sub, ι_addm, lt_t, lt_f, le_t, le_f, eq_t, eq_f, inb_t, inb_f, neq_f, neq_f2, neq_nf, nlt_t, nlt_f, nle_t, nle_f, ms_at, ms_off, up_at, up_off, L0, L1, L2, L3, L4, L5, L6, L7, L8, L9, L10, L11, L12, L13, L14, L15, L16, L17, L18, L19, L20, L21, L22, L23, L24, L30, L31, L32, L40, L41, L42, L43, L45, L47, L48, L52, L57, L59, L60, L61, L63, L64, L72, L97, L99, L100, L122, L160, L161, L200, L255, L999, L1200, L1998, L99999, L100000, L1000005]
