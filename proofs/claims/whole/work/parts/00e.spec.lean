/-! THE PURE PART: what both memories stand for -/
/-- codes of a text: a number, a name, a sign -/
def okc (c : Int32) : Prop := (∃ n, n ≤ 9999 ∧ c = ι n) ∨ (∃ n, 1 ≤ n ∧ n ≤ 6 ∧ c = -ι n) ∨ (∃ n, 10 ≤ n ∧ n ≤ 18 ∧ c = -ι n)
/-- the reference's code -/
def cm (c : Int32) : Int32 := if 0 ≤ c then 100000 + c else if c = -10 then 11 else if c = -11 then 12 else if c = -12 then 14 else if c = -13 then 15 else if c = -14 then 16 else if c = -15 then 17 else if c = -16 then 18 else if c = -17 then 13 else if c = -18 then 19 else -1 - c
/-- the height of the stack behind so many codes -/
def hg (c : Nat → Int32) : Nat → Nat
  | 0 => 0
  | k + 1 => if -10 < c k then hg c k + 1 else if c k = -17 ∨ c k = -18 then hg c k else hg c k - 1
def WFc (c : Nat → Int32) (n : Nat) : Prop := hg c n = 1 ∧ n < 160 ∧ (∀ k, k ≤ n → hg c k ≤ 64) ∧ ∀ k, k < n → okc (c k) ∧ (¬ -10 < c k → 1 ≤ hg c k) ∧ (¬ -10 < c k → ¬ (c k = -17 ∨ c k = -18) → 2 ≤ hg c k)
def opn (nm : Nat → Int32) (c : Int32) : Int32 := if c < 0 then nm (-1 - c).toNatClampNeg else c
def un (c a : Int32) : Int32 := if c = -18 then -a else if a = 0 then 1 else 0
/-- what lies on the stack behind so many codes -/
def evS (nm : Nat → Int32) (c : Nat → Int32) : Nat → Nat → Int32
  | 0 => fun _ => 0
  | k + 1 => if -10 < c k then (fun j => if j = hg c k then opn nm (c k) else evS nm c k j)
    else if c k = -17 ∨ c k = -18 then (fun j => if j = hg c k - 1 then un (c k) (evS nm c k (hg c k - 1)) else evS nm c k j)
    else (fun j => if j = hg c k - 2 then f_X3_joined (c k) (evS nm c k (hg c k - 2)) (evS nm c k (hg c k - 1)) else evS nm c k j)
def nmv (b o m w ow r : Nat) : Nat → Int32 := fun q => if q = 0 then ι b else if q = 1 then ι o else if q = 2 then ι m else if q = 3 then ι w else if q = 4 then ι ow else ι r
def cl99 (v : Int32) : Nat := if v < 0 then 0 else if 99 < v then 99 else v.toNatClampNeg
abbrev XT : Type := (Nat → Nat → Nat → Int32) × (Nat → Nat → Nat)
/-- what part q of text y says of a man -/
def sayN (X : XT) (y q b o m w ow r : Nat) : Nat := cl99 (evS (nmv b o m w ow r) (X.1 y q) (X.2 y q) 0)
theorem cl99_le (v : Int32) : cl99 v ≤ 99 := by
  unfold cl99
  split
  · exact Nat.zero_le _
  · split
    · exact Nat.le_refl _
    · rename_i h
      rw [Int32.lt_iff_toInt_lt] at h
      have : (99 : Int32).toInt = 99 := rfl
      show v.toInt.toNat ≤ 99
      omega
theorem sayN_le (X : XT) (y q b o m w ow r : Nat) : sayN X y q b o m w ow r ≤ 99 := cl99_le _
theorem cl99_c (v : Int32) : f_J9_max_7cf53 (0 : Int32) (f_J9_min_7cf53 (99 : Int32) v) = ι (cl99 v) := by
  unfold f_J9_max_7cf53 f_J9_min_7cf53 cl99
  rcases arg v with ⟨k, h1, h2⟩ | ⟨k, h1, h2, h3⟩
  · subst h2
    by_cases h : 99 < k
    · simp (disch := omega) only [↓reduceIte, eq_self, Bool.false_eq_true, reduceCtorEq, ob_s, ob2_s, od_e, onl_n, onl_s, ι_nat, ι_add, ι_mul, ι_sub, ι_addm, lt_t, lt_f, le_t, le_f, eq_t, eq_f, inb_t, inb_f, neq_f, neq_f2, neq_nf, nlt_t, nlt_f, nle_t, nle_f, ms_at, ms_off, up_at, up_off, L0, L1, L2, L3, L4, L5, L6, L7, L8, L9, L10, L11, L12, L13, L14, L15, L16, L17, L18, L19, L20, L21, L22, L23, L24, L30, L31, L32, L40, L41, L42, L43, L45, L47, L48, L52, L57, L59, L60, L61, L63, L64, L72, L97, L99, L100, L122, L160, L161, L200, L255, L999, L1200, L1998, L99999, L100000, L1000005]
    · by_cases h0 : k = 0
      · subst h0
        simp (disch := omega) only [↓reduceIte, eq_self, Bool.false_eq_true, reduceCtorEq, ob_s, ob2_s, od_e, onl_n, onl_s, ι_nat, ι_add, ι_mul, ι_sub, ι_addm, lt_t, lt_f, le_t, le_f, eq_t, eq_f, inb_t, inb_f, neq_f, neq_f2, neq_nf, nlt_t, nlt_f, nle_t, nle_f, ms_at, ms_off, up_at, up_off, L0, L1, L2, L3, L4, L5, L6, L7, L8, L9, L10, L11, L12, L13, L14, L15, L16, L17, L18, L19, L20, L21, L22, L23, L24, L30, L31, L32, L40, L41, L42, L43, L45, L47, L48, L52, L57, L59, L60, L61, L63, L64, L72, L97, L99, L100, L122, L160, L161, L200, L255, L999, L1200, L1998, L99999, L100000, L1000005]
      · by_cases h9 : k = 99
        · subst h9
          simp (disch := omega) only [↓reduceIte, eq_self, Bool.false_eq_true, reduceCtorEq, ob_s, ob2_s, od_e, onl_n, onl_s, ι_nat, ι_add, ι_mul, ι_sub, ι_addm, lt_t, lt_f, le_t, le_f, eq_t, eq_f, inb_t, inb_f, neq_f, neq_f2, neq_nf, nlt_t, nlt_f, nle_t, nle_f, ms_at, ms_off, up_at, up_off, L0, L1, L2, L3, L4, L5, L6, L7, L8, L9, L10, L11, L12, L13, L14, L15, L16, L17, L18, L19, L20, L21, L22, L23, L24, L30, L31, L32, L40, L41, L42, L43, L45, L47, L48, L52, L57, L59, L60, L61, L63, L64, L72, L97, L99, L100, L122, L160, L161, L200, L255, L999, L1200, L1998, L99999, L100000, L1000005]
        · simp (disch := omega) only [↓reduceIte, eq_self, Bool.false_eq_true, reduceCtorEq, ob_s, ob2_s, od_e, onl_n, onl_s, ι_nat, ι_add, ι_mul, ι_sub, ι_addm, lt_t, lt_f, le_t, le_f, eq_t, eq_f, inb_t, inb_f, neq_f, neq_f2, neq_nf, nlt_t, nlt_f, nle_t, nle_f, ms_at, ms_off, up_at, up_off, L0, L1, L2, L3, L4, L5, L6, L7, L8, L9, L10, L11, L12, L13, L14, L15, L16, L17, L18, L19, L20, L21, L22, L23, L24, L30, L31, L32, L40, L41, L42, L43, L45, L47, L48, L52, L57, L59, L60, L61, L63, L64, L72, L97, L99, L100, L122, L160, L161, L200, L255, L999, L1200, L1998, L99999, L100000, L1000005]
  · have hn : ng v := by unfold ng; omega
    simp (disch := omega) only [L0, L99, ng_lt hn, ng_gt hn, ↓reduceIte]
theorem cl99_r (v : Int32) : f_X9_within v (0 : Int32) (99 : Int32) = ι (cl99 v) := by
  unfold f_X9_within cl99
  rcases arg v with ⟨k, h1, h2⟩ | ⟨k, h1, h2, h3⟩
  · subst h2
    by_cases h : 99 < k
    · simp (disch := omega) only [↓reduceIte, eq_self, Bool.false_eq_true, reduceCtorEq, ob_s, ob2_s, od_e, onl_n, onl_s, ι_nat, ι_add, ι_mul, ι_sub, ι_addm, lt_t, lt_f, le_t, le_f, eq_t, eq_f, inb_t, inb_f, neq_f, neq_f2, neq_nf, nlt_t, nlt_f, nle_t, nle_f, ms_at, ms_off, up_at, up_off, L0, L1, L2, L3, L4, L5, L6, L7, L8, L9, L10, L11, L12, L13, L14, L15, L16, L17, L18, L19, L20, L21, L22, L23, L24, L30, L31, L32, L40, L41, L42, L43, L45, L47, L48, L52, L57, L59, L60, L61, L63, L64, L72, L97, L99, L100, L122, L160, L161, L200, L255, L999, L1200, L1998, L99999, L100000, L1000005]
    · simp (disch := omega) only [↓reduceIte, eq_self, Bool.false_eq_true, reduceCtorEq, ob_s, ob2_s, od_e, onl_n, onl_s, ι_nat, ι_add, ι_mul, ι_sub, ι_addm, lt_t, lt_f, le_t, le_f, eq_t, eq_f, inb_t, inb_f, neq_f, neq_f2, neq_nf, nlt_t, nlt_f, nle_t, nle_f, ms_at, ms_off, up_at, up_off, L0, L1, L2, L3, L4, L5, L6, L7, L8, L9, L10, L11, L12, L13, L14, L15, L16, L17, L18, L19, L20, L21, L22, L23, L24, L30, L31, L32, L40, L41, L42, L43, L45, L47, L48, L52, L57, L59, L60, L61, L63, L64, L72, L97, L99, L100, L122, L160, L161, L200, L255, L999, L1200, L1998, L99999, L100000, L1000005]
  · have hn : ng v := by unfold ng; omega
    simp (disch := omega) only [L0, L99, ng_lt hn, ng_ge hn, ↓reduceIte]
/-- men: kind, more, beard, oil, rank, shorn; vows: from, to, inches, due, state, plait (0: none, else one more) -/
def growN (k m w s : Nat) : Nat := if k = 1 then s / 2 else if k = 2 then (if w < 2 * m then 0 else s + 1) else if k = 3 then s / 2 + m / 3 else if k = 4 then (if w % 4 = 3 then 0 else (if w < 2 * m then 0 else s + 1) + 2) else if k = 5 then (if w % 52 < 10 ∨ 42 < w % 52 then s / 3 else s + m / 2) else s
def cntN (k m b : Nat) : Nat := if k = 1 ∨ k = 3 then 2 * b else if k = 4 then b * (9 - m) / 10 else b
def grcN (k : Nat) : Nat := if k = 2 ∨ k = 4 then 1 else if k = 3 then 4 else 0
def owedN (V : Nat) (B : Nat → Nat → Nat) (m : Nat) : Nat := sumF (fun v => if B v 4 = 0 ∧ B v 0 = m then B v 2 else 0) 0 V
def matN (B : Nat → Nat → Nat) (v : Nat) : Nat := if B v 5 = 0 then B v 3 else max (B v 3) (B (B v 5 - 1) 3)
def OKA (M : Nat) (A : Nat → Nat → Nat) : Prop := ∀ i, i < M → A i 0 ≤ 5 ∧ A i 1 ≤ 9 ∧ A i 2 ≤ 999 ∧ A i 3 ≤ 9 ∧ A i 4 ≤ 9 ∧ A i 5 ≤ 1
def OKB (M V : Nat) (B : Nat → Nat → Nat) : Prop := ∀ v, v < V → B v 0 < M ∧ B v 1 < M ∧ B v 0 ≠ B v 1 ∧ B v 2 ≤ 200 ∧ B v 3 ≤ 999 ∧ B v 4 ≤ 3 ∧ B v 5 ≤ V ∧ (B v 4 = 0 → 1 ≤ B v 2)
/-- plaits go both ways -/
def OKS (V : Nat) (B : Nat → Nat → Nat) : Prop := ∀ v, v < V → ∀ u, B v 5 = u + 1 → B u 5 = v + 1
def OKB2 (M V : Nat) (B : Nat → Nat → Nat) : Prop := OKB M V B ∧ OKS V B
def CA (t M : Nat) (A : Nat → Nat → Nat) (σ : Mem) : Prop := ∀ i, i < M → σ (t + 3 + i) 0 = ι (A i 0) ∧ σ (t + 3 + i) 1 = ι (A i 1) ∧ σ (t + 3 + i) 2 = ι (A i 2) ∧ σ (t + 3 + i) 3 = ι (A i 3) ∧ σ (t + 3 + i) 4 = ι (A i 4) ∧ σ (t + 3 + i) 5 = ι (A i 5)
def CB (t V : Nat) (B : Nat → Nat → Nat) (σ : Mem) : Prop := ∀ v, v < V → σ (t + 9 + v) 0 = ι (B v 0) ∧ σ (t + 9 + v) 1 = ι (B v 1) ∧ σ (t + 9 + v) 2 = ι (B v 2) ∧ σ (t + 9 + v) 3 = ι (B v 3) ∧ σ (t + 9 + v) 4 = ι (B v 4) ∧ σ (t + 9 + v) 5 = pl (B v 5)
def FA (M : Nat) (A : Nat → Nat → Nat) (τ : Mem) : Prop := ∀ i, i < M → τ 1 i = ι (A i 0) ∧ τ 2 i = ι (A i 1) ∧ τ 3 (4 * i) = ι (A i 2) ∧ τ 3 (4 * i + 1) = ι (A i 3) ∧ τ 3 (4 * i + 2) = ι (A i 4) ∧ τ 3 (4 * i + 3) = ι (A i 5)
def FB (V : Nat) (B : Nat → Nat → Nat) (τ : Mem) : Prop := ∀ v, v < V → τ 4 (6 * v) = ι (B v 0) ∧ τ 4 (6 * v + 1) = ι (B v 1) ∧ τ 4 (6 * v + 2) = ι (B v 2) ∧ τ 4 (6 * v + 3) = ι (B v 3) ∧ τ 4 (6 * v + 4) = pl (B v 5) ∧ τ 4 (6 * v + 5) = ι (B v 4)
def CT (t M V w y : Nat) (A B : Nat → Nat → Nat) (σ : Mem) : Prop := σ t 3 = ι M ∧ σ t 4 = ι V ∧ σ t 5 = ι w ∧ σ t 6 = ι y ∧ CA t M A σ ∧ CB t V B σ
def FT (M V w y : Nat) (A B : Nat → Nat → Nat) (τ : Mem) : Prop := τ 0 0 = ι M ∧ τ 0 4 = ι V ∧ τ 0 6 = ι w ∧ τ 0 12 = ι y ∧ FA M A τ ∧ FB V B τ
/-- the texts -/
def CXT (T : Nat) (X : XT) (σ : Mem) : Prop := σ 1 1 = ι T ∧ ∀ i, i < T → ∀ q, q < 3 → alen σ (tad i + 1 + q) = X.2 i q ∧ ∀ j, j < X.2 i q → σ (tad i + 1 + q) j = X.1 i q j
def FXT (T : Nat) (X : XT) (τ : Mem) : Prop := τ 0 11 = ι T ∧ ∀ i, i < T → ∀ q, q < 3 → ∃ a, a + X.2 i q ≤ 200 ∧ τ 7 (4 * i + q) = ι a ∧ τ 7 (4 * i + q + 1) = ι (a + X.2 i q) ∧ ∀ j, j < X.2 i q → τ 6 (200 * i + (a + j)) = cm (X.1 i q j)
def OKX (T : Nat) (X : XT) : Prop := 1 ≤ T ∧ T ≤ 6 ∧ ∀ i, i < T → ∀ q, q < 3 → WFc (X.1 i q) (X.2 i q)
theorem ca_0 {t M : Nat} {A : Nat → Nat → Nat} {σ : Mem} (H : CA t M A σ) {i : Nat} (hi : i < M) : σ (t + 3 + i) 0 = ι (A i 0) := by
  obtain ⟨h, -, -, -, -, -⟩ := H i hi
  exact h
theorem ca_1 {t M : Nat} {A : Nat → Nat → Nat} {σ : Mem} (H : CA t M A σ) {i : Nat} (hi : i < M) : σ (t + 3 + i) 1 = ι (A i 1) := by
  obtain ⟨-, h, -, -, -, -⟩ := H i hi
  exact h
theorem ca_2 {t M : Nat} {A : Nat → Nat → Nat} {σ : Mem} (H : CA t M A σ) {i : Nat} (hi : i < M) : σ (t + 3 + i) 2 = ι (A i 2) := by
  obtain ⟨-, -, h, -, -, -⟩ := H i hi
  exact h
theorem ca_3 {t M : Nat} {A : Nat → Nat → Nat} {σ : Mem} (H : CA t M A σ) {i : Nat} (hi : i < M) : σ (t + 3 + i) 3 = ι (A i 3) := by
  obtain ⟨-, -, -, h, -, -⟩ := H i hi
  exact h
theorem ca_4 {t M : Nat} {A : Nat → Nat → Nat} {σ : Mem} (H : CA t M A σ) {i : Nat} (hi : i < M) : σ (t + 3 + i) 4 = ι (A i 4) := by
  obtain ⟨-, -, -, -, h, -⟩ := H i hi
  exact h
theorem ca_5 {t M : Nat} {A : Nat → Nat → Nat} {σ : Mem} (H : CA t M A σ) {i : Nat} (hi : i < M) : σ (t + 3 + i) 5 = ι (A i 5) := by
  obtain ⟨-, -, -, -, -, h⟩ := H i hi
  exact h
theorem cb_0 {t V : Nat} {B : Nat → Nat → Nat} {σ : Mem} (H : CB t V B σ) {i : Nat} (hi : i < V) : σ (t + 9 + i) 0 = ι (B i 0) := by
  obtain ⟨h, -, -, -, -, -⟩ := H i hi
  exact h
theorem cb_1 {t V : Nat} {B : Nat → Nat → Nat} {σ : Mem} (H : CB t V B σ) {i : Nat} (hi : i < V) : σ (t + 9 + i) 1 = ι (B i 1) := by
  obtain ⟨-, h, -, -, -, -⟩ := H i hi
  exact h
theorem cb_2 {t V : Nat} {B : Nat → Nat → Nat} {σ : Mem} (H : CB t V B σ) {i : Nat} (hi : i < V) : σ (t + 9 + i) 2 = ι (B i 2) := by
  obtain ⟨-, -, h, -, -, -⟩ := H i hi
  exact h
theorem cb_3 {t V : Nat} {B : Nat → Nat → Nat} {σ : Mem} (H : CB t V B σ) {i : Nat} (hi : i < V) : σ (t + 9 + i) 3 = ι (B i 3) := by
  obtain ⟨-, -, -, h, -, -⟩ := H i hi
  exact h
theorem cb_4 {t V : Nat} {B : Nat → Nat → Nat} {σ : Mem} (H : CB t V B σ) {i : Nat} (hi : i < V) : σ (t + 9 + i) 4 = ι (B i 4) := by
  obtain ⟨-, -, -, -, h, -⟩ := H i hi
  exact h
theorem cb_5 {t V : Nat} {B : Nat → Nat → Nat} {σ : Mem} (H : CB t V B σ) {i : Nat} (hi : i < V) : σ (t + 9 + i) 5 = pl (B i 5) := by
  obtain ⟨-, -, -, -, -, h⟩ := H i hi
  exact h
theorem fa_0 {M : Nat} {A : Nat → Nat → Nat} {τ : Mem} (H : FA M A τ) {i : Nat} (hi : i < M) : τ 1 i = ι (A i 0) := by
  obtain ⟨h, -, -, -, -, -⟩ := H i hi
  exact h
theorem fa_1 {M : Nat} {A : Nat → Nat → Nat} {τ : Mem} (H : FA M A τ) {i : Nat} (hi : i < M) : τ 2 i = ι (A i 1) := by
  obtain ⟨-, h, -, -, -, -⟩ := H i hi
  exact h
theorem fa_2 {M : Nat} {A : Nat → Nat → Nat} {τ : Mem} (H : FA M A τ) {i : Nat} (hi : i < M) : τ 3 (4 * i) = ι (A i 2) := by
  obtain ⟨-, -, h, -, -, -⟩ := H i hi
  exact h
theorem fa_3 {M : Nat} {A : Nat → Nat → Nat} {τ : Mem} (H : FA M A τ) {i : Nat} (hi : i < M) : τ 3 (4 * i + 1) = ι (A i 3) := by
  obtain ⟨-, -, -, h, -, -⟩ := H i hi
  exact h
theorem fa_4 {M : Nat} {A : Nat → Nat → Nat} {τ : Mem} (H : FA M A τ) {i : Nat} (hi : i < M) : τ 3 (4 * i + 2) = ι (A i 4) := by
  obtain ⟨-, -, -, -, h, -⟩ := H i hi
  exact h
theorem fa_5 {M : Nat} {A : Nat → Nat → Nat} {τ : Mem} (H : FA M A τ) {i : Nat} (hi : i < M) : τ 3 (4 * i + 3) = ι (A i 5) := by
  obtain ⟨-, -, -, -, -, h⟩ := H i hi
  exact h
theorem fb_0 {V : Nat} {B : Nat → Nat → Nat} {τ : Mem} (H : FB V B τ) {i : Nat} (hi : i < V) : τ 4 (6 * i) = ι (B i 0) := by
  obtain ⟨h, -, -, -, -, -⟩ := H i hi
  exact h
theorem fb_1 {V : Nat} {B : Nat → Nat → Nat} {τ : Mem} (H : FB V B τ) {i : Nat} (hi : i < V) : τ 4 (6 * i + 1) = ι (B i 1) := by
  obtain ⟨-, h, -, -, -, -⟩ := H i hi
  exact h
theorem fb_2 {V : Nat} {B : Nat → Nat → Nat} {τ : Mem} (H : FB V B τ) {i : Nat} (hi : i < V) : τ 4 (6 * i + 2) = ι (B i 2) := by
  obtain ⟨-, -, h, -, -, -⟩ := H i hi
  exact h
theorem fb_3 {V : Nat} {B : Nat → Nat → Nat} {τ : Mem} (H : FB V B τ) {i : Nat} (hi : i < V) : τ 4 (6 * i + 3) = ι (B i 3) := by
  obtain ⟨-, -, -, h, -, -⟩ := H i hi
  exact h
theorem fb_4 {V : Nat} {B : Nat → Nat → Nat} {τ : Mem} (H : FB V B τ) {i : Nat} (hi : i < V) : τ 4 (6 * i + 4) = pl (B i 5) := by
  obtain ⟨-, -, -, -, h, -⟩ := H i hi
  exact h
theorem fb_5 {V : Nat} {B : Nat → Nat → Nat} {τ : Mem} (H : FB V B τ) {i : Nat} (hi : i < V) : τ 4 (6 * i + 5) = ι (B i 4) := by
  obtain ⟨-, -, -, -, -, h⟩ := H i hi
  exact h
