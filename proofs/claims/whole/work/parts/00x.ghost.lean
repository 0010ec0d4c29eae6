/-! THE PURE PART: one man's beard, week behind week -/
def rowB (a : Nat → Nat) (b : Nat) : Nat → Nat := fun j => if j = 2 then b else a j
def bdN (X : XT) (y : Nat) (a : Nat → Nat) (w ow : Nat) : Nat → Nat
  | 0 => a 2
  | n + 1 => grownN X y (rowB a (bdN X y a w ow n)) (w + n) ow
def firstN (P : Nat → Bool) : Nat → Nat → Nat
  | 0, _ => 0
  | d + 1, i => if P i = true then i + 1 else firstN P d (i + 1)
theorem firstN_le {P : Nat → Bool} : ∀ d i, firstN P d i ≤ i + d
  | 0, _ => Nat.zero_le _
  | d + 1, i => by
    have := firstN_le (P := P) d (i + 1)
    show (if P i = true then i + 1 else firstN P d (i + 1)) ≤ _
    split <;> omega
theorem rowB_2 {a : Nat → Nat} {b : Nat} : rowB a b 2 = b := rfl
theorem rowB_self {a : Nat → Nat} : rowB a (a 2) = a := by
  funext j
  unfold rowB
  split
  · rename_i h
    rw [h]
  · rfl
theorem bdN_le {X : XT} {y w ow : Nat} {a : Nat → Nat} (h : a 2 ≤ 999) : ∀ n, bdN X y a w ow n ≤ 999
  | 0 => h
  | n + 1 => grownN_le (a := rowB a (bdN X y a w ow n)) (bdN_le h n)
theorem OK1_b {a : Nat → Nat} {b : Nat} (h : OK1 a) (hb : b ≤ 999) : OK1 (rowB a b) := by
  obtain ⟨h0, h1, h2, h3, h4, h5⟩ := h
  exact ⟨h0, h1, hb, h3, h4, h5⟩
theorem MC1_b {k b : Nat} {a : Nat → Nat} {σ : Mem} (h : MC1 k a σ) : MC1 k (rowB a b) (ms σ k 2 (ι b)) := by
  obtain ⟨h0, h1, h2, h3, h4, h5⟩ := h
  refine ⟨?_, ?_, ?_, ?_, ?_, ?_⟩
  · rw [ms_off (by omega)]; exact h0
  · rw [ms_off (by omega)]; exact h1
  · rw [ms_at rfl rfl]; rfl
  · rw [ms_off (by omega)]; exact h3
  · rw [ms_off (by omega)]; exact h4
  · rw [ms_off (by omega)]; exact h5
theorem MC1_fr {k : Nat} {a : Nat → Nat} {σ σ' : Mem} (h : MC1 k a σ) (e : ∀ j, σ' k j = σ k j) : MC1 k a σ' := by
  obtain ⟨h0, h1, h2, h3, h4, h5⟩ := h
  exact ⟨by rw [e]; exact h0, by rw [e]; exact h1, by rw [e]; exact h2, by rw [e]; exact h3, by rw [e]; exact h4, by rw [e]; exact h5⟩
/-- only the scribe's stack and names, and the ghost, have changed -/
def frG (σ σ' : Mem) : Prop := ∀ k j, k ≠ 3 → k ≠ 4 → k ≠ 75 → σ' k j = σ k j
theorem frG.rfl {σ : Mem} : frG σ σ := fun _ _ _ _ _ => Eq.refl _
theorem frG.tr {a b c : Mem} (h : frG a b) (g : frG b c) : frG a c := fun k j h1 h2 h3 => (g k j h1 h2 h3).trans (h k j h1 h2 h3)
theorem frG.sc {a b : Mem} (h : frG a b) : eqC a b := fun k j q => by
  unfold sC at q
  exact h k j (by omega) (by omega) (by omega)
/-- the ghost's beard grows -/
theorem c_ghost {T : Nat} {X : XT} {σ : Mem} (hX : CXT T X σ) (hO : OKX T X) {y w ow n : Nat} {a : Nat → Nat} (hy : y < T) (hm : MC1 75 (rowB a (bdN X y a w ow n)) σ) (h1 : OK1 a) (hw : w + n < 100000) :
    ∃ σ', f_X3_grown σ (ι y) 75 (ι (w + n)) (ι ow) = some (ι (bdN X y a w ow (n + 1)), σ') ∧ MC1 75 (rowB a (bdN X y a w ow (n + 1))) (ms σ' 75 2 (ι (bdN X y a w ow (n + 1)))) ∧ frG σ (ms σ' 75 2 (ι (bdN X y a w ow (n + 1)))) := by
  obtain ⟨σ', g1, g2⟩ := c_grown hX hO (ow := ow) hy (show 5 ≤ 75 by decide) hm (OK1_b h1 (bdN_le h1.2.2.1 n)) hw
  refine ⟨σ', g1, ?_, fun k j q1 q2 q3 => by rw [ms_off (by omega), g2 k j q1 q2]⟩
  have := MC1_b (b := bdN X y a w ow (n + 1)) (MC1_fr hm (fun j => g2 75 j (by decide) (by decide)))
  exact this
theorem c_become75 {σ : Mem} {k : Nat} {a : Nat → Nat} (hk : k ≠ 75) (hm : MC1 k a σ) (h1 : OK1 a) : ∃ σ', f_X1_become σ 75 (some k) = some σ' ∧ MC1 75 a σ' ∧ frG σ σ' := by
  obtain ⟨m0, m1, m2, m3, m4, m5⟩ := id hm
  have hs : σ k 5 = ι 0 ∨ σ k 5 = ι 1 := by
    rw [m5]
    have := h1.2.2.2.2.2
    by_cases c : a 5 = 0
    · rw [c]; exact Or.inl rfl
    · have c1 : a 5 = 1 := by omega
      rw [c1]; exact Or.inr rfl
  obtain ⟨σ', g1, g2⟩ := c_manBecome (a := 75) (b := k) (by omega) hs
  refine ⟨σ', g1, ⟨?_, ?_, ?_, ?_, ?_, ?_⟩, fun c j q1 q2 q3 => by rw [g2, if_neg (by omega)]⟩
  · rw [g2, if_pos (by omega)]; exact m0
  · rw [g2, if_pos (by omega)]; exact m1
  · rw [g2, if_pos (by omega)]; exact m2
  · rw [g2, if_pos (by omega)]; exact m3
  · rw [g2, if_pos (by omega)]; exact m4
  · rw [g2, if_pos (by omega)]; exact m5
theorem c_other_l {T s sz i : Nat} {X : XT} {ce : Nat → Int32} (hO : OKX T X) {y w ow : Nat} {a : Nat → Nat} (hs : s < 4) (hsz : sz ≤ 40) (hy : y < T) (h1 : OK1 a) (hw : w < 10000) : ∀ d i n (σ : Mem), i + d = sz → d < n → CXT T X σ → MC1 75 (rowB a (bdN X y a w ow i)) σ → σ (67 + 2 * s) 2 = ι sz → (∀ j, j < 40 → σ (68 + 2 * s) j = ce j) →
    ∃ σ', f_X8_otherwise_b31 (67 + 2 * s) (ι w) (ι y) (ι ow) n σ (ι i) = some (pl (firstN (fun j => decide (ce j ≠ ι (bdN X y a w ow (j + 1)))) d i), σ') ∧ frG σ σ' := by
  intro d
  induction d with
  | zero =>
    intro i n σ hi hn hX hm h2 hce
    obtain ⟨n, rfl⟩ : ∃ k, n = k + 1 := ⟨n - 1, by omega⟩
    refine ⟨σ, ?_, frG.rfl⟩
    unfold f_X8_otherwise_b31
    simp (disch := omega) only [h2, ↓reduceIte, eq_self, Bool.false_eq_true, reduceCtorEq, ob_s, ob2_s, od_e, onl_n, onl_s, ι_nat, ι_add, ι_mul, ι_sub, ι_addm, lt_t, lt_f, le_t, le_f, eq_t, eq_f, inb_t, inb_f, neq_f, neq_f2, neq_nf, nlt_t, nlt_f, nle_t, nle_f, ms_at, ms_off, up_at, up_off, L0, L1, L2, L3, L4, L5, L6, L7, L8, L9, L10, L11, L12, L13, L14, L15, L16, L17, L18, L19, L20, L21, L22, L23, L24, L30, L31, L32, L40, L41, L42, L43, L45, L47, L48, L52, L57, L59, L60, L61, L63, L64, L72, L97, L99, L100, L122, L160, L161, L200, L255, L999, L1200, L1998, L99999, L100000, L1000005]
    rfl
  | succ d ih =>
    intro i n σ hi hn hX hm h2 hce
    obtain ⟨n, rfl⟩ : ∃ k, n = k + 1 := ⟨n - 1, by omega⟩
    obtain ⟨σ1, g1, g2, g3⟩ := c_ghost (w := w) (ow := ow) (n := i) hX hO hy hm h1 (by omega)
    have bl := bdN_le (X := X) (y := y) (w := w) (ow := ow) h1.2.2.1 (i + 1)
    have e2 : ms σ1 75 2 (ι (bdN X y a w ow (i + 1))) (67 + 2 * s) 2 = ι sz := by rw [g3 _ _ (by omega) (by omega) (by omega)]; exact h2
    have ece : ∀ j, j < 40 → ms σ1 75 2 (ι (bdN X y a w ow (i + 1))) (68 + 2 * s) j = ce j := fun j hj => by rw [g3 _ _ (by omega) (by omega) (by omega)]; exact hce j hj
    have hnum : f_X4_number (ms σ1 75 2 (ι (bdN X y a w ow (i + 1)))) (67 + 2 * s) (ι i) = some (ce i) := by
      unfold f_X4_number
      rw [e2, show 67 + 2 * s + 1 = 68 + 2 * s by omega, L0, L40, if_neg (by rw [lt_f (by omega) (by omega)]; exact id), if_neg (by rw [le_f (by omega) (by omega)]; exact id), if_neg (by rw [le_f (by omega) (by omega)]; exact id), if_pos (inb_t (by omega) (by omega)), ι_nat (by omega), ece i (by omega)]
    show ∃ σ', _ = some (pl (if decide (ce i ≠ ι (bdN X y a w ow (i + 1))) = true then i + 1 else firstN (fun j => decide (ce j ≠ ι (bdN X y a w ow (j + 1)))) d (i + 1)), σ') ∧ _
    by_cases c : ce i = ι (bdN X y a w ow (i + 1))
    · rw [if_neg (by simp [c])]
      obtain ⟨σ', b1, b2⟩ := ih (i + 1) n (ms σ1 75 2 (ι (bdN X y a w ow (i + 1)))) (by omega) (by omega) (CXT_sc g3.sc hX) g2 e2 ece
      refine ⟨σ', ?_, g3.tr b2⟩
      rw [f_X8_otherwise_b31, h2, if_neg (by rw [le_f (by omega) (by omega)]; exact id), ι_add, g1, ob2_s, hnum, ob_s, ms_at rfl rfl, c, if_pos rfl, L1, ι_add]
      exact b1
    · rw [if_pos (by simp [c])]
      refine ⟨ms σ1 75 2 (ι (bdN X y a w ow (i + 1))), ?_, g3⟩
      rw [f_X8_otherwise_b31, h2, if_neg (by rw [le_f (by omega) (by omega)]; exact id), ι_add, g1, ob2_s, hnum, ob_s, ms_at rfl rfl, if_neg (fun h => c h.symm), pl_s (by omega), Nat.add_sub_cancel]
def unlN (X : XT) (y : Nat) (a : Nat → Nat) (w ow sz : Nat) (ce : Nat → Int32) : Nat := firstN (fun j => decide (ce j ≠ ι (bdN X y a w ow (j + 1)))) sz 0
theorem c_other {M V w0 y0 T s sz i k : Nat} {A B : TB2} {X : XT} {ce : Nat → Int32} {σ : Mem} (hM : M ≤ 6) (hV : V ≤ 8) (hC : CT 15 M V w0 y0 A B σ) (hB : OKB M V B) (hX : CXT T X σ) (hO : OKX T X) {y w : Nat} {a : Nat → Nat} (hs : s < 4) (hsz : sz ≤ 40) (hi : i < M) (hy : y < T) (hk : k ≠ 75) (hm : MC1 k a σ) (h1 : OK1 a) (hw : w < 10000) (h2 : σ (67 + 2 * s) 2 = ι sz) (hce : ∀ j, j < 40 → σ (68 + 2 * s) j = ce j) :
    ∃ σ', f_X8_otherwise σ (some (67 + 2 * s)) (ι i) (some k) (ι w) (ι y) = some (pl (unlN X y a w (owedN V B i) sz ce), σ') ∧ frG σ σ' := by
  obtain ⟨σ1, g1, g2, g3⟩ := c_become75 hk hm h1
  have hC1 := CT_sc hM hV g3.sc hC
  obtain ⟨σ', b1, b2⟩ := c_other_l (i := 0) (ce := ce) (w := w) (ow := owedN V B i) hO hs hsz hy h1 hw sz 0 FU σ1 (by omega) (by unfold FU; omega) (CXT_sc g3.sc hX) (by rw [show bdN X y a w (owedN V B i) 0 = a 2 from rfl, rowB_self]; exact g2) (by rw [g3 _ _ (by omega) (by omega) (by omega)]; exact h2) (fun j hj => by rw [g3 _ _ (by omega) (by omega) (by omega)]; exact hce j hj)
  refine ⟨σ', ?_, g3.tr b2⟩
  unfold f_X8_otherwise
  rw [onl_s, onl_s, g1, ob_s, c_owed hC1.2.1 hV hC1.2.2.2.2.2 hB hM (by omega), ob_s, L0]
  exact b1
/-- the reference: one man's beard grows -/
theorem up_row {A : TB2} {i b : Nat} : up A i 2 b i = rowB (A i) b := by
  funext j
  unfold up rowB
  by_cases c : j = 2
  · rw [if_pos ⟨rfl, c⟩, if_pos c]
  · rw [if_neg (by omega), if_neg c]
theorem up_up {A : TB2} {i b c : Nat} : up (up A i 2 b) i 2 c = up A i 2 c := by
  funext a j
  unfold up
  by_cases h : a = i ∧ j = 2
  · rw [if_pos h, if_pos h]
  · rw [if_neg h, if_neg h, if_neg h]
theorem up_self {A : TB2} {i : Nat} : up A i 2 (A i 2) = A := by
  funext a j
  unfold up
  by_cases h : a = i ∧ j = 2
  · rw [if_pos h, h.1, h.2]
  · rw [if_neg h]
theorem r_grow1 {T M V y w : Nat} {X : XT} {A B : TB2} {τ : Mem} (hX : FXT T X τ) (hOX : OKX T X) (hF : FT M V w y A B τ) (hOA : OKA M A) (hOB : OKB M V B) (hM : M ≤ 6) (h8 : V ≤ 8) {i : Nat} (hy : y < T) (hi : i < M) (hw : w < 100000) :
    ∃ τ', f_X9_grow τ (ι i) = some τ' ∧ FT M V w y (up A i 2 (grownN X y (A i) w (owedN V B i))) B τ' ∧ ∀ a j, a ≠ 15 → a ≠ 16 → ¬ (a = 3 ∧ j = 4 * i) → τ' a j = τ a j := by
  obtain ⟨τ1, g1, g2, g3⟩ := r_grow hX hOX hF hOA hOB hM h8 hy hi hw
  obtain ⟨a1, a2, a3, a4, a5, a6⟩ := hF
  refine ⟨τ1, g1, ⟨?_, ?_, ?_, ?_, ?_, ?_⟩, g3⟩
  · rw [g3 _ _ (by omega) (by omega) (by omega)]; exact a1
  · rw [g3 _ _ (by omega) (by omega) (by omega)]; exact a2
  · rw [g3 _ _ (by omega) (by omega) (by omega)]; exact a3
  · rw [g3 _ _ (by omega) (by omega) (by omega)]; exact a4
  · have h := FA_up (i := i) (j := 0) (x := grownN X y (A i) w (owedN V B i)) a5 (by decide)
    intro u hu
    obtain ⟨e0, e1, e2, e3, e4, e5⟩ := h u hu
    refine ⟨?_, ?_, ?_, ?_, ?_, ?_⟩
    · rw [g3 _ _ (by omega) (by omega) (by omega), ← e0, ms_off (by omega)]
    · rw [g3 _ _ (by omega) (by omega) (by omega), ← e1, ms_off (by omega)]
    · by_cases c : u = i
      · subst c
        rw [g2]
        exact congrArg ι (up_at rfl rfl).symm
      · rw [g3 _ _ (by omega) (by omega) (by omega), ← e2, ms_off (by omega)]
    · rw [g3 _ _ (by omega) (by omega) (by omega), ← e3, ms_off (by omega)]
    · rw [g3 _ _ (by omega) (by omega) (by omega), ← e4, ms_off (by omega)]
    · rw [g3 _ _ (by omega) (by omega) (by omega), ← e5, ms_off (by omega)]
  · exact FB_fr a6 (fun j => g3 _ _ (by omega) (by omega) (by omega))
/-- a week of one man's: his beard, the week -/
theorem r_ghost {T M V y w n : Nat} {X : XT} {A B : TB2} {τ : Mem} (hX : FXT T X τ) (hOX : OKX T X) (hOA : OKA M A) (hOB : OKB M V B) (hM : M ≤ 6) (h8 : V ≤ 8) {i : Nat} (hy : y < T) (hi : i < M) (hw : w + n < 100000) (hF : FT M V (w + n) y (up A i 2 (bdN X y (A i) w (owedN V B i) n)) B τ) :
    ∃ τ1, f_X9_grow τ (ι i) = some τ1 ∧ τ1 0 6 = ι (w + n) ∧ FT M V (w + (n + 1)) y (up A i 2 (bdN X y (A i) w (owedN V B i) (n + 1))) B (ms τ1 0 6 (ι (w + n + 1))) ∧ frF τ (ms τ1 0 6 (ι (w + n + 1))) := by
  have bl := bdN_le (X := X) (y := y) (w := w) (ow := owedN V B i) (hOA i hi).2.2.1 n
  obtain ⟨τ1, g1, g2, g3⟩ := r_grow1 hX hOX hF (OKA_b hOA bl) hOB hM h8 hy hi hw
  rw [up_row, up_up] at g2
  obtain ⟨a1, a2, a3, a4, a5, a6⟩ := g2
  refine ⟨τ1, g1, a3, ⟨?_, ?_, ?_, ?_, ?_, ?_⟩, ?_⟩
  · rw [ms_off (by omega)]; exact a1
  · rw [ms_off (by omega)]; exact a2
  · rw [ms_at rfl rfl]; rfl
  · rw [ms_off (by omega)]; exact a4
  · exact FA_fr a5 (fun k j q1 q2 => by rw [ms_off (by omega)])
  · exact FB_fr a6 (fun j => by rw [ms_off (by omega)])
  · intro k j q1 q2 q3 q4 q5
    rw [ms_off (by omega), g3 k j q3 q4 (by omega)]
theorem r_unlike_l {T M V y w s sz i : Nat} {X : XT} {A B : TB2} {ce : Nat → Int32} (hOX : OKX T X) (hOA : OKA M A) (hOB : OKB M V B) (hM : M ≤ 6) (h8 : V ≤ 8) (hs : s < 4) (hsz : sz ≤ 40) (hy : y < T) (hi : i < M) (hw : w < 10000) : ∀ d k n (τ : Mem), k + d = sz → d < n → FXT T X τ → FT M V (w + k) y (up A i 2 (bdN X y (A i) w (owedN V B i) k)) B τ → τ 10 s = ι sz → (∀ j, j < 40 → τ 11 (40 * s + j) = ce j) →
    ∃ τ', f_X9_unlike_b9 (ι s) (ι i) n τ (-ι 1) (ι k) = ob (f_X9_laysBack τ') (fun x => some (pl (firstN (fun j => decide (ce j ≠ ι (bdN X y (A i) w (owedN V B i) (j + 1)))) d k), x)) ∧ frF τ τ' := by
  intro d
  induction d with
  | zero =>
    intro k n τ hk hn hX hF h10 hce
    obtain ⟨n, rfl⟩ : ∃ k, n = k + 1 := ⟨n - 1, by omega⟩
    refine ⟨τ, ?_, frF.rfl⟩
    rw [f_X9_unlike_b9, if_pos (inb_t hs (by omega)), ι_nat (by omega), h10, if_pos (by rw [le_t (by omega) (by omega)]; trivial)]
    rfl
  | succ d ih =>
    intro k n τ hk hn hX hF h10 hce
    obtain ⟨n, rfl⟩ : ∃ k, n = k + 1 := ⟨n - 1, by omega⟩
    obtain ⟨τ1, g1, g2, g3, g4⟩ := r_ghost (w := w) (n := k) hX hOX hOA hOB hM h8 hy hi (by omega) hF
    have e10 : ms τ1 0 6 (ι (w + k + 1)) 10 s = ι sz := by rw [g4 _ _ (by omega) (by omega) (by omega) (by omega) (by omega)]; exact h10
    have ece : ∀ j, j < 40 → ms τ1 0 6 (ι (w + k + 1)) 11 (40 * s + j) = ce j := fun j hj => by rw [g4 _ _ (by omega) (by omega) (by omega) (by omega) (by omega)]; exact hce j hj
    have eb : ms τ1 0 6 (ι (w + k + 1)) 3 (4 * i) = ι (bdN X y (A i) w (owedN V B i) (k + 1)) := by
      have := fa_2 g3.2.2.2.2.1 hi
      rw [this, up_at rfl rfl]
    have step : f_X9_unlike_b9 (ι s) (ι i) (n + 1) τ (-ι 1) (ι k) = if ce k = ι (bdN X y (A i) w (owedN V B i) (k + 1)) then f_X9_unlike_b9 (ι s) (ι i) n (ms τ1 0 6 (ι (w + k + 1))) (-ι 1) (ι (k + 1)) else f_X9_unlike_b9 (ι s) (ι i) n (ms τ1 0 6 (ι (w + k + 1))) (ι k) (ι (k + 1)) := by
      rw [f_X9_unlike_b9, if_pos (inb_t hs (by omega)), ι_nat (by omega), h10, if_neg (by rw [le_f (by omega) (by omega)]; exact id), if_pos (show (-ι 1 : Int32) = -1 from rfl), g1, ob_s]
      simp (disch := omega) only [L1, L4, L40, ι_mul, ι_add, inb_t, if_true, ι_nat, g2, ece, eb, f_X9_unlike_b69]
    show ∃ τ', _ = ob _ (fun x => some (pl (if decide (ce k ≠ ι (bdN X y (A i) w (owedN V B i) (k + 1))) = true then k + 1 else firstN (fun j => decide (ce j ≠ ι (bdN X y (A i) w (owedN V B i) (j + 1)))) d (k + 1)), x)) ∧ _
    by_cases c : ce k = ι (bdN X y (A i) w (owedN V B i) (k + 1))
    · rw [if_neg (by simp [c]), step, if_pos c]
      obtain ⟨τ', b1, b2⟩ := ih (k + 1) n (ms τ1 0 6 (ι (w + k + 1))) (by omega) (by omega) (FXT_F hX g4) g3 e10 ece
      exact ⟨τ', b1, g4.tr b2⟩
    · rw [if_pos (by simp [c]), step, if_neg c]
      obtain ⟨n, rfl⟩ : ∃ k, n = k + 1 := ⟨n - 1, by omega⟩
      refine ⟨ms τ1 0 6 (ι (w + k + 1)), ?_, g4⟩
      rw [pl_s (by omega), Nat.add_sub_cancel, f_X9_unlike_b9, if_pos (inb_t hs (by omega)), ι_nat (by omega), e10]
      by_cases c2 : sz ≤ k + 1
      · rw [if_pos (by rw [le_t c2 (by omega)]; trivial)]
      · rw [if_neg (by rw [le_f (by omega) (by omega)]; exact id), if_neg (show ¬ (ι k = (-1 : Int32)) from of_eq_false (neq_f (b := 1) (by omega) (by omega) (by omega)))]
theorem r_unlike {T M V y w s sz i : Nat} {X : XT} {A B : TB2} {ce : Nat → Int32} {τ : Mem} (hX : FXT T X τ) (hOX : OKX T X) (hF : FT M V w y A B τ) (hOA : OKA M A) (hOB : OKB M V B) (hM : M ≤ 6) (h8 : V ≤ 8) (hs : s < 4) (hsz : sz ≤ 40) (hy : y < T) (hi : i < M) (hw : w < 10000) (h10 : τ 10 s = ι sz) (hce : ∀ j, j < 40 → τ 11 (40 * s + j) = ce j) :
    ∃ τ', f_X9_unlike τ (ι s) (ι i) = some (pl (unlN X y (A i) w (owedN V B i) sz ce), τ') ∧ eqR τ τ' := by
  obtain ⟨τ1, t1, t2, t3, t4, t5, t6, t7⟩ := r_think hM h8 hF hX
  obtain ⟨τ2, b1, b2⟩ := r_unlike_l (i := i) (ce := ce) (w := w) hOX hOA hOB hM h8 hs hsz hy hi hw sz 0 FU τ1 (by omega) (by unfold FU; omega) t3 (by rw [show bdN X y (A i) w (owedN V B i) 0 = A i 2 from rfl, up_self]; exact t2.1) (by rw [t7 _ _ (by omega) (by omega)]; exact h10) (fun j hj => by rw [t7 _ _ (by omega) (by omega)]; exact hce j hj)
  obtain ⟨τ3, l1, l2, l3, l4, l5⟩ := r_back (Q := fun _ _ => False) t4 t5 t6 t7 (fun k j h1 h2 h3 h4 h5 _ => b2 k j h1 h2 h3 h4 h5) (fun _ _ h => h.elim)
  refine ⟨τ3, ?_, fun k j h => l2 k j h id⟩
  unfold f_X9_unlike
  rw [t1, ob_s, L0]
  show f_X9_unlike_b9 (ι s) (ι i) FU τ1 (-ι 1) (ι 0) = _
  rw [b1, l1, ob_s]
  rfl
