/-! THE PURE PART: seasons in thought -/
def runD (X : XT) (y M V : Nat) : Nat → Nat → Nat → DS → DS
  | 0, _, _, s => s
  | d + 1, t, w, s => runD X y M V d (t + 1) (w + 1) (weekD X y M V w t s)
theorem OKD_up {M V N : Nat} {s : DS} (h : OKD M V N s) : OKD M V (N + 1) s := by
  obtain ⟨h1, h2, h3, h4⟩ := h
  exact ⟨h1, h2, Nat.le_succ_of_le h3, h4⟩
theorem OKD_vows {X : XT} {y V w nth M : Nat} (hM : M ≤ 6) : ∀ d i N (s : DS), i + d ≤ V → OKD M V N s → OKD M V (N + d) (vowsD X y V w nth d i s) := by
  intro d
  induction d with
  | zero =>
    intro i N s hi h
    exact h
  | succ d ih =>
    intro i N s hi h
    have h2 : OKD M V (N + 1) (if s.2.1 i 4 = 0 ∧ matN s.2.1 i ≤ w then dueD X y V w nth i s else s) := by
      by_cases c : s.2.1 i 4 = 0 ∧ matN s.2.1 i ≤ w
      · rw [if_pos c]
        exact OKD_due hM h (by omega)
      · rw [if_neg c]
        exact OKD_up h
    have := ih (i + 1) (N + 1) _ (by omega) h2
    rw [show N + (d + 1) = N + 1 + d by omega]
    exact this
theorem c_run_l {M V y T nn : Nat} {X : XT} (hM : M ≤ 6) (h8 : V ≤ 8) (hy : y < T) (hOX : OKX T X) (v2 : Int32) (hnn : nn ≤ 60) : ∀ d t n N w (s : DS) (σ : Mem), t + d = nn → d < n → w + d < 10000 → N + 8 * d < 50000 → CXT T X σ → CD 32 M V w y s σ → OKD M V N s →
    ∃ σ', f_X8_run_b33 (ι nn) v2 n σ (ι t) = ob (f_X8_ofSeason σ' v2) (fun r => some (r, σ')) ∧ CD 32 M V (w + d) y (runD X y M V d t w s) σ' ∧ OKD M V (N + 8 * d) (runD X y M V d t w s) ∧ frT 32 M σ σ' := by
  intro d
  induction d with
  | zero =>
    intro t n N w s σ ht hn hw hN hX hs hO
    obtain ⟨n, rfl⟩ : ∃ k, n = k + 1 := ⟨n - 1, by omega⟩
    refine ⟨σ, ?_, hs, hO, frT.rfl⟩
    rw [f_X8_run_b33, if_pos (by rw [le_t (by omega) (by omega)]; trivial)]
  | succ d ih =>
    intro t n N w s σ ht hn hw hN hX hs hO
    obtain ⟨n, rfl⟩ : ∃ k, n = k + 1 := ⟨n - 1, by omega⟩
    obtain ⟨σ1, g1, g2, g3, g4⟩ := c_week (nth := t) (by omega) hM h8 hy hX hOX (by omega) (by omega) (by omega) hs hO
    obtain ⟨σ', b1, b2, b3, b4⟩ := ih (t + 1) n (N + 8) (w + 1) _ σ1 (by omega) (by omega) (by omega) (by omega) (CXT_T (by omega) hM hX g4) g2 g3
    refine ⟨σ', ?_, ?_, ?_, g4.tr b4⟩
    · rw [f_X8_run_b33, if_neg (by rw [le_f (by omega) (by omega)]; exact id), g1, ob_s, L1, ι_add, b1]
    · rw [show w + (d + 1) = w + 1 + d by omega]
      exact b2
    · rw [show N + 8 * (d + 1) = N + 8 + 8 * d by omega]
      exact b3
theorem r_goes_l {M V y T nn : Nat} {X : XT} (hM : M ≤ 6) (h8 : V ≤ 8) (hy : y < T) (hOX : OKX T X) (hnn : nn ≤ 60) : ∀ d t n N w (s : DS) (τ : Mem), t + d = nn → d < n → w + d < 10000 → N + 8 * d < 50000 → FXT T X τ → FD M V w y s τ → OKD M V N s →
    ∃ τ', f_X9_goes_b6 (ι nn) n τ (ι t) = f_X9_laysBack τ' ∧ FD M V (w + d) y (runD X y M V d t w s) τ' ∧ frF τ τ' := by
  intro d
  induction d with
  | zero =>
    intro t n N w s τ ht hn hw hN hX hs hO
    obtain ⟨n, rfl⟩ : ∃ k, n = k + 1 := ⟨n - 1, by omega⟩
    refine ⟨τ, ?_, hs, frF.rfl⟩
    rw [f_X9_goes_b6, if_pos (by rw [le_t (by omega) (by omega)]; trivial)]
    cases f_X9_laysBack τ <;> rfl
  | succ d ih =>
    intro t n N w s τ ht hn hw hN hX hs hO
    obtain ⟨n, rfl⟩ : ∃ k, n = k + 1 := ⟨n - 1, by omega⟩
    obtain ⟨τ1, g1, g2, g4⟩ := r_week (nth := t) hM h8 hy hX hOX (by omega) (by omega) (by omega) hs hO
    have g3 : OKD M V (N + 8) (weekD X y M V w t s) := by
      have := OKD_vows (X := X) (y := y) (w := w) (nth := t) hM V 0 N (growA X y V s.2.1 M w s.1, s.2) (by omega) ⟨OKA_grow hO.1, hO.2⟩
      obtain ⟨q1, q2, q3, q4⟩ := this
      exact ⟨q1, q2, Nat.le_trans q3 (by omega), q4⟩
    obtain ⟨τ', b1, b2, b4⟩ := ih (t + 1) n (N + 8) (w + 1) _ τ1 (by omega) (by omega) (by omega) (by omega) (FXT_F hX g4) g2 g3
    refine ⟨τ', ?_, ?_, g4.tr b4⟩
    · rw [f_X9_goes_b6, if_neg (by rw [le_f (by omega) (by omega)]; exact id), g1, ob_s, L1, ι_add, b1]
    · rw [show w + (d + 1) = w + 1 + d by omega]
      exact b2
theorem OKD_0 {M V : Nat} {A B : TB2} (hA : OKA M A) (hB : OKB M V B) : OKD M V 0 (A, B, K0) := ⟨hA, hB, OKK0⟩
/-- the thought's town begins as the town is -/
theorem c_think {σ : Mem} {M V w y T : Nat} {A B : TB2} {X : XT} (hM : M ≤ 6) (hV : V ≤ 8) (hC : CT 15 M V w y A B σ) (hS : SH 15 σ) (hCX : CXT T X σ) : ∃ σ1, f_X6_become σ 32 15 = some σ1 ∧ CD 32 M V w y (A, B, K0) (f_X6_startTally σ1 32) ∧ CXT T X (f_X6_startTally σ1 32) ∧ eqC σ (f_X6_startTally σ1 32) := by
  obtain ⟨σ1, g1, g2⟩ := c_become (t := 32) (u := 15) (by omega) hS
  obtain ⟨ck, cf⟩ := c_tally (t := 32) (σ := σ1)
  refine ⟨σ1, g1, ⟨CT_fr hM hV (fun k j h1 h2 h3 => cf k j (by omega)) (CT_move hM hV hC g2), ck⟩, ?_, ?_⟩
  · exact CXT_fr (fun k j h => by rw [cf _ _ (by omega), g2, if_neg (by omega)]) hCX
  · intro k j h
    unfold sC at h
    rw [cf _ _ (by omega), g2, if_neg (by omega)]
/-- the reference's rows kept, ready for thought -/
theorem r_think {τ : Mem} {M V w y T : Nat} {A B : TB2} {X : XT} (hM : M ≤ 6) (hV : V ≤ 8) (hF : FT M V w y A B τ) (hFX : FXT T X τ) : ∃ τ1, f_X9_keeps τ = some τ1 ∧ FD M V w y (A, B, K0) τ1 ∧ FXT T X τ1 ∧ (∀ j, j < 24 → τ1 17 j = τ 3 j) ∧ (∀ j, j < 48 → τ1 17 (24 + j) = τ 4 j) ∧ τ1 0 40 = τ 0 6 ∧ ∀ k j, k ≠ 17 → ¬ (k = 0 ∧ (j = 40 ∨ (34 ≤ j ∧ j ≤ 38))) → τ1 k j = τ k j := by
  obtain ⟨τ1, g1, g2, g3, g4, g5, g6⟩ := r_keeps (τ := τ)
  exact ⟨τ1, g1, ⟨FT_fr hM hV (fun k j h => g6 k j (by omega) (by omega)) hF, g5⟩, FXT_fr (fun k j h => g6 k j (by omega) (by omega)) hFX, g2, g3, g4, g6⟩
/-- behind thought: what the tally says, what rows were at last -/
theorem r_thought {τ τ1 τ2 : Mem} {M V w y : Nat} {s : DS} (k1 : ∀ j, j < 24 → τ1 17 j = τ 3 j) (k2 : ∀ j, j < 48 → τ1 17 (24 + j) = τ 4 j) (k3 : τ1 0 40 = τ 0 6) (k4 : ∀ k j, k ≠ 17 → ¬ (k = 0 ∧ (j = 40 ∨ (34 ≤ j ∧ j ≤ 38))) → τ1 k j = τ k j) (hM : M ≤ 6) (hV : V ≤ 8) (hs : FD M V w y s τ2) (hf : frF τ1 τ2) :
    ∃ τ3, f_X9_laysBack τ2 = some τ3 ∧ eqR τ τ3 ∧ FK s.2.2 τ3 ∧ (∀ i, i < M → τ3 18 (4 * i) = ι (s.1 i 2)) ∧ (∀ v, v < V → τ3 18 (24 + (6 * v + 5)) = ι (s.2.1 v 4)) := by
  obtain ⟨τ3, g1, g2, g3, g4, g5⟩ := r_back (Q := fun _ _ => False) k1 k2 k3 k4 (fun k j h1 h2 h3 h4 h5 _ => hf k j h1 h2 h3 h4 h5) (fun _ _ h => h.elim)
  refine ⟨τ3, g1, fun k j h => g2 k j h id, ?_, ?_, ?_⟩
  · obtain ⟨f1, f2, f3, f4, f5⟩ := hs.2
    refine ⟨?_, ?_, ?_, ?_, ?_⟩
    · rw [g5 _ _ (by omega) (by omega) (by omega) (by omega)]; exact f1
    · rw [g5 _ _ (by omega) (by omega) (by omega) (by omega)]; exact f2
    · rw [g5 _ _ (by omega) (by omega) (by omega) (by omega)]; exact f3
    · rw [g5 _ _ (by omega) (by omega) (by omega) (by omega)]; exact f4
    · rw [g5 _ _ (by omega) (by omega) (by omega) (by omega)]; exact f5
  · intro i hi
    rw [g3 _ (by omega)]
    exact fa_2 hs.1.2.2.2.2.1 hi
  · intro v hv
    rw [g4 _ (by omega)]
    exact fb_5 hs.1.2.2.2.2.2 hv
theorem outSub {M c : Nat} {x : Int32} (hM : M ≤ 100) (hc : c ≤ 100) (h : ng x ∨ ∃ k, x = ι k ∧ k < 2147483648 ∧ (k < c ∨ M + c ≤ k)) : outN M (x - ι c) := by
  have h1 := Int32.le_toInt x
  rcases h with h | ⟨k, rfl, h2, h3⟩
  · unfold ng at h
    have e : (x - ι c).toInt = (x.toInt - (c : Int)).bmod 4294967296 := by
      rw [Int32.toInt_sub, ι_int (by omega)]
    by_cases h2 : -2147483648 ≤ x.toInt - (c : Int)
    · left
      unfold ng
      rw [e, Int.bmod_def]
      split <;> omega
    · right
      refine ⟨(x.toInt - (c : Int) + 4294967296).toNat, by omega, by omega, Int32.toInt_inj.mp ?_⟩
      rw [e, ι_int (by omega), Int.bmod_def]
      split <;> omega
  · by_cases h4 : k < c
    · left
      unfold ng
      rw [nsub h4 (by omega), neg_int (by omega)]
      omega
    · right
      exact ⟨k - c, by omega, by omega, by rw [ι_sub (by omega) h2]⟩
theorem op_run : OP_run RR := by
  intro σ τ v1 v2 hR
  obtain ⟨M, V, w, y, A, B, T, X, h0, hA, hB, hOX, hC, hS, hS9, hF, hCX, hFX, hI, hSh, hD⟩ := id hR
  obtain ⟨hM, hV, hw, hy⟩ := id h0
  obtain ⟨hB, hBs⟩ := id hB
  obtain ⟨a1, a2, a3, a4, a5, a6⟩ := id hC
  obtain ⟨b1, b2, b3, b4, b5, b6⟩ := id hF
  have hT := hOX.2.1
  have c1 := hCX.1
  have f1 := hFX.1
  rcases argN 61 v1 with ⟨nn, n1, n2, rfl⟩ | g1
  · obtain ⟨σ1, s1, s2, s3, s4⟩ := c_think hM hV hC hS hCX
    obtain ⟨σ', c1', c2', c3', c4'⟩ := c_run_l (nn := nn) hM hV hy hOX v2 (by omega) nn 0 FU 0 w _ _ (by omega) (by unfold FU; omega) (by omega) (by omega) s3 s2 (OKD_0 hA hB)
    obtain ⟨τ1, t1, t2, t3, t4, t5, t6, t7⟩ := r_think hM hV hF hFX
    obtain ⟨τ2, r1, r2, r3⟩ := r_goes_l (nn := nn) hM hV hy hOX (by omega) nn 0 FU 0 w _ _ (by omega) (by unfold FU; omega) (by omega) (by omega) t3 t2 (OKD_0 hA hB)
    obtain ⟨τ3, l1, l2, ⟨l3, l4, l5, l6, l7⟩, l8, l9⟩ := r_thought t4 t5 t6 t7 hM hV r2 r3
    have hgo : f_X9_goes τ (ι nn) = some τ3 := by
      unfold f_X9_goes
      rw [t1, ob_s, L0, r1, l1]
    have hcl : f_X8_run σ (ι nn) v2 = ob (f_X8_ofSeason σ' v2) (fun r => some (r, σ')) := by
      unfold f_X8_run
      rw [L0, L60, if_neg (by rw [lt_f (by omega) (by omega)]; exact id), if_pos (by rw [le_t (by omega) (by omega)]; trivial), s1, ob_s, od_e, c1']
    have hq : eqC σ σ' := fun k j h => by
      unfold sC at h
      rw [c4' k j (by omega) (by omega) (by omega) (by omega), s4 k j (by unfold sC; omega)]
    have hr := RR_eq hR hq l2
    obtain ⟨⟨u1, u2, u3, u4, u5, u6⟩, w0, w1, w2, w3, w4⟩ := c2'
    have ok3 := c3'.1
    have ok4 := c3'.2.1
    by_cases hw : ∃ k, k < 5 ∧ v2 = ι k
    · obtain ⟨k, k1, rfl⟩ := hw
      have hk : k = 0 ∨ k = 1 ∨ k = 2 ∨ k = 3 ∨ k = 4 := by omega
      have hrf : f_X9_run τ (ι nn) (ι k) = f_X9_run_b57 τ (ι nn) (ι k) := by
        unfold f_X9_run
        simp (disch := omega) only [r_in, ↓reduceIte, eq_self, Bool.false_eq_true, reduceCtorEq, ob_s, ob2_s, od_e, onl_n, onl_s, ι_nat, ι_add, ι_mul, ι_sub, ι_addm, lt_t, lt_f, le_t, le_f, eq_t, eq_f, inb_t, inb_f, neq_f, neq_f2, neq_nf, nlt_t, nlt_f, nle_t, nle_f, ms_at, ms_off, up_at, up_off, L0, L1, L2, L3, L4, L5, L6, L7, L8, L9, L10, L11, L12, L13, L14, L15, L16, L17, L18, L19, L20, L21, L22, L23, L24, L30, L31, L32, L40, L41, L42, L43, L45, L47, L48, L52, L57, L59, L60, L61, L63, L64, L72, L97, L99, L100, L122, L160, L161, L200, L255, L999, L1200, L1998, L99999, L100000, L1000005]
      have go : ∀ r, f_X8_ofSeason σ' (ι k) = some r → f_X9_run_b57 τ (ι nn) (ι k) = some (r, τ3) → ∃ (r : Int32) (σ' τ' : Mem), f_X8_run σ (ι nn) (ι k) = some (r, σ') ∧ f_X9_run τ (ι nn) (ι k) = some (r, τ') ∧ RR σ' τ' ∧ σ' 1 1 = σ 1 1 := by
        intro r e1 e2
        exact ⟨r, σ', τ3, by rw [hcl, e1, ob_s], by rw [hrf, e2], hr⟩
      rcases hk with h | h | h | h | h <;> subst h
      · exact go (ι ((runD X y M V nn 0 w (A, B, K0)).2.2 0)) (by unfold f_X8_ofSeason; simp (disch := omega) only [w0, ↓reduceIte, eq_self, Bool.false_eq_true, reduceCtorEq, ob_s, ob2_s, od_e, onl_n, onl_s, ι_nat, ι_add, ι_mul, ι_sub, ι_addm, lt_t, lt_f, le_t, le_f, eq_t, eq_f, inb_t, inb_f, neq_f, neq_f2, neq_nf, nlt_t, nlt_f, nle_t, nle_f, ms_at, ms_off, up_at, up_off, L0, L1, L2, L3, L4, L5, L6, L7, L8, L9, L10, L11, L12, L13, L14, L15, L16, L17, L18, L19, L20, L21, L22, L23, L24, L30, L31, L32, L40, L41, L42, L43, L45, L47, L48, L52, L57, L59, L60, L61, L63, L64, L72, L97, L99, L100, L122, L160, L161, L200, L255, L999, L1200, L1998, L99999, L100000, L1000005]) (by unfold f_X9_run_b57; simp (disch := omega) only [hgo, l3, ↓reduceIte, eq_self, Bool.false_eq_true, reduceCtorEq, ob_s, ob2_s, od_e, onl_n, onl_s, ι_nat, ι_add, ι_mul, ι_sub, ι_addm, lt_t, lt_f, le_t, le_f, eq_t, eq_f, inb_t, inb_f, neq_f, neq_f2, neq_nf, nlt_t, nlt_f, nle_t, nle_f, ms_at, ms_off, up_at, up_off, L0, L1, L2, L3, L4, L5, L6, L7, L8, L9, L10, L11, L12, L13, L14, L15, L16, L17, L18, L19, L20, L21, L22, L23, L24, L30, L31, L32, L40, L41, L42, L43, L45, L47, L48, L52, L57, L59, L60, L61, L63, L64, L72, L97, L99, L100, L122, L160, L161, L200, L255, L999, L1200, L1998, L99999, L100000, L1000005])
      · exact go (pl ((runD X y M V nn 0 w (A, B, K0)).2.2 1)) (by unfold f_X8_ofSeason; simp (disch := omega) only [w1, ↓reduceIte, eq_self, Bool.false_eq_true, reduceCtorEq, ob_s, ob2_s, od_e, onl_n, onl_s, ι_nat, ι_add, ι_mul, ι_sub, ι_addm, lt_t, lt_f, le_t, le_f, eq_t, eq_f, inb_t, inb_f, neq_f, neq_f2, neq_nf, nlt_t, nlt_f, nle_t, nle_f, ms_at, ms_off, up_at, up_off, L0, L1, L2, L3, L4, L5, L6, L7, L8, L9, L10, L11, L12, L13, L14, L15, L16, L17, L18, L19, L20, L21, L22, L23, L24, L30, L31, L32, L40, L41, L42, L43, L45, L47, L48, L52, L57, L59, L60, L61, L63, L64, L72, L97, L99, L100, L122, L160, L161, L200, L255, L999, L1200, L1998, L99999, L100000, L1000005]) (by unfold f_X9_run_b57; simp (disch := omega) only [hgo, l4, ↓reduceIte, eq_self, Bool.false_eq_true, reduceCtorEq, ob_s, ob2_s, od_e, onl_n, onl_s, ι_nat, ι_add, ι_mul, ι_sub, ι_addm, lt_t, lt_f, le_t, le_f, eq_t, eq_f, inb_t, inb_f, neq_f, neq_f2, neq_nf, nlt_t, nlt_f, nle_t, nle_f, ms_at, ms_off, up_at, up_off, L0, L1, L2, L3, L4, L5, L6, L7, L8, L9, L10, L11, L12, L13, L14, L15, L16, L17, L18, L19, L20, L21, L22, L23, L24, L30, L31, L32, L40, L41, L42, L43, L45, L47, L48, L52, L57, L59, L60, L61, L63, L64, L72, L97, L99, L100, L122, L160, L161, L200, L255, L999, L1200, L1998, L99999, L100000, L1000005])
      · exact go (pl ((runD X y M V nn 0 w (A, B, K0)).2.2 2)) (by unfold f_X8_ofSeason; simp (disch := omega) only [w2, ↓reduceIte, eq_self, Bool.false_eq_true, reduceCtorEq, ob_s, ob2_s, od_e, onl_n, onl_s, ι_nat, ι_add, ι_mul, ι_sub, ι_addm, lt_t, lt_f, le_t, le_f, eq_t, eq_f, inb_t, inb_f, neq_f, neq_f2, neq_nf, nlt_t, nlt_f, nle_t, nle_f, ms_at, ms_off, up_at, up_off, L0, L1, L2, L3, L4, L5, L6, L7, L8, L9, L10, L11, L12, L13, L14, L15, L16, L17, L18, L19, L20, L21, L22, L23, L24, L30, L31, L32, L40, L41, L42, L43, L45, L47, L48, L52, L57, L59, L60, L61, L63, L64, L72, L97, L99, L100, L122, L160, L161, L200, L255, L999, L1200, L1998, L99999, L100000, L1000005]) (by unfold f_X9_run_b57; simp (disch := omega) only [hgo, l5, ↓reduceIte, eq_self, Bool.false_eq_true, reduceCtorEq, ob_s, ob2_s, od_e, onl_n, onl_s, ι_nat, ι_add, ι_mul, ι_sub, ι_addm, lt_t, lt_f, le_t, le_f, eq_t, eq_f, inb_t, inb_f, neq_f, neq_f2, neq_nf, nlt_t, nlt_f, nle_t, nle_f, ms_at, ms_off, up_at, up_off, L0, L1, L2, L3, L4, L5, L6, L7, L8, L9, L10, L11, L12, L13, L14, L15, L16, L17, L18, L19, L20, L21, L22, L23, L24, L30, L31, L32, L40, L41, L42, L43, L45, L47, L48, L52, L57, L59, L60, L61, L63, L64, L72, L97, L99, L100, L122, L160, L161, L200, L255, L999, L1200, L1998, L99999, L100000, L1000005])
      · exact go (ι ((runD X y M V nn 0 w (A, B, K0)).2.2 3)) (by unfold f_X8_ofSeason; simp (disch := omega) only [w3, ↓reduceIte, eq_self, Bool.false_eq_true, reduceCtorEq, ob_s, ob2_s, od_e, onl_n, onl_s, ι_nat, ι_add, ι_mul, ι_sub, ι_addm, lt_t, lt_f, le_t, le_f, eq_t, eq_f, inb_t, inb_f, neq_f, neq_f2, neq_nf, nlt_t, nlt_f, nle_t, nle_f, ms_at, ms_off, up_at, up_off, L0, L1, L2, L3, L4, L5, L6, L7, L8, L9, L10, L11, L12, L13, L14, L15, L16, L17, L18, L19, L20, L21, L22, L23, L24, L30, L31, L32, L40, L41, L42, L43, L45, L47, L48, L52, L57, L59, L60, L61, L63, L64, L72, L97, L99, L100, L122, L160, L161, L200, L255, L999, L1200, L1998, L99999, L100000, L1000005]) (by unfold f_X9_run_b57; simp (disch := omega) only [hgo, l6, ↓reduceIte, eq_self, Bool.false_eq_true, reduceCtorEq, ob_s, ob2_s, od_e, onl_n, onl_s, ι_nat, ι_add, ι_mul, ι_sub, ι_addm, lt_t, lt_f, le_t, le_f, eq_t, eq_f, inb_t, inb_f, neq_f, neq_f2, neq_nf, nlt_t, nlt_f, nle_t, nle_f, ms_at, ms_off, up_at, up_off, L0, L1, L2, L3, L4, L5, L6, L7, L8, L9, L10, L11, L12, L13, L14, L15, L16, L17, L18, L19, L20, L21, L22, L23, L24, L30, L31, L32, L40, L41, L42, L43, L45, L47, L48, L52, L57, L59, L60, L61, L63, L64, L72, L97, L99, L100, L122, L160, L161, L200, L255, L999, L1200, L1998, L99999, L100000, L1000005])
      · exact go (ι ((runD X y M V nn 0 w (A, B, K0)).2.2 4)) (by unfold f_X8_ofSeason; simp (disch := omega) only [w4, ↓reduceIte, eq_self, Bool.false_eq_true, reduceCtorEq, ob_s, ob2_s, od_e, onl_n, onl_s, ι_nat, ι_add, ι_mul, ι_sub, ι_addm, lt_t, lt_f, le_t, le_f, eq_t, eq_f, inb_t, inb_f, neq_f, neq_f2, neq_nf, nlt_t, nlt_f, nle_t, nle_f, ms_at, ms_off, up_at, up_off, L0, L1, L2, L3, L4, L5, L6, L7, L8, L9, L10, L11, L12, L13, L14, L15, L16, L17, L18, L19, L20, L21, L22, L23, L24, L30, L31, L32, L40, L41, L42, L43, L45, L47, L48, L52, L57, L59, L60, L61, L63, L64, L72, L97, L99, L100, L122, L160, L161, L200, L255, L999, L1200, L1998, L99999, L100000, L1000005]) (by unfold f_X9_run_b57; simp (disch := omega) only [hgo, l7, ↓reduceIte, eq_self, Bool.false_eq_true, reduceCtorEq, ob_s, ob2_s, od_e, onl_n, onl_s, ι_nat, ι_add, ι_mul, ι_sub, ι_addm, lt_t, lt_f, le_t, le_f, eq_t, eq_f, inb_t, inb_f, neq_f, neq_f2, neq_nf, nlt_t, nlt_f, nle_t, nle_f, ms_at, ms_off, up_at, up_off, L0, L1, L2, L3, L4, L5, L6, L7, L8, L9, L10, L11, L12, L13, L14, L15, L16, L17, L18, L19, L20, L21, L22, L23, L24, L30, L31, L32, L40, L41, L42, L43, L45, L47, L48, L52, L57, L59, L60, L61, L63, L64, L72, L97, L99, L100, L122, L160, L161, L200, L255, L999, L1200, L1998, L99999, L100000, L1000005])
    · by_cases hm : ∃ k, 10 ≤ k ∧ k < 10 + M ∧ v2 = ι k
      · obtain ⟨k, k1, k2, rfl⟩ := hm
        have hk : k - 10 < M := by omega
        have e4 := l8 _ hk
        have e3 := ca_2 u5 hk
        refine ⟨ι ((runD X y M V nn 0 w (A, B, K0)).1 (k - 10) 2), σ', τ3, ?_, ?_, hr⟩
        · rw [hcl]
          unfold f_X8_ofSeason
          simp (disch := omega) only [c_manAt u1 hM hk, e3, ↓reduceIte, eq_self, Bool.false_eq_true, reduceCtorEq, ob_s, ob2_s, od_e, onl_n, onl_s, ι_nat, ι_add, ι_mul, ι_sub, ι_addm, lt_t, lt_f, le_t, le_f, eq_t, eq_f, inb_t, inb_f, neq_f, neq_f2, neq_nf, nlt_t, nlt_f, nle_t, nle_f, ms_at, ms_off, up_at, up_off, L0, L1, L2, L3, L4, L5, L6, L7, L8, L9, L10, L11, L12, L13, L14, L15, L16, L17, L18, L19, L20, L21, L22, L23, L24, L30, L31, L32, L40, L41, L42, L43, L45, L47, L48, L52, L57, L59, L60, L61, L63, L64, L72, L97, L99, L100, L122, L160, L161, L200, L255, L999, L1200, L1998, L99999, L100000, L1000005]
        · unfold f_X9_run f_X9_run_b57
          simp (disch := omega) only [r_in, b1, r_inNo (x := ι k) (a := 0) (b := 4) (Or.inr ⟨k, rfl, by omega, by omega⟩) (by omega) (by omega), hgo, e4, ↓reduceIte, eq_self, Bool.false_eq_true, reduceCtorEq, ob_s, ob2_s, od_e, onl_n, onl_s, ι_nat, ι_add, ι_mul, ι_sub, ι_addm, lt_t, lt_f, le_t, le_f, eq_t, eq_f, inb_t, inb_f, neq_f, neq_f2, neq_nf, nlt_t, nlt_f, nle_t, nle_f, ms_at, ms_off, up_at, up_off, L0, L1, L2, L3, L4, L5, L6, L7, L8, L9, L10, L11, L12, L13, L14, L15, L16, L17, L18, L19, L20, L21, L22, L23, L24, L30, L31, L32, L40, L41, L42, L43, L45, L47, L48, L52, L57, L59, L60, L61, L63, L64, L72, L97, L99, L100, L122, L160, L161, L200, L255, L999, L1200, L1998, L99999, L100000, L1000005]
      · by_cases hv : ∃ k, 20 ≤ k ∧ k < 20 + V ∧ v2 = ι k
        · obtain ⟨k, k1, k2, rfl⟩ := hv
          have hk : k - 20 < V := by omega
          have e4 := l9 _ hk
          have e3 := cb_4 u6 hk
          have mn : f_X6_manAt σ' 32 (ι k - ι 10) = some none := c_manNo u1 hM (outSub (by omega) (by omega) (Or.inr ⟨k, rfl, by omega, by omega⟩))
          rw [ι_sub (by omega) (by omega)] at mn
          have e5 : 24 + 6 * (k - 20) + 5 = 24 + (6 * (k - 20) + 5) := by omega
          refine ⟨ι ((runD X y M V nn 0 w (A, B, K0)).2.1 (k - 20) 4), σ', τ3, ?_, ?_, hr⟩
          · rw [hcl]
            unfold f_X8_ofSeason
            simp (disch := omega) only [mn, c_vowAt u2 hV hk, e3, ↓reduceIte, eq_self, Bool.false_eq_true, reduceCtorEq, ob_s, ob2_s, od_e, onl_n, onl_s, ι_nat, ι_add, ι_mul, ι_sub, ι_addm, lt_t, lt_f, le_t, le_f, eq_t, eq_f, inb_t, inb_f, neq_f, neq_f2, neq_nf, nlt_t, nlt_f, nle_t, nle_f, ms_at, ms_off, up_at, up_off, L0, L1, L2, L3, L4, L5, L6, L7, L8, L9, L10, L11, L12, L13, L14, L15, L16, L17, L18, L19, L20, L21, L22, L23, L24, L30, L31, L32, L40, L41, L42, L43, L45, L47, L48, L52, L57, L59, L60, L61, L63, L64, L72, L97, L99, L100, L122, L160, L161, L200, L255, L999, L1200, L1998, L99999, L100000, L1000005]
          · unfold f_X9_run f_X9_run_b57
            simp (disch := omega) only [r_in, b1, b2, r_inNo (x := ι k) (a := 0) (b := 4) (Or.inr ⟨k, rfl, by omega, by omega⟩) (by omega) (by omega), r_inNo (x := ι k) (a := 10) (b := 9 + M) (Or.inr ⟨k, rfl, by omega, by omega⟩) (by omega) (by omega), hgo, e5, e4, ↓reduceIte, eq_self, Bool.false_eq_true, reduceCtorEq, ob_s, ob2_s, od_e, onl_n, onl_s, ι_nat, ι_add, ι_mul, ι_sub, ι_addm, lt_t, lt_f, le_t, le_f, eq_t, eq_f, inb_t, inb_f, neq_f, neq_f2, neq_nf, nlt_t, nlt_f, nle_t, nle_f, ms_at, ms_off, up_at, up_off, L0, L1, L2, L3, L4, L5, L6, L7, L8, L9, L10, L11, L12, L13, L14, L15, L16, L17, L18, L19, L20, L21, L22, L23, L24, L30, L31, L32, L40, L41, L42, L43, L45, L47, L48, L52, L57, L59, L60, L61, L63, L64, L72, L97, L99, L100, L122, L160, L161, L200, L255, L999, L1200, L1998, L99999, L100000, L1000005]
        · have bad : ng v2 ∨ ∃ k, v2 = ι k ∧ k < 2147483648 ∧ 5 ≤ k ∧ (k < 10 ∨ 10 + M ≤ k) ∧ (k < 20 ∨ 20 + V ≤ k) := by
            rcases arg v2 with ⟨k, k1, rfl⟩ | ⟨k, k1, k2, k3⟩
            · refine Or.inr ⟨k, rfl, k1, ?_, ?_, ?_⟩
              · by_cases c : k < 5
                · exact absurd ⟨k, c, rfl⟩ hw
                · omega
              · by_cases c : 10 ≤ k ∧ k < 10 + M
                · exact absurd ⟨k, c.1, c.2, rfl⟩ hm
                · omega
              · by_cases c : 20 ≤ k ∧ k < 20 + V
                · exact absurd ⟨k, c.1, c.2, rfl⟩ hv
                · omega
            · refine Or.inl ?_
              unfold ng
              omega
          have mn : f_X6_manAt σ' 32 (v2 - ι 10) = some none := c_manNo u1 hM (outSub (by omega) (by omega) (by
            rcases bad with h | ⟨k, k1, k2, k3, k4, k5⟩
            · exact Or.inl h
            · exact Or.inr ⟨k, k1, k2, by omega⟩))
          have vn : f_X6_vowAt σ' 32 (v2 - ι 20) = some none := c_vowNo u2 hV (outSub (by omega) (by omega) (by
            rcases bad with h | ⟨k, k1, k2, k3, k4, k5⟩
            · exact Or.inl h
            · exact Or.inr ⟨k, k1, k2, by omega⟩))
          refine ⟨-ι 7, σ', τ, ?_, ?_, RR_eq hR hq eqR.rfl⟩
          · rw [hcl]
            unfold f_X8_ofSeason
            rw [L10, L20, mn, ob_s, onl_n, vn]
            rcases bad with h | ⟨k, rfl, k2, k3, k4, k5⟩
            · simp (disch := omega) only [ng_lt h, ng_le h, ng_gt h, ng_ge h, ng_eq h, ng_eq2 h, ng_inb h, ↓reduceIte, eq_self, Bool.false_eq_true, reduceCtorEq, ob_s, ob2_s, od_e, onl_n, onl_s, ι_nat, ι_add, ι_mul, ι_sub, ι_addm, lt_t, lt_f, le_t, le_f, eq_t, eq_f, inb_t, inb_f, neq_f, neq_f2, neq_nf, nlt_t, nlt_f, nle_t, nle_f, ms_at, ms_off, up_at, up_off, L0, L1, L2, L3, L4, L5, L6, L7, L8, L9, L10, L11, L12, L13, L14, L15, L16, L17, L18, L19, L20, L21, L22, L23, L24, L30, L31, L32, L40, L41, L42, L43, L45, L47, L48, L52, L57, L59, L60, L61, L63, L64, L72, L97, L99, L100, L122, L160, L161, L200, L255, L999, L1200, L1998, L99999, L100000, L1000005]
            · simp (disch := omega) only [↓reduceIte, eq_self, Bool.false_eq_true, reduceCtorEq, ob_s, ob2_s, od_e, onl_n, onl_s, ι_nat, ι_add, ι_mul, ι_sub, ι_addm, lt_t, lt_f, le_t, le_f, eq_t, eq_f, inb_t, inb_f, neq_f, neq_f2, neq_nf, nlt_t, nlt_f, nle_t, nle_f, ms_at, ms_off, up_at, up_off, L0, L1, L2, L3, L4, L5, L6, L7, L8, L9, L10, L11, L12, L13, L14, L15, L16, L17, L18, L19, L20, L21, L22, L23, L24, L30, L31, L32, L40, L41, L42, L43, L45, L47, L48, L52, L57, L59, L60, L61, L63, L64, L72, L97, L99, L100, L122, L160, L161, L200, L255, L999, L1200, L1998, L99999, L100000, L1000005]
          · have q1 : f_X9_in v2 (ι 0) (ι 4) = ι 0 := r_inNo (by
              rcases bad with h | ⟨k, k1, k2, k3, k4, k5⟩
              · exact Or.inl h
              · exact Or.inr ⟨k, k1, k2, by omega⟩) (by omega) (by omega)
            have q2 : f_X9_in v2 (ι 10) (ι (9 + M)) = ι 0 := r_inNo (by
              rcases bad with h | ⟨k, k1, k2, k3, k4, k5⟩
              · exact Or.inl h
              · exact Or.inr ⟨k, k1, k2, by omega⟩) (by omega) (by omega)
            have q3 : f_X9_in v2 (ι 20) (ι (19 + V)) = ι 0 := r_inNo (by
              rcases bad with h | ⟨k, k1, k2, k3, k4, k5⟩
              · exact Or.inl h
              · exact Or.inr ⟨k, k1, k2, by omega⟩) (by omega) (by omega)
            unfold f_X9_run
            simp (disch := omega) only [r_in, b1, b2, q1, q2, q3, ↓reduceIte, eq_self, Bool.false_eq_true, reduceCtorEq, ob_s, ob2_s, od_e, onl_n, onl_s, ι_nat, ι_add, ι_mul, ι_sub, ι_addm, lt_t, lt_f, le_t, le_f, eq_t, eq_f, inb_t, inb_f, neq_f, neq_f2, neq_nf, nlt_t, nlt_f, nle_t, nle_f, ms_at, ms_off, up_at, up_off, L0, L1, L2, L3, L4, L5, L6, L7, L8, L9, L10, L11, L12, L13, L14, L15, L16, L17, L18, L19, L20, L21, L22, L23, L24, L30, L31, L32, L40, L41, L42, L43, L45, L47, L48, L52, L57, L59, L60, L61, L63, L64, L72, L97, L99, L100, L122, L160, L161, L200, L255, L999, L1200, L1998, L99999, L100000, L1000005]
  · refine ⟨-ι 2, σ, τ, ?_, ?_, hR, rfl⟩
    · unfold f_X8_run
      rcases g1 with g | ⟨k, k1, k2, rfl⟩
      · simp (disch := omega) only [ng_lt g, ng_le g, ng_gt g, ng_ge g, ng_eq g, ng_eq2 g, ng_inb g, ↓reduceIte, eq_self, Bool.false_eq_true, reduceCtorEq, ob_s, ob2_s, od_e, onl_n, onl_s, ι_nat, ι_add, ι_mul, ι_sub, ι_addm, lt_t, lt_f, le_t, le_f, eq_t, eq_f, inb_t, inb_f, neq_f, neq_f2, neq_nf, nlt_t, nlt_f, nle_t, nle_f, ms_at, ms_off, up_at, up_off, L0, L1, L2, L3, L4, L5, L6, L7, L8, L9, L10, L11, L12, L13, L14, L15, L16, L17, L18, L19, L20, L21, L22, L23, L24, L30, L31, L32, L40, L41, L42, L43, L45, L47, L48, L52, L57, L59, L60, L61, L63, L64, L72, L97, L99, L100, L122, L160, L161, L200, L255, L999, L1200, L1998, L99999, L100000, L1000005]
      · simp (disch := omega) only [↓reduceIte, eq_self, Bool.false_eq_true, reduceCtorEq, ob_s, ob2_s, od_e, onl_n, onl_s, ι_nat, ι_add, ι_mul, ι_sub, ι_addm, lt_t, lt_f, le_t, le_f, eq_t, eq_f, inb_t, inb_f, neq_f, neq_f2, neq_nf, nlt_t, nlt_f, nle_t, nle_f, ms_at, ms_off, up_at, up_off, L0, L1, L2, L3, L4, L5, L6, L7, L8, L9, L10, L11, L12, L13, L14, L15, L16, L17, L18, L19, L20, L21, L22, L23, L24, L30, L31, L32, L40, L41, L42, L43, L45, L47, L48, L52, L57, L59, L60, L61, L63, L64, L72, L97, L99, L100, L122, L160, L161, L200, L255, L999, L1200, L1998, L99999, L100000, L1000005]
    · unfold f_X9_run
      simp (disch := omega) only [outN_in (n := 60) (by omega) g1, ↓reduceIte, eq_self, Bool.false_eq_true, reduceCtorEq, ob_s, ob2_s, od_e, onl_n, onl_s, ι_nat, ι_add, ι_mul, ι_sub, ι_addm, lt_t, lt_f, le_t, le_f, eq_t, eq_f, inb_t, inb_f, neq_f, neq_f2, neq_nf, nlt_t, nlt_f, nle_t, nle_f, ms_at, ms_off, up_at, up_off, L0, L1, L2, L3, L4, L5, L6, L7, L8, L9, L10, L11, L12, L13, L14, L15, L16, L17, L18, L19, L20, L21, L22, L23, L24, L30, L31, L32, L40, L41, L42, L43, L45, L47, L48, L52, L57, L59, L60, L61, L63, L64, L72, L97, L99, L100, L122, L160, L161, L200, L255, L999, L1200, L1998, L99999, L100000, L1000005]
