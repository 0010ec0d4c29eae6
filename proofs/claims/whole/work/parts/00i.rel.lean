/-! THE PURE PART: the relation, and what it doesn't look at -/
def SH (t : Nat) (σ : Mem) : Prop := ∀ i, i < 6 → σ (t + 3 + i) 5 = ι 0 ∨ σ (t + 3 + i) 5 = ι 1
/-- the reference's image as rows -/
def imgv (τ : Mem) : Mem := fun k j => if k = 0 then (if j = 0 then τ 0 14 else if j = 4 then τ 0 15 else if j = 6 then τ 0 16 else if j = 12 then τ 0 17 else 0) else if k = 3 then τ 8 j else if k = 4 then τ 8 (24 + j) else τ k j
def IRel (M T : Nat) (σ τ : Mem) : Prop := (σ 0 5 = ι 0 ∧ τ 0 13 = ι 0) ∨ (σ 0 5 = ι 1 ∧ τ 0 13 = ι 1 ∧ ∃ (M1 V1 w1 y1 : Nat) (A1 B1 : Nat → Nat → Nat), (M1 ≤ M ∧ V1 ≤ 8 ∧ w1 ≤ 999 ∧ y1 < T) ∧ OKA M1 A1 ∧ OKB2 M1 V1 B1 ∧ CT 49 M1 V1 w1 y1 A1 B1 σ ∧ FT M1 V1 w1 y1 A1 B1 (imgv τ))
def SRel (σ τ : Mem) : Prop := ∀ k, k < 4 → ∃ so sz : Nat, so ≤ 3 ∧ sz ≤ 40 ∧ σ (67 + 2 * k) 1 = pl so ∧ σ (67 + 2 * k) 2 = ι sz ∧ τ 9 k = pl so ∧ τ 10 k = ι sz ∧ ∀ j, j < 40 → σ (68 + 2 * k) j = τ 11 (40 * k + j)
/-- the reference's words, eight places each -/
def wtab (j : Nat) : Int32 := ([103, 114, 111, 119, 115, 32, 32, 32, 116, 114, 105, 109, 115, 32, 32, 32, 115, 104, 97, 109, 101, 115, 32, 32, 98, 101, 97, 114, 100, 32, 32, 32, 111, 105, 108, 32, 32, 32, 32, 32, 109, 111, 114, 101, 32, 32, 32, 32, 119, 101, 101, 107, 32, 32, 32, 32, 111, 119, 101, 100, 32, 32, 32, 32, 114, 97, 110, 107, 32, 32, 32, 32, 111, 114, 32, 32, 32, 32, 32, 32, 97, 110, 100, 32, 32, 32, 32, 32, 110, 111, 116, 32, 32, 32, 32, 32] : List Int32).getD j 0
def DRel (σ τ : Mem) : Prop := ∃ n : Nat, n ≤ 160 ∧ σ 9 1 = ι n ∧ τ 0 8 = ι n ∧ (∀ j, j < n → ∃ b : Nat, b ≤ 255 ∧ σ 10 j = ι b ∧ τ 5 j = ι b) ∧ ∀ j, j < 96 → τ 13 j = wtab j
def RR (σ τ : Mem) : Prop := ∃ (M V w y : Nat) (A B : Nat → Nat → Nat) (T : Nat) (X : XT), (M ≤ 6 ∧ V ≤ 8 ∧ w ≤ 999 ∧ y < T) ∧ OKA M A ∧ OKB2 M V B ∧ OKX T X ∧ CT 15 M V w y A B σ ∧ SH 15 σ ∧ SH 49 σ ∧ FT M V w y A B τ ∧ CXT T X σ ∧ FXT T X τ ∧ IRel M T σ τ ∧ SRel σ τ ∧ DRel σ τ
theorem RR_txn {σ τ : Mem} (h : RR σ τ) : 1 ≤ txn σ := by
  obtain ⟨M, V, w, y, A, B, T, X, h0, -, -, ⟨h1, h2, -⟩, -, -, -, -, ⟨h3, -⟩, -⟩ := h
  unfold txn
  rw [h3, ι_nat (by omega)]
  exact h1
/-- what else the relation looks at than the town: of the class, of the reference -/
def oC (k j : Nat) : Prop := (k = 0 ∧ j = 5) ∨ (k = 1 ∧ j = 1) ∨ (k = 9 ∧ j = 1) ∨ (5 ≤ k ∧ k ≤ 8) ∨ k = 10 ∨ (49 ≤ k ∧ k < 66) ∨ (67 ≤ k ∧ k < 75) ∨ 98 ≤ k
def oR (M k j : Nat) : Prop := (k = 0 ∧ (j = 8 ∨ j = 11 ∨ (13 ≤ j ∧ j ≤ 17))) ∨ (5 ≤ k ∧ k ≤ 11) ∨ k = 13 ∨ ((k = 1 ∨ k = 2) ∧ j < M)
theorem CT_fr {t M V w y : Nat} {A B : Nat → Nat → Nat} {σ σ' : Mem} (hM : M ≤ 6) (hV : V ≤ 8) (hc : ∀ k j, t ≤ k → k < t + 17 → (k ≠ t ∨ (3 ≤ j ∧ j ≤ 6)) → σ' k j = σ k j) (h : CT t M V w y A B σ) : CT t M V w y A B σ' := by
  obtain ⟨a1, a2, a3, a4, a5, a6⟩ := h
  refine ⟨?_, ?_, ?_, ?_, ?_, ?_⟩
  · rw [hc t 3 (by omega) (by omega) (by omega)]; exact a1
  · rw [hc t 4 (by omega) (by omega) (by omega)]; exact a2
  · rw [hc t 5 (by omega) (by omega) (by omega)]; exact a3
  · rw [hc t 6 (by omega) (by omega) (by omega)]; exact a4
  · intro i hi
    have := a5 i hi
    rw [hc (t + 3 + i) 0 (by omega) (by omega) (by omega), hc (t + 3 + i) 1 (by omega) (by omega) (by omega), hc (t + 3 + i) 2 (by omega) (by omega) (by omega), hc (t + 3 + i) 3 (by omega) (by omega) (by omega), hc (t + 3 + i) 4 (by omega) (by omega) (by omega), hc (t + 3 + i) 5 (by omega) (by omega) (by omega)]
    exact this
  · intro i hi
    have := a6 i hi
    rw [hc (t + 9 + i) 0 (by omega) (by omega) (by omega), hc (t + 9 + i) 1 (by omega) (by omega) (by omega), hc (t + 9 + i) 2 (by omega) (by omega) (by omega), hc (t + 9 + i) 3 (by omega) (by omega) (by omega), hc (t + 9 + i) 4 (by omega) (by omega) (by omega), hc (t + 9 + i) 5 (by omega) (by omega) (by omega)]
    exact this
theorem FT_fr {M V w y : Nat} {A B : Nat → Nat → Nat} {τ τ' : Mem} (hM : M ≤ 6) (hV : V ≤ 8) (hr : ∀ k j, (k = 0 ∧ (j = 0 ∨ j = 4 ∨ j = 6 ∨ j = 12)) ∨ ((k = 1 ∨ k = 2) ∧ j < M) ∨ (k = 3 ∧ j < 24) ∨ (k = 4 ∧ j < 48) → τ' k j = τ k j) (h : FT M V w y A B τ) : FT M V w y A B τ' := by
  obtain ⟨a1, a2, a3, a4, a5, a6⟩ := h
  refine ⟨?_, ?_, ?_, ?_, ?_, ?_⟩
  · rw [hr 0 0 (by omega)]; exact a1
  · rw [hr 0 4 (by omega)]; exact a2
  · rw [hr 0 6 (by omega)]; exact a3
  · rw [hr 0 12 (by omega)]; exact a4
  · intro i hi
    have := a5 i hi
    rw [hr 1 i (by omega), hr 2 i (by omega), hr 3 (4 * i) (by omega), hr 3 (4 * i + 1) (by omega), hr 3 (4 * i + 2) (by omega), hr 3 (4 * i + 3) (by omega)]
    exact this
  · intro i hi
    have := a6 i hi
    rw [hr 4 (6 * i) (by omega), hr 4 (6 * i + 1) (by omega), hr 4 (6 * i + 2) (by omega), hr 4 (6 * i + 3) (by omega), hr 4 (6 * i + 4) (by omega), hr 4 (6 * i + 5) (by omega)]
    exact this
theorem CXT_fr {T : Nat} {X : XT} {σ σ' : Mem} (ac : ∀ k j, (k = 1 ∧ j = 1) ∨ (5 ≤ k ∧ k ≤ 8) ∨ 98 ≤ k → σ' k j = σ k j) (h : CXT T X σ) : CXT T X σ' := by
  obtain ⟨h1, h2⟩ := h
  refine ⟨by rw [ac 1 1 (by omega)]; exact h1, fun i hi q hq => ?_⟩
  obtain ⟨x1, x2⟩ := h2 i hi q hq
  have hk : ∀ j, σ' (tad i + 1 + q) j = σ (tad i + 1 + q) j := fun j => ac _ j (by unfold tad; split <;> omega)
  refine ⟨?_, fun j hj => ?_⟩
  · unfold alen
    rw [hk]
    exact x1
  · rw [hk]
    exact x2 j hj
theorem FXT_fr {T : Nat} {X : XT} {τ τ' : Mem} (ar : ∀ k j, (k = 0 ∧ j = 11) ∨ k = 6 ∨ k = 7 → τ' k j = τ k j) (h : FXT T X τ) : FXT T X τ' := by
  obtain ⟨h1, h2⟩ := h
  refine ⟨by rw [ar 0 11 (by omega)]; exact h1, fun i hi q hq => ?_⟩
  obtain ⟨a, x1, x2, x3, x4⟩ := h2 i hi q hq
  refine ⟨a, x1, ?_, ?_, fun j hj => ?_⟩
  · rw [ar 7 _ (by omega)]; exact x2
  · rw [ar 7 _ (by omega)]; exact x3
  · rw [ar 6 _ (by omega)]; exact x4 j hj
theorem IRel_fr {M M' T : Nat} {σ σ' τ τ' : Mem} (hM : M ≤ M') (hM6 : M' ≤ 6) (ac : ∀ k j, oC k j → σ' k j = σ k j) (ar : ∀ k j, oR M k j → τ' k j = τ k j) (h : IRel M T σ τ) : IRel M' T σ' τ' := by
  rcases h with ⟨i1, i2⟩ | ⟨i1, i2, M1, V1, w1, y1, A1, B1, ⟨m1, m2, m3, m4⟩, o1, o2, c, f⟩
  · refine Or.inl ⟨?_, ?_⟩
    · rw [ac 0 5 (by unfold oC; omega)]
      exact i1
    · rw [ar 0 13 (by unfold oR; omega)]
      exact i2
  · refine Or.inr ⟨?_, ?_, M1, V1, w1, y1, A1, B1, ⟨by omega, m2, m3, m4⟩, o1, o2, ?_, ?_⟩
    · rw [ac 0 5 (by unfold oC; omega)]
      exact i1
    · rw [ar 0 13 (by unfold oR; omega)]
      exact i2
    · exact CT_fr (by omega) m2 (fun k j h1 h2 h3 => ac k j (by unfold oC; omega)) c
    · refine FT_fr (by omega) m2 (fun k j h => ?_) f
      unfold imgv
      by_cases k0 : k = 0
      · rw [if_pos k0, if_pos k0, ar 0 14 (by unfold oR; omega), ar 0 15 (by unfold oR; omega), ar 0 16 (by unfold oR; omega), ar 0 17 (by unfold oR; omega)]
      · rw [if_neg k0, if_neg k0]
        by_cases k3 : k = 3
        · rw [if_pos k3, if_pos k3, ar 8 j (by unfold oR; omega)]
        · rw [if_neg k3, if_neg k3]
          by_cases k4 : k = 4
          · rw [if_pos k4, if_pos k4, ar 8 _ (by unfold oR; omega)]
          · rw [if_neg k4, if_neg k4]
            exact ar k j (by unfold oR; omega)
theorem SRel_fr {σ σ' τ τ' : Mem} (ac : ∀ k j, (67 ≤ k ∧ k < 75) → σ' k j = σ k j) (ar : ∀ k j, (9 ≤ k ∧ k ≤ 11) → τ' k j = τ k j) (h : SRel σ τ) : SRel σ' τ' := by
  intro k hk
  obtain ⟨so, sz, q1, q2, q3, q4, q5, q6, q7⟩ := h k hk
  refine ⟨so, sz, q1, q2, ?_, ?_, ?_, ?_, ?_⟩
  · rw [ac (67 + 2 * k) 1 (by omega)]; exact q3
  · rw [ac (67 + 2 * k) 2 (by omega)]; exact q4
  · rw [ar 9 k (by omega)]; exact q5
  · rw [ar 10 k (by omega)]; exact q6
  · intro j hj
    rw [ac (68 + 2 * k) j (by omega), ar 11 _ (by omega)]
    exact q7 j hj
theorem DRel_fr {σ σ' τ τ' : Mem} (ac : ∀ k j, (k = 9 ∧ j = 1) ∨ k = 10 → σ' k j = σ k j) (ar : ∀ k j, (k = 0 ∧ j = 8) ∨ k = 5 ∨ k = 13 → τ' k j = τ k j) (h : DRel σ τ) : DRel σ' τ' := by
  obtain ⟨n, q1, q2, q3, q4, q5⟩ := h
  refine ⟨n, q1, ?_, ?_, ?_, ?_⟩
  · rw [ac 9 1 (by omega)]; exact q2
  · rw [ar 0 8 (by omega)]; exact q3
  · intro j hj
    rw [ac 10 j (by omega), ar 5 j (by omega)]
    exact q4 j hj
  · intro j hj
    rw [ar 13 j (by omega)]
    exact q5 j hj
theorem RR_upd {σ τ σ' τ' : Mem} {M M' V' w' y' T : Nat} {X : XT} {A' B' : Nat → Nat → Nat} (hOX : OKX T X) (hS9 : SH 49 σ) (hCX : CXT T X σ) (hFX : FXT T X τ) (hI : IRel M T σ τ) (hSh : SRel σ τ) (hD : DRel σ τ)
    (hM : M ≤ M') (hn : M' ≤ 6 ∧ V' ≤ 8 ∧ w' ≤ 999 ∧ y' < T) (hA : OKA M' A') (hB : OKB2 M' V' B') (hC : CT 15 M' V' w' y' A' B' σ') (hS : SH 15 σ') (hF : FT M' V' w' y' A' B' τ')
    (ac : ∀ k j, oC k j → σ' k j = σ k j) (ar : ∀ k j, oR M k j → τ' k j = τ k j) : RR σ' τ' ∧ σ' 1 1 = σ 1 1 := by
  refine ⟨⟨M', V', w', y', A', B', T, X, hn, hA, hB, hOX, hC, hS, ?_, hF, ?_, ?_, ?_, ?_, ?_⟩, ac 1 1 (by unfold oC; omega)⟩
  · intro i hi
    rw [ac (49 + 3 + i) 5 (by unfold oC; omega)]
    exact hS9 i hi
  · exact CXT_fr (fun k j h => ac k j (by unfold oC; omega)) hCX
  · exact FXT_fr (fun k j h => ar k j (by unfold oR; omega)) hFX
  · exact IRel_fr hM hn.1 ac ar hI
  · exact SRel_fr (fun k j h => ac k j (by unfold oC; omega)) (fun k j h => ar k j (by unfold oR; omega)) hSh
  · exact DRel_fr (fun k j h => ac k j (by unfold oC; omega)) (fun k j h => ar k j (by unfold oR; omega)) hD
/-- what nothing is told by: of the class, of the reference -/
def sC (k j : Nat) : Prop := k = 3 ∨ k = 4 ∨ (11 ≤ k ∧ k ≤ 14) ∨ (32 ≤ k ∧ k ≤ 48) ∨ (75 ≤ k ∧ k ≤ 79) ∨ (k = 9 ∧ j ≠ 1) ∨ (k = 15 ∧ 7 ≤ j)
def sR (k j : Nat) : Prop := (12 ≤ k ∧ k ≠ 13) ∨ (k = 0 ∧ 23 ≤ j) ∨ (k = 3 ∧ 24 ≤ j) ∨ (k = 4 ∧ 48 ≤ j)
def eqC (σ σ' : Mem) : Prop := ∀ k j, ¬ sC k j → σ' k j = σ k j
def eqR (τ τ' : Mem) : Prop := ∀ k j, ¬ sR k j → τ' k j = τ k j
theorem eqC.rfl {σ : Mem} : eqC σ σ := fun _ _ _ => Eq.refl _
theorem eqR.rfl {σ : Mem} : eqR σ σ := fun _ _ _ => Eq.refl _
theorem eqC.tr {a b c : Mem} (h : eqC a b) (g : eqC b c) : eqC a c := fun k j n => (g k j n).trans (h k j n)
theorem eqR.tr {a b c : Mem} (h : eqR a b) (g : eqR b c) : eqR a c := fun k j n => (g k j n).trans (h k j n)
theorem CT_sc {M V w y : Nat} {A B : Nat → Nat → Nat} {σ σ' : Mem} (hM : M ≤ 6) (hV : V ≤ 8) (hc : eqC σ σ') (h : CT 15 M V w y A B σ) : CT 15 M V w y A B σ' :=
  CT_fr hM hV (fun k j h1 h2 h3 => hc k j (by unfold sC; omega)) h
theorem FT_sc {M V w y : Nat} {A B : Nat → Nat → Nat} {τ τ' : Mem} (hM : M ≤ 6) (hV : V ≤ 8) (hr : eqR τ τ') (h : FT M V w y A B τ) : FT M V w y A B τ' :=
  FT_fr hM hV (fun k j h1 => hr k j (by unfold sR; omega)) h
theorem RR_eq {σ τ σ' τ' : Mem} (h : RR σ τ) (hc : eqC σ σ') (hr : eqR τ τ') : RR σ' τ' ∧ σ' 1 1 = σ 1 1 := by
  obtain ⟨M, V, w, y, A, B, T, X, h0, hA, hB, hOX, hC, hS, hS9, hF, hCX, hFX, hI, hSh, hD⟩ := h
  refine RR_upd hOX hS9 hCX hFX hI hSh hD (Nat.le_refl M) h0 hA hB (CT_sc h0.1 h0.2.1 hc hC) ?_ (FT_sc h0.1 h0.2.1 hr hF) (fun k j h => hc k j (by unfold sC; unfold oC at h; omega)) (fun k j h => hr k j (by unfold sR; unfold oR at h; omega))
  intro i hi
  rw [hc (15 + 3 + i) 5 (by unfold sC; omega)]
  exact hS i hi
theorem op_count : OP_count RR := by
  intro σ τ v1 hR
  obtain ⟨M, V, w, y, A, B, T, X, h0, hA, hB, hOX, ⟨a1, a2, a3, a4, -⟩, hS, hS9, ⟨b1, b2, b3, b4, -⟩, ⟨c1, -⟩, ⟨f1, -⟩, hI, hSh, n, d1, d2, d3, -⟩ := id hR
  refine ⟨_, rfl, ?_, hR⟩
  unfold f_X9_count f_X8_count
  rw [a1, a2, a3, a4, c1, d2, b1, b2, b3, b4, f1, d3]
theorem op_force : OP_force RR := by
  intro σ τ v1 hR
  obtain ⟨M, V, w, y, A, B, T, X, h0, hA, hB, hOX, hC, hS, hS9, hF, hCX, hFX, hI, hSh, hD⟩ := id hR
  obtain ⟨a1, a2, a3, a4, a5, a6⟩ := id hC
  obtain ⟨b1, b2, b3, b4, b5, b6⟩ := id hF
  have hT := hOX.2.1
  have c1 := hCX.1
  have f1 := hFX.1
  rcases argN T v1 with ⟨k, k1, k2, rfl⟩ | ho
  · refine ⟨ι y, ms σ 15 6 (ι k), ms τ 0 12 (ι k), ?_, ?_, ?_⟩
    · unfold f_X8_force
      simp (disch := omega) only [c1, a4, ↓reduceIte, eq_self, Bool.false_eq_true, reduceCtorEq, ob_s, ob2_s, od_e, onl_n, onl_s, ι_nat, ι_add, ι_mul, ι_sub, ι_addm, lt_t, lt_f, le_t, le_f, eq_t, eq_f, inb_t, inb_f, neq_f, neq_f2, neq_nf, nlt_t, nlt_f, nle_t, nle_f, ms_at, ms_off, up_at, up_off, L0, L1, L2, L3, L4, L5, L6, L7, L8, L9, L10, L11, L12, L13, L14, L15, L16, L17, L18, L19, L20, L21, L22, L23, L24, L30, L31, L32, L40, L41, L42, L43, L45, L47, L48, L52, L57, L59, L60, L61, L63, L64, L72, L97, L99, L100, L122, L160, L161, L200, L255, L999, L1200, L1998, L99999, L100000, L1000005]
    · unfold f_X9_force
      simp (disch := omega) only [f1, b4, r_in, ↓reduceIte, eq_self, Bool.false_eq_true, reduceCtorEq, ob_s, ob2_s, od_e, onl_n, onl_s, ι_nat, ι_add, ι_mul, ι_sub, ι_addm, lt_t, lt_f, le_t, le_f, eq_t, eq_f, inb_t, inb_f, neq_f, neq_f2, neq_nf, nlt_t, nlt_f, nle_t, nle_f, ms_at, ms_off, up_at, up_off, L0, L1, L2, L3, L4, L5, L6, L7, L8, L9, L10, L11, L12, L13, L14, L15, L16, L17, L18, L19, L20, L21, L22, L23, L24, L30, L31, L32, L40, L41, L42, L43, L45, L47, L48, L52, L57, L59, L60, L61, L63, L64, L72, L97, L99, L100, L122, L160, L161, L200, L255, L999, L1200, L1998, L99999, L100000, L1000005]
    · refine RR_upd (y' := k) hOX hS9 hCX hFX hI hSh hD (Nat.le_refl M) ⟨h0.1, h0.2.1, h0.2.2.1, k1⟩ hA hB ?_ ?_ ?_ ?_ ?_
      · refine ⟨?_, ?_, ?_, ?_, ?_, ?_⟩
        · simp (disch := omega) only [a1, ↓reduceIte, eq_self, Bool.false_eq_true, reduceCtorEq, ob_s, ob2_s, od_e, onl_n, onl_s, ι_nat, ι_add, ι_mul, ι_sub, ι_addm, lt_t, lt_f, le_t, le_f, eq_t, eq_f, inb_t, inb_f, neq_f, neq_f2, neq_nf, nlt_t, nlt_f, nle_t, nle_f, ms_at, ms_off, up_at, up_off, L0, L1, L2, L3, L4, L5, L6, L7, L8, L9, L10, L11, L12, L13, L14, L15, L16, L17, L18, L19, L20, L21, L22, L23, L24, L30, L31, L32, L40, L41, L42, L43, L45, L47, L48, L52, L57, L59, L60, L61, L63, L64, L72, L97, L99, L100, L122, L160, L161, L200, L255, L999, L1200, L1998, L99999, L100000, L1000005]
        · simp (disch := omega) only [a2, ↓reduceIte, eq_self, Bool.false_eq_true, reduceCtorEq, ob_s, ob2_s, od_e, onl_n, onl_s, ι_nat, ι_add, ι_mul, ι_sub, ι_addm, lt_t, lt_f, le_t, le_f, eq_t, eq_f, inb_t, inb_f, neq_f, neq_f2, neq_nf, nlt_t, nlt_f, nle_t, nle_f, ms_at, ms_off, up_at, up_off, L0, L1, L2, L3, L4, L5, L6, L7, L8, L9, L10, L11, L12, L13, L14, L15, L16, L17, L18, L19, L20, L21, L22, L23, L24, L30, L31, L32, L40, L41, L42, L43, L45, L47, L48, L52, L57, L59, L60, L61, L63, L64, L72, L97, L99, L100, L122, L160, L161, L200, L255, L999, L1200, L1998, L99999, L100000, L1000005]
        · simp (disch := omega) only [a3, ↓reduceIte, eq_self, Bool.false_eq_true, reduceCtorEq, ob_s, ob2_s, od_e, onl_n, onl_s, ι_nat, ι_add, ι_mul, ι_sub, ι_addm, lt_t, lt_f, le_t, le_f, eq_t, eq_f, inb_t, inb_f, neq_f, neq_f2, neq_nf, nlt_t, nlt_f, nle_t, nle_f, ms_at, ms_off, up_at, up_off, L0, L1, L2, L3, L4, L5, L6, L7, L8, L9, L10, L11, L12, L13, L14, L15, L16, L17, L18, L19, L20, L21, L22, L23, L24, L30, L31, L32, L40, L41, L42, L43, L45, L47, L48, L52, L57, L59, L60, L61, L63, L64, L72, L97, L99, L100, L122, L160, L161, L200, L255, L999, L1200, L1998, L99999, L100000, L1000005]
        · simp (disch := omega) only [↓reduceIte, eq_self, Bool.false_eq_true, reduceCtorEq, ob_s, ob2_s, od_e, onl_n, onl_s, ι_nat, ι_add, ι_mul, ι_sub, ι_addm, lt_t, lt_f, le_t, le_f, eq_t, eq_f, inb_t, inb_f, neq_f, neq_f2, neq_nf, nlt_t, nlt_f, nle_t, nle_f, ms_at, ms_off, up_at, up_off, L0, L1, L2, L3, L4, L5, L6, L7, L8, L9, L10, L11, L12, L13, L14, L15, L16, L17, L18, L19, L20, L21, L22, L23, L24, L30, L31, L32, L40, L41, L42, L43, L45, L47, L48, L52, L57, L59, L60, L61, L63, L64, L72, L97, L99, L100, L122, L160, L161, L200, L255, L999, L1200, L1998, L99999, L100000, L1000005]
        · intro i hi
          simp (disch := omega) only [ms_off]
          exact a5 i hi
        · intro i hi
          simp (disch := omega) only [ms_off]
          exact a6 i hi
      · intro i hi
        rw [ms_off (by omega)]
        exact hS i hi
      · refine ⟨?_, ?_, ?_, ?_, ?_, ?_⟩
        · simp (disch := omega) only [b1, ↓reduceIte, eq_self, Bool.false_eq_true, reduceCtorEq, ob_s, ob2_s, od_e, onl_n, onl_s, ι_nat, ι_add, ι_mul, ι_sub, ι_addm, lt_t, lt_f, le_t, le_f, eq_t, eq_f, inb_t, inb_f, neq_f, neq_f2, neq_nf, nlt_t, nlt_f, nle_t, nle_f, ms_at, ms_off, up_at, up_off, L0, L1, L2, L3, L4, L5, L6, L7, L8, L9, L10, L11, L12, L13, L14, L15, L16, L17, L18, L19, L20, L21, L22, L23, L24, L30, L31, L32, L40, L41, L42, L43, L45, L47, L48, L52, L57, L59, L60, L61, L63, L64, L72, L97, L99, L100, L122, L160, L161, L200, L255, L999, L1200, L1998, L99999, L100000, L1000005]
        · simp (disch := omega) only [b2, ↓reduceIte, eq_self, Bool.false_eq_true, reduceCtorEq, ob_s, ob2_s, od_e, onl_n, onl_s, ι_nat, ι_add, ι_mul, ι_sub, ι_addm, lt_t, lt_f, le_t, le_f, eq_t, eq_f, inb_t, inb_f, neq_f, neq_f2, neq_nf, nlt_t, nlt_f, nle_t, nle_f, ms_at, ms_off, up_at, up_off, L0, L1, L2, L3, L4, L5, L6, L7, L8, L9, L10, L11, L12, L13, L14, L15, L16, L17, L18, L19, L20, L21, L22, L23, L24, L30, L31, L32, L40, L41, L42, L43, L45, L47, L48, L52, L57, L59, L60, L61, L63, L64, L72, L97, L99, L100, L122, L160, L161, L200, L255, L999, L1200, L1998, L99999, L100000, L1000005]
        · simp (disch := omega) only [b3, ↓reduceIte, eq_self, Bool.false_eq_true, reduceCtorEq, ob_s, ob2_s, od_e, onl_n, onl_s, ι_nat, ι_add, ι_mul, ι_sub, ι_addm, lt_t, lt_f, le_t, le_f, eq_t, eq_f, inb_t, inb_f, neq_f, neq_f2, neq_nf, nlt_t, nlt_f, nle_t, nle_f, ms_at, ms_off, up_at, up_off, L0, L1, L2, L3, L4, L5, L6, L7, L8, L9, L10, L11, L12, L13, L14, L15, L16, L17, L18, L19, L20, L21, L22, L23, L24, L30, L31, L32, L40, L41, L42, L43, L45, L47, L48, L52, L57, L59, L60, L61, L63, L64, L72, L97, L99, L100, L122, L160, L161, L200, L255, L999, L1200, L1998, L99999, L100000, L1000005]
        · simp (disch := omega) only [↓reduceIte, eq_self, Bool.false_eq_true, reduceCtorEq, ob_s, ob2_s, od_e, onl_n, onl_s, ι_nat, ι_add, ι_mul, ι_sub, ι_addm, lt_t, lt_f, le_t, le_f, eq_t, eq_f, inb_t, inb_f, neq_f, neq_f2, neq_nf, nlt_t, nlt_f, nle_t, nle_f, ms_at, ms_off, up_at, up_off, L0, L1, L2, L3, L4, L5, L6, L7, L8, L9, L10, L11, L12, L13, L14, L15, L16, L17, L18, L19, L20, L21, L22, L23, L24, L30, L31, L32, L40, L41, L42, L43, L45, L47, L48, L52, L57, L59, L60, L61, L63, L64, L72, L97, L99, L100, L122, L160, L161, L200, L255, L999, L1200, L1998, L99999, L100000, L1000005]
        · intro i hi
          simp (disch := omega) only [ms_off]
          exact b5 i hi
        · intro i hi
          simp (disch := omega) only [ms_off]
          exact b6 i hi
      · intro k j h
        unfold oC at h
        rw [ms_off (by omega)]
      · intro k j h
        unfold oR at h
        rw [ms_off (by omega)]
  · refine ⟨-ι 2, σ, τ, ?_, ?_, hR, rfl⟩
    · unfold f_X8_force
      rcases ho with hn | ⟨k, k1, k2, rfl⟩
      · simp (disch := omega) only [ng_lt hn, ↓reduceIte, eq_self, Bool.false_eq_true, reduceCtorEq, ob_s, ob2_s, od_e, onl_n, onl_s, ι_nat, ι_add, ι_mul, ι_sub, ι_addm, lt_t, lt_f, le_t, le_f, eq_t, eq_f, inb_t, inb_f, neq_f, neq_f2, neq_nf, nlt_t, nlt_f, nle_t, nle_f, ms_at, ms_off, up_at, up_off, L0, L1, L2, L3, L4, L5, L6, L7, L8, L9, L10, L11, L12, L13, L14, L15, L16, L17, L18, L19, L20, L21, L22, L23, L24, L30, L31, L32, L40, L41, L42, L43, L45, L47, L48, L52, L57, L59, L60, L61, L63, L64, L72, L97, L99, L100, L122, L160, L161, L200, L255, L999, L1200, L1998, L99999, L100000, L1000005]
      · simp (disch := omega) only [c1, ↓reduceIte, eq_self, Bool.false_eq_true, reduceCtorEq, ob_s, ob2_s, od_e, onl_n, onl_s, ι_nat, ι_add, ι_mul, ι_sub, ι_addm, lt_t, lt_f, le_t, le_f, eq_t, eq_f, inb_t, inb_f, neq_f, neq_f2, neq_nf, nlt_t, nlt_f, nle_t, nle_f, ms_at, ms_off, up_at, up_off, L0, L1, L2, L3, L4, L5, L6, L7, L8, L9, L10, L11, L12, L13, L14, L15, L16, L17, L18, L19, L20, L21, L22, L23, L24, L30, L31, L32, L40, L41, L42, L43, L45, L47, L48, L52, L57, L59, L60, L61, L63, L64, L72, L97, L99, L100, L122, L160, L161, L200, L255, L999, L1200, L1998, L99999, L100000, L1000005]
    · unfold f_X9_force
      have := r_inMNo (by omega) ho
      simp (disch := omega) only [f1, this, ↓reduceIte, eq_self, Bool.false_eq_true, reduceCtorEq, ob_s, ob2_s, od_e, onl_n, onl_s, ι_nat, ι_add, ι_mul, ι_sub, ι_addm, lt_t, lt_f, le_t, le_f, eq_t, eq_f, inb_t, inb_f, neq_f, neq_f2, neq_nf, nlt_t, nlt_f, nle_t, nle_f, ms_at, ms_off, up_at, up_off, L0, L1, L2, L3, L4, L5, L6, L7, L8, L9, L10, L11, L12, L13, L14, L15, L16, L17, L18, L19, L20, L21, L22, L23, L24, L30, L31, L32, L40, L41, L42, L43, L45, L47, L48, L52, L57, L59, L60, L61, L63, L64, L72, L97, L99, L100, L122, L160, L161, L200, L255, L999, L1200, L1998, L99999, L100000, L1000005]
      rw [← ι_sub (by omega) (by omega), this]
      simp (disch := omega) only [↓reduceIte, eq_self, Bool.false_eq_true, reduceCtorEq, ob_s, ob2_s, od_e, onl_n, onl_s, ι_nat, ι_add, ι_mul, ι_sub, ι_addm, lt_t, lt_f, le_t, le_f, eq_t, eq_f, inb_t, inb_f, neq_f, neq_f2, neq_nf, nlt_t, nlt_f, nle_t, nle_f, ms_at, ms_off, up_at, up_off, L0, L1, L2, L3, L4, L5, L6, L7, L8, L9, L10, L11, L12, L13, L14, L15, L16, L17, L18, L19, L20, L21, L22, L23, L24, L30, L31, L32, L40, L41, L42, L43, L45, L47, L48, L52, L57, L59, L60, L61, L63, L64, L72, L97, L99, L100, L122, L160, L161, L200, L255, L999, L1200, L1998, L99999, L100000, L1000005]
