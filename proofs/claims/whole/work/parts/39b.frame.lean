/-! what of the memories the relation looks at -/
def oC (k j : Nat) : Prop := (k = 0 ∧ j = 5) ∨ (k = 1 ∧ j = 1) ∨ (k = 9 ∧ j = 1) ∨ (5 ≤ k ∧ k ≤ 8) ∨ k = 10 ∨ (49 ≤ k ∧ k < 66) ∨ (67 ≤ k ∧ k < 75) ∨ 98 ≤ k
def oR (M k j : Nat) : Prop := (k = 0 ∧ (j = 8 ∨ j = 11 ∨ (13 ≤ j ∧ j ≤ 17))) ∨ (5 ≤ k ∧ k ≤ 11) ∨ ((k = 1 ∨ k = 2) ∧ j < M)
theorem MR_fr {a a' : Nat → Int32} {τ τ' : Mem} {i : Nat} (ha : ∀ j, j < 6 → a' j = a j) (h1 : τ' 1 i = τ 1 i) (h2 : τ' 2 i = τ 2 i) (h3 : ∀ q, q < 4 → τ' 3 (4 * i + q) = τ 3 (4 * i + q)) (h : MR a τ i) : MR a' τ' i := by
  obtain ⟨k, m, b, o, r, s, p, q, t⟩ := h
  refine ⟨k, m, b, o, r, s, p, ?_, ?_⟩
  · rw [ha 0 (by decide), ha 1 (by decide), ha 2 (by decide), ha 3 (by decide), ha 4 (by decide), ha 5 (by decide)]
    exact q
  · have e0 := h3 0 (by decide)
    have e1 := h3 1 (by decide)
    have e2 := h3 2 (by decide)
    have e3 := h3 3 (by decide)
    rw [Nat.add_zero] at e0
    rw [h1, h2, e0, e1, e2, e3]
    exact t
theorem VR_fr {M V : Nat} {a a' : Nat → Int32} {τ τ' : Mem} {v : Nat} (ha : ∀ j, j < 6 → a' j = a j) (h3 : ∀ q, q < 6 → τ' 4 (6 * v + q) = τ 4 (6 * v + q)) (h : VR M V a τ v) : VR M V a' τ' v := by
  obtain ⟨f, g, n, d, s, p, c, q, t⟩ := h
  refine ⟨f, g, n, d, s, p, c, ?_, ?_⟩
  · rw [ha 0 (by decide), ha 1 (by decide), ha 2 (by decide), ha 3 (by decide), ha 4 (by decide), ha 5 (by decide)]
    exact q
  · have e0 := h3 0 (by decide)
    have e1 := h3 1 (by decide)
    have e2 := h3 2 (by decide)
    have e3 := h3 3 (by decide)
    have e4 := h3 4 (by decide)
    have e5 := h3 5 (by decide)
    rw [Nat.add_zero] at e0
    rw [e0, e1, e2, e3, e4, e5]
    exact t
theorem VR_up {M V M' V' : Nat} {a : Nat → Int32} {τ : Mem} {v : Nat} (hM : M ≤ M') (hV : V ≤ V') (h : VR M V a τ v) : VR M' V' a τ v := by
  obtain ⟨f, g, n, d, s, p, ⟨c1, c2, c3, c4, c5, c6, c7, c8⟩, q, t⟩ := h
  refine ⟨f, g, n, d, s, p, ⟨by omega, by omega, c3, c4, c5, c6, c7, ?_⟩, q, t⟩
  rcases c8 with c8 | ⟨w, hw, e⟩
  · exact Or.inl c8
  · exact Or.inr ⟨w, by omega, e⟩
theorem TR_fr {t M V w y : Nat} {σ σ' τ τ' : Mem} (hc : ∀ k j, t ≤ k → k < t + 17 → (k ≠ t ∨ (3 ≤ j ∧ j ≤ 6)) → σ' k j = σ k j) (hr : ∀ k j, (k = 0 ∧ (j = 0 ∨ j = 4 ∨ j = 6 ∨ j = 12)) ∨ ((k = 1 ∨ k = 2) ∧ j < M) ∨ k = 3 ∨ k = 4 → τ' k j = τ k j) (h : TR t M V w y σ τ) : TR t M V w y σ' τ' := by
  obtain ⟨h0, ⟨a1, a2, a3, a4⟩, ⟨b1, b2, b3, b4⟩, hm, hv⟩ := h
  refine ⟨h0, ?_, ?_, ?_, ?_⟩
  · rw [hc t 3 (by omega) (by omega) (by omega), hc t 4 (by omega) (by omega) (by omega), hc t 5 (by omega) (by omega) (by omega), hc t 6 (by omega) (by omega) (by omega)]
    exact ⟨a1, a2, a3, a4⟩
  · rw [hr 0 0 (by omega), hr 0 4 (by omega), hr 0 6 (by omega), hr 0 12 (by omega)]
    exact ⟨b1, b2, b3, b4⟩
  · intro i hi
    exact MR_fr (fun j _ => hc _ j (by omega) (by omega) (by omega)) (hr 1 i (by omega)) (hr 2 i (by omega)) (fun q _ => hr 3 _ (by omega)) (hm i hi)
  · intro v hv'
    exact VR_fr (fun j _ => hc _ j (by omega) (by omega) (by omega)) (fun q _ => hr 4 _ (by omega)) (hv v hv')
theorem RR_upd {σ τ σ' τ' : Mem} {M T M' V' w' y' : Nat} (hd : 1 ≤ T ∧ T ≤ 6 ∧ σ 1 1 = ι T ∧ τ 0 11 = ι T) (hTR : TR 15 M' V' w' y' σ' τ') (hM : M ≤ M') (hy : y' < T) (hw : w' ≤ 999) (hs : SH 15 σ') (hs9 : SH 49 σ) (hI : IR M T σ τ) (hSh : ShR σ τ) (hD : DR σ τ) (hX : XR T σ τ)
    (ac : ∀ k j, oC k j → σ' k j = σ k j) (ar : ∀ k j, oR M k j → τ' k j = τ k j) : RR σ' τ' := by
  obtain ⟨t1, t2, t3, t4⟩ := hd
  refine ⟨M', V', w', y', T, ⟨t1, t2, hy, hw, ?_, ?_⟩, hTR, hs, ?_, ?_, ?_, ?_, ?_⟩
  · rw [ac 1 1 (by unfold oC; omega)]
    exact t3
  · rw [ar 0 11 (by unfold oR; omega)]
    exact t4
  · intro i hi
    rw [ac (49 + 3 + i) 5 (by unfold oC; omega)]
    exact hs9 i hi
  · rcases hI with ⟨i1, i2⟩ | ⟨i1, i2, M1, V1, w1, y1, m1, m2, m3, m4⟩
    · refine Or.inl ⟨?_, ?_⟩
      · rw [ac 0 5 (by unfold oC; omega)]
        exact i1
      · rw [ar 0 13 (by unfold oR; omega)]
        exact i2
    · refine Or.inr ⟨?_, ?_, M1, V1, w1, y1, by omega, m2, m3, ?_⟩
      · rw [ac 0 5 (by unfold oC; omega)]
        exact i1
      · rw [ar 0 13 (by unfold oR; omega)]
        exact i2
      · refine TR_fr (fun k j h1 h2 h3 => ac k j (by unfold oC; omega)) (fun k j h => ?_) m4
        unfold imgv
        by_cases k0 : k = 0
        · rw [if_pos k0, if_pos k0, ar 0 14 (by unfold oR; omega), ar 0 15 (by unfold oR; omega), ar 0 16 (by unfold oR; omega), ar 0 17 (by unfold oR; omega)]
        · rw [if_neg k0, if_neg k0]
          by_cases k3 : k = 3
          · rw [if_pos k3, if_pos k3, ar 8 j (by unfold oR; omega)]
          · rw [if_neg k3, if_neg k3]
            by_cases k4 : k = 4
            · rw [if_pos k4, if_pos k4, ar 8 _ (by unfold oR; omega)]
            · rw [if_neg k4, if_neg k4]
              exact ar k j (by unfold oR; omega)
  · intro k hk
    obtain ⟨n, q1, q2, q3, q4, q5, q6⟩ := hSh k hk
    refine ⟨n, q1, ?_, ?_, ?_, ?_, ?_⟩
    · rw [ar 9 k (by unfold oR; omega)]
      exact q2
    · rw [ac (67 + 2 * k) 1 (by unfold oC; omega), ar 9 k (by unfold oR; omega)]
      exact q3
    · rw [ac (67 + 2 * k) 2 (by unfold oC; omega)]
      exact q4
    · rw [ar 10 k (by unfold oR; omega)]
      exact q5
    · intro j hj
      rw [ac (68 + 2 * k) j (by unfold oC; omega), ar 11 _ (by unfold oR; omega)]
      exact q6 j hj
  · obtain ⟨n, q1, q2, q3, q4⟩ := hD
    refine ⟨n, q1, ?_, ?_, ?_⟩
    · rw [ac 9 1 (by unfold oC; omega)]
      exact q2
    · rw [ar 0 8 (by unfold oR; omega)]
      exact q3
    · intro j hj
      rw [ac 10 j (by unfold oC; omega), ar 5 j (by unfold oR; omega)]
      exact q4 j hj
  · intro i hi q hq
    obtain ⟨a, n, x1, x2, x3, x4, x5, x6, x7⟩ := hX i hi q hq
    have hk : ∀ j, σ' (tad i + 1 + q) j = σ (tad i + 1 + q) j := fun j => ac _ j (by unfold oC tad; split <;> omega)
    have hf : σ' (tad i + 1 + q) = σ (tad i + 1 + q) := funext hk
    refine ⟨a, n, x1, x2, ?_, ?_, ?_, ?_, ?_⟩
    · rw [ar 7 _ (by unfold oR; omega)]
      exact x3
    · rw [ar 7 _ (by unfold oR; omega)]
      exact x4
    · unfold alen
      rw [hf]
      exact x5
    · rw [hf]
      exact x6
    · intro j hj
      rw [hf, ar 6 _ (by unfold oR; omega)]
      exact x7 j hj
