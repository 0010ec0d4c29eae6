/-! THE PURE PART: the start -/
def rq5 : Mem := fun k j => if k = 5 then ([103, 114, 111, 119, 115, 32, 52, 32, 43, 32, 111, 105, 108, 32, 59, 32, 116, 114, 105, 109, 115, 32, 50, 32, 59, 32, 115, 104, 97, 109, 101, 115, 32, 49, 48, 32, 59, 0, 0, 0, 0, 0, 0, 0, 0, 0, 0, 0, 0, 0, 0, 0, 0, 0, 0, 0, 0, 0, 0, 0, 0, 0, 0, 0, 0, 0, 0, 0, 0, 0, 0, 0, 0, 0, 0, 0, 0, 0, 0, 0, 0, 0, 0, 0, 0, 0, 0, 0, 0, 0, 0, 0, 0, 0, 0, 0, 0, 0, 0, 0, 0, 0, 0, 0, 0, 0, 0, 0, 0, 0, 0, 0, 0, 0, 0, 0, 0, 0, 0, 0, 0, 0, 0, 0, 0, 0, 0, 0, 0, 0, 0, 0, 0, 0, 0, 0, 0, 0, 0, 0, 0, 0, 0, 0, 0, 0, 0, 0, 0, 0, 0, 0, 0, 0, 0, 0, 0, 0, 0, 0] : List Int32).getD j 0 else if k = 9 then ([(-1), (-1), (-1), (-1)] : List Int32).getD j 0 else if k = 12 then ([103, 114, 111, 119, 115, 32, 52, 32, 43, 32, 111, 105, 108, 32, 59, 32, 116, 114, 105, 109, 115, 32, 50, 32, 59, 32, 115, 104, 97, 109, 101, 115, 32, 49, 48, 32, 59] : List Int32).getD j 0 else if k = 13 then ([103, 114, 111, 119, 115, 32, 32, 32, 116, 114, 105, 109, 115, 32, 32, 32, 115, 104, 97, 109, 101, 115, 32, 32, 98, 101, 97, 114, 100, 32, 32, 32, 111, 105, 108, 32, 32, 32, 32, 32, 109, 111, 114, 101, 32, 32, 32, 32, 119, 101, 101, 107, 32, 32, 32, 32, 111, 119, 101, 100, 32, 32, 32, 32, 114, 97, 110, 107, 32, 32, 32, 32, 111, 114, 32, 32, 32, 32, 32, 32, 97, 110, 100, 32, 32, 32, 32, 32, 110, 111, 116, 32, 32, 32, 32, 32] : List Int32).getD j 0 else if k = 0 then ([0, 0, 0, 0, 0, 0, 0, 0, 37, 0, 0, 0, 0, 0, 0, 0, 0, 0, 0, 0, 0, 0, 0, 0, 0, 0, 0, 0, 0, 0, 0, 0, 0, 0, 0, 0, 0, 0, 0, 0, 0, 0, 0, 0, 0, 0, 0, 0] : List Int32).getD j 0 else 0
def s0 : Mem := fun k j => if k = 1 then (if j = 1 then 1 else 0) else if k = 6 then (if j = 0 then 4 else if j = 1 then -2 else if j = 2 then -14 else if j = 4096 then 3 else 0) else if k = 7 then (if j = 0 then 2 else if j = 4096 then 1 else 0) else if k = 8 then (if j = 0 then 10 else if j = 4096 then 1 else 0) else if kd k = 10 then (if j = 5 then -1 else 0) else if kd k = 12 then (if j = 1 then -1 else 0) else 0
def r0 : Mem := rq5
def stB (t : Mem) : Bool := decide (t 0 0 = 0 ∧ t 0 4 = 0 ∧ t 0 6 = 0 ∧ t 0 12 = 0) && decide (t 0 13 = 0 ∧ t 0 8 = 0 ∧ t 0 11 = 1) && decide (t 7 0 = 0 ∧ t 7 1 = 3 ∧ t 7 2 = 4 ∧ t 7 3 = 5) && decide (t 6 0 = 100004 ∧ t 6 1 = 1 ∧ t 6 2 = 16 ∧ t 6 3 = 100002 ∧ t 6 4 = 100010) && (List.range 4).all (fun k => decide (t 9 k = -1 ∧ t 10 k = 0)) && (List.range 160).all (fun q => decide (t 11 q = 0)) && (List.range 96).all (fun q => decide (t 13 q = wtab q))
theorem st_chk : (match f_X9_text r0 with | some (_, t) => stB t | none => false) = true := by decide +kernel
theorem st_get : ∃ r t, f_X9_text r0 = some (r, t) ∧ stB t = true := by
  have h := st_chk
  generalize f_X9_text r0 = o at h ⊢
  match o, h with
  | some (r, t), h => exact ⟨r, t, rfl, h⟩
  | none, h => cases h
def Xst : XT := (fun _ q j => s0 (6 + q) j, fun _ q => if q = 0 then 3 else 1)
theorem st_wf : ∀ i, i < 1 → ∀ q, q < 3 → WFc (Xst.1 i q) (Xst.2 i q) := by
  intro i hi q hq
  have hi : i = 0 := by omega
  subst hi
  have hq : q = 0 ∨ q = 1 ∨ q = 2 := by omega
  rcases hq with rfl | rfl | rfl
  · refine ⟨by decide +kernel, by decide, fun k hk => ?_, fun k hk => ?_⟩
    · have hk : k ≤ 3 := hk
      have h : ∀ k, k < 4 → hg (Xst.1 0 0) k ≤ 64 := by decide +kernel
      exact h k (by omega)
    · have hk : k < 3 := hk
      have h : ∀ k, k < 3 → (¬ -10 < Xst.1 0 0 k → 1 ≤ hg (Xst.1 0 0) k) ∧ (¬ -10 < Xst.1 0 0 k → ¬ (Xst.1 0 0 k = -17 ∨ Xst.1 0 0 k = -18) → 2 ≤ hg (Xst.1 0 0) k) := by decide +kernel
      refine ⟨?_, (h k hk).1, (h k hk).2⟩
      have hk : k = 0 ∨ k = 1 ∨ k = 2 := by omega
      rcases hk with rfl | rfl | rfl
      · exact Or.inl ⟨4, by decide, by decide +kernel⟩
      · exact Or.inr (Or.inl ⟨2, by decide, by decide, by decide +kernel⟩)
      · exact Or.inr (Or.inr ⟨14, by decide, by decide, by decide +kernel⟩)
  · refine ⟨by decide +kernel, by decide, fun k hk => ?_, fun k hk => ?_⟩
    · have hk : k ≤ 1 := hk
      have h : ∀ k, k < 2 → hg (Xst.1 0 1) k ≤ 64 := by decide +kernel
      exact h k (by omega)
    · have hk : k < 1 := hk
      have h : ∀ k, k < 1 → (¬ -10 < Xst.1 0 1 k → 1 ≤ hg (Xst.1 0 1) k) ∧ (¬ -10 < Xst.1 0 1 k → ¬ (Xst.1 0 1 k = -17 ∨ Xst.1 0 1 k = -18) → 2 ≤ hg (Xst.1 0 1) k) := by decide +kernel
      refine ⟨?_, (h k hk).1, (h k hk).2⟩
      have hk : k = 0 := by omega
      subst hk
      exact Or.inl ⟨2, by decide, by decide +kernel⟩
  · refine ⟨by decide +kernel, by decide, fun k hk => ?_, fun k hk => ?_⟩
    · have hk : k ≤ 1 := hk
      have h : ∀ k, k < 2 → hg (Xst.1 0 2) k ≤ 64 := by decide +kernel
      exact h k (by omega)
    · have hk : k < 1 := hk
      have h : ∀ k, k < 1 → (¬ -10 < Xst.1 0 2 k → 1 ≤ hg (Xst.1 0 2) k) ∧ (¬ -10 < Xst.1 0 2 k → ¬ (Xst.1 0 2 k = -17 ∨ Xst.1 0 2 k = -18) → 2 ≤ hg (Xst.1 0 2) k) := by decide +kernel
      refine ⟨?_, (h k hk).1, (h k hk).2⟩
      have hk : k = 0 := by omega
      subst hk
      exact Or.inl ⟨10, by decide, by decide +kernel⟩
theorem st_RR {t : Mem} (h : stB t = true) : RR s0 t := by
  unfold stB at h
  simp only [Bool.and_eq_true, decide_eq_true_eq, List.all_eq_true, List.mem_range] at h
  obtain ⟨⟨⟨⟨⟨⟨⟨a1, a2, a3, a4⟩, b1, b2, b3⟩, c0, c1, c2, c3⟩, d0, d1, d2, d3, d4⟩, e⟩, f⟩, g⟩ := h
  have sh : ∀ k, k < 6 → s0 (15 + (3 + k)) 5 = ι 0 ∧ s0 (49 + (3 + k)) 5 = ι 0 := by decide +kernel
  refine ⟨0, 0, 0, 0, fun _ _ => 0, fun _ _ => 0, 1, Xst, ⟨by omega, by omega, by omega, by omega⟩, fun i hi => absurd hi (Nat.not_lt_zero i), ⟨fun i hi => absurd hi (Nat.not_lt_zero i), fun i hi => absurd hi (Nat.not_lt_zero i)⟩, ⟨Nat.le_refl 1, by omega, st_wf⟩, ⟨by decide +kernel, by decide +kernel, by decide +kernel, by decide +kernel, fun i hi => absurd hi (Nat.not_lt_zero i), fun i hi => absurd hi (Nat.not_lt_zero i)⟩, ?_, ?_, ⟨a1, a2, a3, a4, fun i hi => absurd hi (Nat.not_lt_zero i), fun i hi => absurd hi (Nat.not_lt_zero i)⟩, ?_, ?_, ?_, ?_, ?_⟩
  · intro i hi
    rw [Nat.add_assoc]
    exact Or.inl (sh i hi).1
  · intro i hi
    rw [Nat.add_assoc]
    exact Or.inl (sh i hi).2
  · refine ⟨by decide +kernel, fun i hi q hq => ?_⟩
    have hi : i = 0 := by omega
    subst hi
    have hq : q = 0 ∨ q = 1 ∨ q = 2 := by omega
    rcases hq with rfl | rfl | rfl
    · exact ⟨by decide +kernel, fun j _ => rfl⟩
    · exact ⟨by decide +kernel, fun j _ => rfl⟩
    · exact ⟨by decide +kernel, fun j _ => rfl⟩
  · refine ⟨b3, fun i hi q hq => ?_⟩
    have hi : i = 0 := by omega
    subst hi
    have hq : q = 0 ∨ q = 1 ∨ q = 2 := by omega
    rcases hq with rfl | rfl | rfl
    · refine ⟨0, by decide, c0, c1, fun j hj => ?_⟩
      have hj : j < 3 := hj
      have hj : j = 0 ∨ j = 1 ∨ j = 2 := by omega
      rcases hj with rfl | rfl | rfl
      · exact d0.trans (by decide +kernel)
      · exact d1.trans (by decide +kernel)
      · exact d2.trans (by decide +kernel)
    · refine ⟨3, by decide, c1, c2, fun j hj => ?_⟩
      have hj : j < 1 := hj
      have hj : j = 0 := by omega
      subst hj
      exact d3.trans (by decide +kernel)
    · refine ⟨4, by decide, c2, c3, fun j hj => ?_⟩
      have hj : j < 1 := hj
      have hj : j = 0 := by omega
      subst hj
      exact d4.trans (by decide +kernel)
  · exact Or.inl ⟨by decide +kernel, b1⟩
  · intro k hk
    have h1 : ∀ k, k < 4 → s0 (67 + 2 * k) 1 = pl 0 ∧ s0 (67 + 2 * k) 2 = ι 0 ∧ ∀ j, j < 40 → s0 (68 + 2 * k) j = 0 := by decide +kernel
    obtain ⟨g1, g2, g3⟩ := h1 k hk
    refine ⟨0, 0, by omega, by omega, g1, g2, (e k hk).1, (e k hk).2, fun j hj => ?_⟩
    rw [g3 j hj, f (40 * k + j) (by omega)]
  · exact ⟨0, by omega, by decide +kernel, b2, fun j hj => absurd hj (Nat.not_lt_zero j), g⟩
