/-! THE PURE PART: the class's reading, all of it -/
theorem b12_Term {t : Nat → Nat} {N v : Nat} {σ0 : Mem} {f : Mem → Int32 → Option (Int32 × Mem)} (hT : TTk t N σ0) :
    (∀ n σ i k, i < 160 → frWk σ0 σ → σ 9 5 = ι k → k ≤ N → 20016 ≤ t k → t k ≤ 20016 → f_X2_readTerm_b12 f (ι v) (n + 1) σ (ι i) = ob2 (f (ms σ 9 5 (ι (k + 1))) (ι v)) (fun r2 σ3 => if r2 = 0 then some ((0 : Int32), σ3) else ob (f_X2_emit σ3 (cc (t k))) (fun σ4 => f_X2_readTerm_b12 f (ι v) n σ4 (ι (i + 1))))) ∧
    (∀ n σ i k, i ≤ 160 → frWk σ0 σ → σ 9 5 = ι k → k ≤ N → ¬ (20016 ≤ t k ∧ t k ≤ 20016) → f_X2_readTerm_b12 f (ι v) (n + 1) σ (ι i) = some (1, σ)) := by
  constructor
  · intro n σ i k hi hf h5 hk w1 w2
    have e : ι i + 1 = ι (i + 1) := by rw [L1, ι_add]
    have e2 : cc (t k) = -ι 16 := by rw [cc_eq (by omega) (by omega) (by omega)]; omega
    rw [f_X2_readTerm_b12, if_neg (show ¬ (160 : Int32) ≤ ι i by rw [L160, le_f (by omega) (by omega)]; exact id), show (-16 : Int32) = -ι 16 from rfl, c_skip hT hf h5 hk (by omega) (by omega), if_pos (by omega), ob2_s, if_neg (show ¬ (1 : Int32) = 0 by decide), e2, ← e]
  · intro n σ i k hi hf h5 hk w
    rw [f_X2_readTerm_b12, show (-16 : Int32) = -ι 16 from rfl, c_skip hT hf h5 hk (by omega) (by omega), if_neg (show ¬ t k = 20000 + 16 by omega), ob2_s, if_pos rfl, ite_self]
theorem b12_And {t : Nat → Nat} {N v : Nat} {σ0 : Mem} {f : Mem → Int32 → Option (Int32 × Mem)} (hT : TTk t N σ0) :
    (∀ n σ i k, i < 160 → frWk σ0 σ → σ 9 5 = ι k → k ≤ N → 20011 ≤ t k → t k ≤ 20011 → f_X2_readAnd_b12 f (ι v) (n + 1) σ (ι i) = ob2 (f (ms σ 9 5 (ι (k + 1))) (ι v)) (fun r2 σ3 => if r2 = 0 then some ((0 : Int32), σ3) else ob (f_X2_emit σ3 (cc (t k))) (fun σ4 => f_X2_readAnd_b12 f (ι v) n σ4 (ι (i + 1))))) ∧
    (∀ n σ i k, i ≤ 160 → frWk σ0 σ → σ 9 5 = ι k → k ≤ N → ¬ (20011 ≤ t k ∧ t k ≤ 20011) → f_X2_readAnd_b12 f (ι v) (n + 1) σ (ι i) = some (1, σ)) := by
  constructor
  · intro n σ i k hi hf h5 hk w1 w2
    have e : ι i + 1 = ι (i + 1) := by rw [L1, ι_add]
    have e2 : cc (t k) = -ι 11 := by rw [cc_eq (by omega) (by omega) (by omega)]; omega
    rw [f_X2_readAnd_b12, if_neg (show ¬ (160 : Int32) ≤ ι i by rw [L160, le_f (by omega) (by omega)]; exact id), show (-11 : Int32) = -ι 11 from rfl, c_skip hT hf h5 hk (by omega) (by omega), if_pos (by omega), ob2_s, if_neg (show ¬ (1 : Int32) = 0 by decide), e2, ← e]
  · intro n σ i k hi hf h5 hk w
    rw [f_X2_readAnd_b12, show (-11 : Int32) = -ι 11 from rfl, c_skip hT hf h5 hk (by omega) (by omega), if_neg (show ¬ t k = 20000 + 11 by omega), ob2_s, if_pos rfl, ite_self]
theorem b12_Or {t : Nat → Nat} {N v : Nat} {σ0 : Mem} {f : Mem → Int32 → Option (Int32 × Mem)} (hT : TTk t N σ0) :
    (∀ n σ i k, i < 160 → frWk σ0 σ → σ 9 5 = ι k → k ≤ N → 20010 ≤ t k → t k ≤ 20010 → f_X2_readOr_b12 f (ι v) (n + 1) σ (ι i) = ob2 (f (ms σ 9 5 (ι (k + 1))) (ι v)) (fun r2 σ3 => if r2 = 0 then some ((0 : Int32), σ3) else ob (f_X2_emit σ3 (cc (t k))) (fun σ4 => f_X2_readOr_b12 f (ι v) n σ4 (ι (i + 1))))) ∧
    (∀ n σ i k, i ≤ 160 → frWk σ0 σ → σ 9 5 = ι k → k ≤ N → ¬ (20010 ≤ t k ∧ t k ≤ 20010) → f_X2_readOr_b12 f (ι v) (n + 1) σ (ι i) = some (1, σ)) := by
  constructor
  · intro n σ i k hi hf h5 hk w1 w2
    have e : ι i + 1 = ι (i + 1) := by rw [L1, ι_add]
    have e2 : cc (t k) = -ι 10 := by rw [cc_eq (by omega) (by omega) (by omega)]; omega
    rw [f_X2_readOr_b12, if_neg (show ¬ (160 : Int32) ≤ ι i by rw [L160, le_f (by omega) (by omega)]; exact id), show (-10 : Int32) = -ι 10 from rfl, c_skip hT hf h5 hk (by omega) (by omega), if_pos (by omega), ob2_s, if_neg (show ¬ (1 : Int32) = 0 by decide), e2, ← e]
  · intro n σ i k hi hf h5 hk w
    rw [f_X2_readOr_b12, show (-10 : Int32) = -ι 10 from rfl, c_skip hT hf h5 hk (by omega) (by omega), if_neg (show ¬ t k = 20000 + 10 by omega), ob2_s, if_pos rfl, ite_self]
theorem b12_Sum {t : Nat → Nat} {N v : Nat} {σ0 : Mem} {f : Mem → Int32 → Option (Int32 × Mem)} (hT : TTk t N σ0) :
    (∀ n σ i k, i < 160 → frWk σ0 σ → σ 9 5 = ι k → k ≤ N → 20014 ≤ t k → t k ≤ 20015 → f_X2_readSum_b12 f (ι v) (n + 1) σ (ι i) = ob2 (f (ms σ 9 5 (ι (k + 1))) (ι v)) (fun r2 σ3 => if r2 = 0 then some ((0 : Int32), σ3) else ob (f_X2_emit σ3 (cc (t k))) (fun σ4 => f_X2_readSum_b12 f (ι v) n σ4 (ι (i + 1))))) ∧
    (∀ n σ i k, i ≤ 160 → frWk σ0 σ → σ 9 5 = ι k → k ≤ N → ¬ (20014 ≤ t k ∧ t k ≤ 20015) → f_X2_readSum_b12 f (ι v) (n + 1) σ (ι i) = some (1, σ)) := by
  constructor
  · intro n σ i k hi hf h5 hk w1 w2
    have e : ι i + 1 = ι (i + 1) := by rw [L1, ι_add]
    have e3 : ι k + 1 = ι (k + 1) := by rw [L1, ι_add]
    rw [f_X2_readSum_b12, if_neg (show ¬ (160 : Int32) ≤ ι i by rw [L160, le_f (by omega) (by omega)]; exact id), c_cur hT hf h5 hk, ob_s]
    unfold f_X2_readSum_b38
    rw [h5, e, e3]
    by_cases c : t k = 20014
    · rw [if_pos (show cc (t k) = -14 by rw [c]; rfl)]
    · have c : t k = 20015 := by omega
      rw [if_neg (show ¬ cc (t k) = -14 by rw [c]; decide), if_pos (show cc (t k) = -15 by rw [c]; rfl)]
  · intro n σ i k hi hf h5 hk w
    have ht := TTk_ok hT hk
    have e1 : ¬ cc (t k) = -14 := by
      rw [show (-14 : Int32) = -ι 14 from rfl, cc_eq (by omega) (by omega) (by omega)]; omega
    have e2 : ¬ cc (t k) = -15 := by
      rw [show (-15 : Int32) = -ι 15 from rfl, cc_eq (by omega) (by omega) (by omega)]; omega
    rw [f_X2_readSum_b12, c_cur hT hf h5 hk, ob_s, if_neg e1, if_neg e2, ite_self]
abbrev mmA (t : Nat → Nat) : Bool → Nat → Prop := fun m k => m = false ∨ t k ≠ 20017
abbrev mmB : Bool → Nat → Prop := fun m _ => m = true
abbrev QT1 : Nat → List Nat → List Nat → Prop := fun _ _ _ => True
abbrev QT2 (t : Nat → Nat) : Nat → List Nat → List Nat → Prop := fun k S o => QT1 k S o ∧ ¬ (20016 ≤ t k ∧ t k ≤ 20016)
abbrev QT3 (t : Nat → Nat) : Nat → List Nat → List Nat → Prop := fun k S o => QT2 t k S o ∧ ¬ (20014 ≤ t k ∧ t k ≤ 20015)
abbrev QT4 (t : Nat → Nat) (F : Nat) : Nat → List Nat → List Nat → Prop := fun k S o => ¬ (20014 ≤ t k ∧ t k ≤ 20016) ∧ (20012 ≤ t k → t k ≤ 20013 → mM t F false false k S o = some (k, none))
abbrev QT5 (t : Nat → Nat) (F : Nat) : Nat → List Nat → List Nat → Prop := fun k S o => QT4 t F k S o ∧ ¬ (20011 ≤ t k ∧ t k ≤ 20011)
abbrev QT6 (t : Nat → Nat) (F : Nat) : Nat → List Nat → List Nat → Prop := fun k S o => QT5 t F k S o ∧ ¬ (20010 ≤ t k ∧ t k ≤ 20010)
theorem cl_term {t : Nat → Nat} {N q F v : Nat} {σ0 : Mem} {f : Mem → Int32 → Option (Int32 × Mem)} (hT : TTk t N σ0) (hF : 200 < F) (h : CLM t N q F σ0 f v 0 7 8 (mmA t) QT1) : CLM t N q F σ0 (f_X2_readTerm f) v 1 6 6 (mmA t) (QT2 t) :=
  lvl (lo := 20016) (hi := 20016) (L := f_X2_readTerm_b12 f (ι v)) hT hF (by omega) (by omega) (fun x h1 h2 => by rw [show x = 20016 by omega]; decide) (by omega) (by omega) (fun k h1 h2 => Or.inl (decide_eq_false (by omega))) (fun σ => rfl) (b12_Term hT).1 (b12_Term hT).2 h
theorem cl_sum {t : Nat → Nat} {N q F v : Nat} {σ0 : Mem} {f : Mem → Int32 → Option (Int32 × Mem)} (hT : TTk t N σ0) (hF : 200 < F) (h : CLM t N q F σ0 f v 1 6 6 (mmA t) (QT2 t)) : CLM t N q F σ0 (f_X2_readSum f) v 2 5 5 (mmA t) (QT3 t) :=
  lvl (lo := 20014) (hi := 20015) (L := f_X2_readSum_b12 f (ι v)) hT hF (by omega) (by omega) (fun x h1 h2 => by
    rcases (by omega : x = 20014 ∨ x = 20015) with e | e
    · rw [e]; decide
    · rw [e]; decide) (by omega) (by omega) (fun k h1 h2 => Or.inl (decide_eq_false (by omega))) (fun σ => rfl) (b12_Sum hT).1 (b12_Sum hT).2 h
theorem cl_and {t : Nat → Nat} {N q F v : Nat} {σ0 : Mem} {f : Mem → Int32 → Option (Int32 × Mem)} (hT : TTk t N σ0) (hF : 200 < F) (h : CLM t N q F σ0 f v 3 3 4 mmB (QT4 t F)) : CLM t N q F σ0 (f_X2_readAnd f) v 4 2 2 mmB (QT5 t F) :=
  lvl (lo := 20011) (hi := 20011) (L := f_X2_readAnd_b12 f (ι v)) hT hF (by omega) (by omega) (fun x h1 h2 => by rw [show x = 20011 by omega]; decide) (by omega) (by omega) (fun k h1 h2 => decide_eq_true (by omega)) (fun σ => rfl) (b12_And hT).1 (b12_And hT).2 h
theorem cl_or {t : Nat → Nat} {N q F v : Nat} {σ0 : Mem} {f : Mem → Int32 → Option (Int32 × Mem)} (hT : TTk t N σ0) (hF : 200 < F) (h : CLM t N q F σ0 f v 4 2 2 mmB (QT5 t F)) : CLM t N q F σ0 (f_X2_readOr f) v 5 1 1 mmB (QT6 t F) :=
  lvl (lo := 20010) (hi := 20010) (L := f_X2_readOr_b12 f (ι v)) hT hF (by omega) (by omega) (fun x h1 h2 => by rw [show x = 20010 by omega]; decide) (by omega) (by omega) (fun k h1 h2 => decide_eq_true (by omega)) (fun σ => rfl) (b12_Or hT).1 (b12_Or hT).2 h
theorem cc_m6 {t : Nat} (h : t ≤ 9999 ∨ (20001 ≤ t ∧ t ≤ 20041)) : (cc t < -6) ↔ 20007 ≤ t := by
  unfold cc
  rw [show (-6 : Int32) = -ι 6 from rfl]
  by_cases c : t < 20000
  · rw [if_pos c, nlt_f (by omega) (by omega)]
    exact ⟨fun h => h.elim, fun h => by omega⟩
  · rw [if_neg c]
    by_cases g : 20007 ≤ t
    · rw [nn_lt_t (by omega) (by omega)]
      exact ⟨fun _ => g, fun _ => trivial⟩
    · rw [nn_lt_f (by omega) (by omega)]
      exact ⟨fun h => h.elim, fun h => absurd h g⟩
theorem frWk_tr {σ0 σ σ' : Mem} (h : frWk σ0 σ) (h2 : ∀ a j, ¬ (a = 9 ∧ j = 7) → a ≠ 13 → σ' a j = σ a j) : frWk σ0 σ' := fun a j a1 a2 => by rw [h2 a j (by omega) a2, h a j a1 a2]
theorem cl_one {t : Nat → Nat} {N q F v : Nat} {σ0 : Mem} {rO rN : Mem → Int32 → Option (Int32 × Mem)} (hT : TTk t N σ0) (hF : 200 < F) (hv5 : v ≤ 5) (hO : v < 5 → CLM t N q F σ0 rO (v + 1) 5 1 1 mmB (QT6 t F)) (hN : v < 5 → CLM t N q F σ0 rN (v + 1) 0 7 8 (mmA t) QT1) : CLM t N q F σ0 (f_X2_readOne rO rN) v 0 7 8 (mmA t) QT1 := by
  intro m k S o σ hP hk hq hv hp hm hw hh
  have hN1 := hT.1
  have ht := TTk_ok hT hk
  have e5 : σ 9 5 + 1 = ι (k + 1) := by rw [hP.1, L1, ι_add]
  have ev : ι v + 1 = ι (v + 1) := by rw [L1, ι_add]
  unfold f_X2_readOne
  rw [c_cur hT (PCm_F hP) hP.1 hk, ob_s]
  have e6 := cc_m6 (t := t k) (by omega)
  by_cases c : t k < 20007
  · rw [if_neg (show ¬ cc (t k) < -6 by rw [e6]; omega)]
    obtain ⟨σ1, p1, p2⟩ := c_emit (t := t k) hP rfl (by omega)
    rw [p1, ob_s, show σ1 9 5 + 1 = ι (k + 1) by rw [p2.1, L1, ι_add]]
    refine ⟨_, Or.inr ⟨rfl, k + 1, t k :: o, (unw 7 S (t k :: o)).1, (unw 7 S (t k :: o)).2, Nat.le_refl _, by omega, PCm_at p2, ?_, ?_, unw_unw (Nat.le_refl _) _ _, trivial, ⟨hw, by omega, fun _ => by omega, fun h => absurd c h, fun h => absurd c h⟩, hgL_op c⟩⟩
    · show o.length + 1 + (k + 1) ≤ o.length + 1 + (k + 1)
      omega
    · rw [mMt (by omega), if_pos c]
  · rw [if_pos (show cc (t k) < -6 by rw [e6]; omega)]
    by_cases c15 : t k = 20015
    · rw [if_pos (show cc (t k) = -15 by rw [c15]; rfl)]
      unfold f_X2_readOne_b40
      have eM : mM t F true m k S o = if nopS S = 5 then some (k, none) else mM t F true false (k + 1) (18 :: S) o := by
        rw [mMt (by omega), if_neg c, if_neg (fun h => by omega), if_pos c15]
      rw [eM, hv]
      by_cases v5 : v < 5
      · rw [if_pos (show ι v < 5 by rw [show (5 : Int32) = ι 5 from rfl, lt_t v5 (by omega)]; trivial), if_neg (show ¬ cc (t k) = -30 by rw [c15]; decide), if_neg (show ¬ v = 5 by omega), e5, ev]
        obtain ⟨σ2, ⟨x1, k', y1, y2, y3, y4⟩ | ⟨x1, k', o', S', o2, z1, z2, z3, z4, z5, z6, z7, z8, z9⟩⟩ := hN v5 false (k + 1) (18 :: S) o (ms σ 9 5 (ι (k + 1))) (PCm_at hP) (by omega) (by omega) (by show nopS S + 1 = v + 1; omega) (by show 7 < 8; omega) (Or.inl rfl) hw (by omega)
        · obtain ⟨σ3, q1, q2⟩ := c_emit_any σ2 (-18)
          rw [x1, ob2_s, q1, ob_s, if_pos (Or.inl rfl)]
          exact ⟨σ3, Or.inl ⟨rfl, k', y1, by rw [q2 9 5 (by omega) (by omega)]; exact y2, frWk_tr y3 q2, y4⟩⟩
        · obtain ⟨σ3, q1, q2⟩ := c_emit (t := 20018) (x := -18) z3 rfl (by omega)
          rw [x1, ob2_s, q1, ob_s, if_pos (Or.inr rfl), z5]
          have z6 : unw 7 S' o2 = unw 7 (18 :: S) o' := z6
          refine ⟨σ3, Or.inr ⟨rfl, k', 20018 :: o', S', o2, by omega, z2, q2, ?_, rfl, ?_, trivial, ⟨z8, by omega, fun h => absurd h (by omega), fun _ => by omega, fun _ h => absurd (Or.inr rfl) h⟩, by rw [hgL_un (Or.inr rfl)]; exact z9⟩⟩
          · show o'.length + 1 + (k + 1) ≤ o.length + 1 + k'
            omega
          · rw [z6, unw_cons]
            rfl
      · rw [if_neg (show ¬ ι v < 5 by rw [show (5 : Int32) = ι 5 from rfl, lt_f (by omega) (by omega)]; exact id), if_pos (show v = 5 by omega)]
        exact ⟨σ, Or.inl ⟨rfl, k, hk, hP.1, PCm_F hP, rfl⟩⟩
    · rw [if_neg (show ¬ cc (t k) = -15 by rw [show (-15 : Int32) = -ι 15 from rfl, cc_eq (by omega) (by omega) (by omega)]; omega)]
      by_cases c30 : t k = 20030
      · rw [if_pos (show cc (t k) = -30 by rw [c30]; rfl)]
        unfold f_X2_readOne_b40
        have eM : mM t F true m k S o = if nopS S = 5 then some (k, none) else mM t F true true (k + 1) (0 :: S) o := by
          rw [mMt (by omega), if_neg c, if_neg (fun h => by omega), if_neg c15, if_pos c30]
        rw [eM, hv]
        by_cases v5 : v < 5
        · rw [if_pos (show ι v < 5 by rw [show (5 : Int32) = ι 5 from rfl, lt_t v5 (by omega)]; trivial), if_pos (show cc (t k) = -30 by rw [c30]; rfl), if_neg (show ¬ v = 5 by omega), e5, ev]
          obtain ⟨σ2, ⟨x1, k', y1, y2, y3, y4⟩ | ⟨x1, k', o', S', o2, z1, z2, z3, z4, z5, z6, z7, z8, z9⟩⟩ := hO v5 true (k + 1) (0 :: S) o (ms σ 9 5 (ι (k + 1))) (PCm_at hP) (by omega) (by omega) (by show nopS S + 1 = v + 1; omega) (by show 0 < 1; omega) rfl hw (by omega)
          · rw [x1, ob2_s, if_pos rfl]
            exact ⟨σ2, Or.inl ⟨rfl, k', y1, y2, y3, y4⟩⟩
          · have z6 : unw 1 S' o2 = (0 :: S, o') := z6
            have ht' := TTk_ok hT z2
            obtain ⟨⟨⟨q1, q2⟩, q3⟩, q4⟩ := z7
            rw [x1, ob2_s, if_neg (show ¬ (1 : Int32) = 0 by decide), z5, show (-31 : Int32) = -ι 31 from rfl, c_skip hT (PCm_F z3) z3.1 z2 (by omega) (by omega)]
            by_cases c31 : t k' = 20031
            · rw [if_pos (show t k' = 20000 + 31 from c31), ob2_s, if_neg (show ¬ (1 : Int32) = 0 by decide)]
              refine ⟨_, Or.inr ⟨rfl, k' + 1, o', (unw 7 S o').1, (unw 7 S o').2, by omega, by omega, PCm_at z3, by omega, ?_, unw_unw (Nat.le_refl _) _ _, trivial, z8, z9⟩⟩
              rw [mMf (by omega), if_neg (by omega), if_pos c31, z6, if_neg (by simp)]
              rfl
            · rw [if_neg (show ¬ t k' = 20000 + 31 from c31), ob2_s, if_pos rfl]
              refine ⟨σ2, Or.inl ⟨rfl, k', z2, z3.1, PCm_F z3, ?_⟩⟩
              by_cases c12 : 20012 ≤ t k' ∧ t k' ≤ 20013
              · exact q2 c12.1 c12.2
              · rw [mMf (by omega)]
                by_cases c32 : t k' = 20032
                · rw [if_pos c32, z6, if_neg (by simp)]
                · rw [if_neg c32, if_neg c31, if_neg (by omega)]
        · rw [if_neg (show ¬ ι v < 5 by rw [show (5 : Int32) = ι 5 from rfl, lt_f (by omega) (by omega)]; exact id), if_pos (show v = 5 by omega)]
          exact ⟨σ, Or.inl ⟨rfl, k, hk, hP.1, PCm_F hP, rfl⟩⟩
      · rw [if_neg (show ¬ cc (t k) = -30 by rw [show (-30 : Int32) = -ι 30 from rfl, cc_eq (by omega) (by omega) (by omega)]; omega)]
        refine ⟨σ, Or.inl ⟨rfl, k, hk, hP.1, PCm_F hP, ?_⟩⟩
        rw [mMt (by omega), if_neg c, if_neg (fun h => by
          rcases hm with a | a
          · rw [a] at h; cases h.2
          · exact a h.1), if_neg c15, if_neg c30]
theorem cl_not {t : Nat → Nat} {N q F v : Nat} {σ0 : Mem} {rN rS : Mem → Int32 → Option (Int32 × Mem)} (hT : TTk t N σ0) (hF : 200 < F) (hv5 : v ≤ 5) (hN : v < 5 → CLM t N q F σ0 rN (v + 1) 3 3 4 mmB (QT4 t F)) (hS : CLM t N q F σ0 rS v 2 5 5 (mmA t) (QT3 t)) : CLM t N q F σ0 (f_X2_readNot rN rS) v 3 3 4 mmB (QT4 t F) := by
  intro m k S o σ hP hk hq hv hp hm hw hh
  have hN1 := hT.1
  have ht := TTk_ok hT hk
  have hm : m = true := hm
  subst hm
  have e5 : σ 9 5 + 1 = ι (k + 1) := by rw [hP.1, L1, ι_add]
  have ev : ι v + 1 = ι (v + 1) := by rw [L1, ι_add]
  unfold f_X2_readNot
  rw [c_cur hT (PCm_F hP) hP.1 hk, ob_s]
  by_cases c : t k = 20017
  · have eM : mM t F true true k S o = if nopS S = 5 then some (k, none) else mM t F true true (k + 1) (17 :: S) o := by
      rw [mMt (by omega), if_neg (by omega), if_pos ⟨c, rfl⟩]
    rw [if_pos (show cc (t k) = -17 by rw [c]; rfl), eM, hv]
    by_cases v5 : v < 5
    · rw [if_pos (show ι v < 5 by rw [show (5 : Int32) = ι 5 from rfl, lt_t v5 (by omega)]; trivial), if_neg (show ¬ v = 5 by omega), e5, ev]
      obtain ⟨σ2, ⟨x1, k', y1, y2, y3, y4⟩ | ⟨x1, k', o', S', o2, z1, z2, z3, z4, z5, z6, z7, z8, z9⟩⟩ := hN v5 true (k + 1) (17 :: S) o (ms σ 9 5 (ι (k + 1))) (PCm_at hP) (by omega) (by omega) (by show nopS S + 1 = v + 1; omega) (by show 3 < 4; omega) rfl hw (by omega)
      · obtain ⟨σ3, q1, q2⟩ := c_emit_any σ2 (-17)
        rw [x1, ob2_s, q1, ob_s, if_pos (Or.inl rfl)]
        exact ⟨σ3, Or.inl ⟨rfl, k', y1, by rw [q2 9 5 (by omega) (by omega)]; exact y2, frWk_tr y3 q2, y4⟩⟩
      · obtain ⟨σ3, q1, q2⟩ := c_emit (t := 20017) (x := -17) z3 rfl (by omega)
        rw [x1, ob2_s, q1, ob_s, if_pos (Or.inr rfl), z5]
        have z6 : unw 3 S' o2 = unw 3 (17 :: S) o' := z6
        refine ⟨σ3, Or.inr ⟨rfl, k', 20017 :: o', S', o2, by omega, z2, q2, ?_, rfl, ?_, z7, ⟨z8, by omega, fun h => absurd h (by omega), fun _ => by omega, fun _ h => absurd (Or.inl rfl) h⟩, by rw [hgL_un (Or.inl rfl)]; exact z9⟩⟩
        · show o'.length + 1 + (k + 1) ≤ o.length + 1 + k'
          omega
        · rw [z6, unw_cons]
          rfl
    · rw [if_neg (show ¬ ι v < 5 by rw [show (5 : Int32) = ι 5 from rfl, lt_f (by omega) (by omega)]; exact id), if_pos (show v = 5 by omega)]
      exact ⟨σ, Or.inl ⟨rfl, k, hk, hP.1, PCm_F hP, rfl⟩⟩
  · rw [if_neg (show ¬ cc (t k) = -17 by rw [show (-17 : Int32) = -ι 17 from rfl, cc_eq (by omega) (by omega) (by omega)]; omega)]
    obtain ⟨σ2, ⟨x1, k', y1, y2, y3, y4⟩ | ⟨x1, k', o', S', o2, z1, z2, z3, z4, z5, z6, z7, z8, z9⟩⟩ := hS true k S o σ hP hk hq hv (by omega) (Or.inr c) hw (by omega)
    · rw [x1, ob2_s, if_pos rfl]
      exact ⟨σ2, Or.inl ⟨rfl, k', y1, y2, y3, y4⟩⟩
    · have z6 : unw 5 S' o2 = (S, o') := z6.trans (unw_stop (by omega))
      obtain ⟨⟨-, q1⟩, q2⟩ := z7
      have ht' := TTk_ok hT z2
      rw [x1, ob2_s, if_neg (show ¬ (1 : Int32) = 0 by decide), c_cur hT (PCm_F z3) z3.1 z2, ob_s, z5]
      by_cases c12 : t k' = 20012 ∨ t k' = 20013
      · have hne : rkS (t k' - 20000) = 4 ∧ urS (t k' - 20000) = 5 := by
          rcases c12 with e | e
          · rw [e]; decide
          · rw [e]; decide
        have htop : ¬ topR S = 4 := by omega
        have eM : mM t F false false k' S' o2 = mM t F true false (k' + 1) ((t k' - 20000) :: S) o' := by
          rw [mMf (by omega), if_neg (by omega), if_neg (by omega), if_pos (by omega), hne.2, z6, if_neg (fun h => htop h.2), decide_eq_false (by omega)]
        have hno : nopS ((t k' - 20000) :: S) = v := by
          show nopS S + (if t k' - 20000 = 0 ∨ t k' - 20000 = 17 ∨ t k' - 20000 = 18 then 1 else 0) = v
          rw [if_neg (by omega)]
          exact hv
        have e5' : σ2 9 5 + 1 = ι (k' + 1) := by rw [z3.1, L1, ι_add]
        have b71 : ENDs t N q F σ0 (mM t F false false k' S' o2) (k + 1) (o.length + 1) 3 (hgL o) (fun o' => unw 3 S o') (QT4 t F) (f_X2_readNot_b71 rN rS σ2 (ι v) (cc (t k'))) := by
          unfold f_X2_readNot_b71
          rw [e5', eM]
          obtain ⟨σ3, ⟨x1, k'', y1, y2, y3, y4⟩ | ⟨x1, k'', o'', S'', o3, w1, w2, w3, w4, w5, w6, w7, w8, w9⟩⟩ := hS false (k' + 1) ((t k' - 20000) :: S) o' (ms σ2 9 5 (ι (k' + 1))) (PCm_at z3) (by omega) (by omega) hno (by show rkS (t k' - 20000) < 5; omega) (Or.inl rfl) z8 (by omega)
          · obtain ⟨σ4, p1, p2⟩ := c_emit_any σ3 (cc (t k'))
            rw [x1, ob2_s, p1, ob_s, if_pos (Or.inl rfl)]
            exact ⟨σ4, Or.inl ⟨rfl, k'', y1, by rw [p2 9 5 (by omega) (by omega)]; exact y2, frWk_tr y3 p2, y4⟩⟩
          · obtain ⟨σ4, p1, p2⟩ := c_emit (t := t k') w3 rfl (by omega)
            rw [x1, ob2_s, p1, ob_s, if_pos (Or.inr rfl), w5]
            have w6 : unw 5 S'' o3 = ((t k' - 20000) :: S, o'') := w6.trans (unw_stop (by show rkS (t k' - 20000) < 5; omega))
            obtain ⟨⟨-, r1⟩, r2⟩ := w7
            refine ⟨σ4, Or.inr ⟨rfl, k'', t k' :: o'', S'', o3, by omega, w2, p2, ?_, rfl, ?_, ⟨by omega, fun h1 h2 => ?_⟩, ⟨w8, by omega, fun h => absurd h (by omega), fun _ => by omega, fun _ _ => by omega⟩, by rw [hgL_bin (by omega)]; omega⟩⟩
            · show o''.length + 1 + (k + 1) ≤ o.length + 1 + k''
              omega
            · have := unw_unw (show 3 ≤ 5 by omega) S'' o3
              rw [w6] at this
              rw [← this, unw_cons, if_pos (by omega), show 20000 + (t k' - 20000) = t k' by omega]
            · have hne2 : rkS (t k'' - 20000) = 4 ∧ urS (t k'' - 20000) = 5 := by
                rcases (by omega : t k'' = 20012 ∨ t k'' = 20013) with e | e
                · rw [e]; decide
                · rw [e]; decide
              rw [mMf (by omega), if_neg (by omega), if_neg (by omega), if_pos (by omega), hne2.2, w6, if_pos ⟨hne2.1, hne.1⟩]
        rcases c12 with e | e
        · rw [if_pos (show cc (t k') = -12 by rw [e]; rfl)]
          exact b71
        · rw [if_neg (show ¬ cc (t k') = -12 by rw [e]; decide), if_pos (show cc (t k') = -13 by rw [e]; rfl)]
          exact b71
      · rw [if_neg (show ¬ cc (t k') = -12 by rw [show (-12 : Int32) = -ι 12 from rfl, cc_eq (by omega) (by omega) (by omega)]; omega), if_neg (show ¬ cc (t k') = -13 by rw [show (-13 : Int32) = -ι 13 from rfl, cc_eq (by omega) (by omega) (by omega)]; omega)]
        refine ⟨σ2, Or.inr ⟨rfl, k', o', S', o2, z1, z2, z3, z4, rfl, ?_, ⟨by omega, fun h1 h2 => by omega⟩, z8, z9⟩⟩
        have := unw_unw (show 3 ≤ 5 by omega) S' o2
        rw [z6] at this
        exact this.symm
theorem cl_rec {t : Nat → Nat} {N q F : Nat} {σ0 : Mem} (hT : TTk t N σ0) (hF : 200 < F) : ∀ n v, v ≤ 5 → 6 ≤ n + v → CLM t N q F σ0 (f_X2_rec n 0) v 0 7 8 (mmA t) QT1 ∧ CLM t N q F σ0 (f_X2_rec n 1) v 3 3 4 mmB (QT4 t F) ∧ CLM t N q F σ0 (f_X2_rec n 2) v 5 1 1 mmB (QT6 t F)
  | 0, v, h1, h2 => absurd h2 (by omega)
  | n + 1, v, h1, h2 => by
    have I : v < 5 → _ := fun h => cl_rec (q := q) hT hF n (v + 1) (by omega) (by omega)
    have one := cl_one (q := q) hT hF h1 (fun h => (I h).2.2) (fun h => (I h).1)
    have not := cl_not hT hF h1 (fun h => (I h).2.1) (cl_sum hT hF (cl_term hT hF one))
    exact ⟨one, not, cl_or hT hF (cl_and hT hF not)⟩
