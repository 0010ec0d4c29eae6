/-! THE PURE PART: the operation text -/
def nthL : List Nat → Nat → Nat
  | [], _ => 0
  | x :: o, j => if j = o.length then x else nthL o j
theorem nthL_at {x : Nat} {o : List Nat} : nthL (x :: o) o.length = x := if_pos rfl
theorem nthL_lt {x j : Nat} {o : List Nat} (h : j < o.length) : nthL (x :: o) j = nthL o j := if_neg (by omega)
theorem LMq_nth {σ : Mem} {c q : Nat} {f : Nat → Int32} : ∀ o, LMq σ c f q o → ∀ j, j < o.length → σ c (q + j) = f (nthL o j)
  | [], _, j, hj => absurd hj (Nat.not_lt_zero j)
  | x :: o, ⟨h1, h2⟩, j, hj => by
    have hj : j < o.length + 1 := hj
    by_cases e : j = o.length
    · rw [e, nthL_at]; exact h1
    · rw [nthL_lt (by omega)]; exact LMq_nth o h2 j (by omega)
theorem wfL_hg : ∀ o, wfL o → hgL o ≤ 64
  | [], _ => by show 0 ≤ 64; omega
  | x :: o, ⟨h1, h2, h3, h4, h5⟩ => by
    have i := wfL_hg o h1
    by_cases c : x < 20007
    · rw [hgL_op c]; exact h3 c
    · by_cases u : x = 20017 ∨ x = 20018
      · rw [hgL_un u]; exact i
      · rw [hgL_bin (by omega)]; omega
theorem cc_m10 {x : Nat} (h : x ≤ 9999 ∨ (20001 ≤ x ∧ x ≤ 20006) ∨ (20010 ≤ x ∧ x ≤ 20018)) : (-10 < cc x) ↔ x < 20007 := by
  unfold cc
  rw [show (-10 : Int32) = -ι 10 from rfl]
  by_cases c : x < 20000
  · rw [if_pos c, nlt_t (by omega) (by omega) (by omega)]
    exact ⟨fun _ => by omega, fun _ => trivial⟩
  · rw [if_neg c]
    by_cases g : x < 20007
    · rw [nn_lt_t (by omega) (by omega)]
      exact ⟨fun _ => g, fun _ => trivial⟩
    · rw [nn_lt_f (by omega) (by omega)]
      exact ⟨fun h => h.elim, fun h => absurd h g⟩
theorem okc_cc {x : Nat} (h : x ≤ 9999 ∨ (20001 ≤ x ∧ x ≤ 20006) ∨ (20010 ≤ x ∧ x ≤ 20018)) : okc (cc x) := by
  unfold cc
  by_cases c : x < 20000
  · rw [if_pos c]
    exact Or.inl ⟨x, by omega, rfl⟩
  · rw [if_neg c]
    by_cases g : x < 20007
    · exact Or.inr (Or.inl ⟨x - 20000, by omega, by omega, rfl⟩)
    · exact Or.inr (Or.inr ⟨x - 20000, by omega, by omega, rfl⟩)
theorem WF_nth {c : Nat → Int32} : ∀ o, wfL o → (∀ j, j < o.length → c j = cc (nthL o j)) → hg c o.length = hgL o ∧ (∀ k, k ≤ o.length → hg c k ≤ 64) ∧ ∀ k, k < o.length → okc (c k) ∧ (¬ -10 < c k → 1 ≤ hg c k) ∧ (¬ -10 < c k → ¬ (c k = -17 ∨ c k = -18) → 2 ≤ hg c k)
  | [], _, _ => ⟨rfl, fun k hk => by
      have hk : k ≤ 0 := hk
      rw [show k = 0 by omega]
      show 0 ≤ 64
      omega, fun k hk => absurd hk (Nat.not_lt_zero k)⟩
  | x :: o, hw, hc => by
    obtain ⟨h1, h2, h3, h4, h5⟩ := id hw
    obtain ⟨i1, i2, i3⟩ := WF_nth (c := c) o h1 (fun j hj => by rw [hc j (by show j < o.length + 1; omega), nthL_lt hj])
    have ec : c o.length = cc x := by rw [hc o.length (by show o.length < o.length + 1; omega), nthL_at]
    have e10 := cc_m10 h2
    have e17 : (c o.length = -17 ∨ c o.length = -18) ↔ (x = 20017 ∨ x = 20018) := by
      rw [ec, show (-17 : Int32) = -ι 17 from rfl, show (-18 : Int32) = -ι 18 from rfl, cc_eq (by omega) (by omega) (by omega), cc_eq (by omega) (by omega) (by omega)]
    have eh : hg c (o.length + 1) = hgL (x :: o) := by
      show (if -10 < c o.length then hg c o.length + 1 else if c o.length = -17 ∨ c o.length = -18 then hg c o.length else hg c o.length - 1) = if x < 20007 then hgL o + 1 else if x = 20017 ∨ x = 20018 then hgL o else hgL o - 1
      rw [i1]
      by_cases a : x < 20007
      · rw [if_pos a, if_pos (show -10 < c o.length by rw [ec, e10]; exact a)]
      · rw [if_neg a, if_neg (show ¬ -10 < c o.length by rw [ec, e10]; exact a)]
        by_cases u : x = 20017 ∨ x = 20018
        · rw [if_pos u, if_pos (e17.mpr u)]
        · rw [if_neg u, if_neg (fun h => u (e17.mp h))]
    refine ⟨eh, fun k hk => ?_, fun k hk => ?_⟩
    · by_cases e : k = o.length + 1
      · rw [e, eh]; exact wfL_hg _ hw
      · have hk : k ≤ o.length + 1 := hk
        exact i2 k (by omega)
    · by_cases e : k = o.length
      · rw [e, e17, i1, ec, e10]
        exact ⟨okc_cc h2, h4, h5⟩
      · have hk : k < o.length + 1 := hk
        exact i3 k (by omega)
theorem WFc_nth {o : List Nat} (hw : wfL o) (h1 : hgL o = 1) (hl : o.length < 160) : WFc (fun j => cc (nthL o j)) o.length := by
  obtain ⟨a, b, c⟩ := WF_nth (c := fun j => cc (nthL o j)) o hw (fun _ _ => rfl)
  exact ⟨by rw [a]; exact h1, hl, b, c⟩
theorem RR_text {σ τ σ' τ' : Mem} {M V w y T T' : Nat} {A B : Nat → Nat → Nat} {X' : XT} (h0 : M ≤ 6 ∧ V ≤ 8 ∧ w ≤ 999 ∧ y < T) (hA : OKA M A) (hB : OKB2 M V B) (hOX : OKX T' X') (hC : CT 15 M V w y A B σ) (hS : SH 15 σ) (hS9 : SH 49 σ) (hF : FT M V w y A B τ) (hI : IRel M T σ τ) (hSh : SRel σ τ) (h13 : ∀ j, j < 96 → τ 13 j = wtab j) (hT : T ≤ T') (hCX : CXT T' X' σ') (hFX : FXT T' X' τ')
    (fc : ∀ a j, ¬ sC a j → a < 98 → ¬ (a = 9 ∧ j = 1) → ¬ (a = 1 ∧ j = 1) → σ' a j = σ a j) (fr : ∀ a j, ¬ sR a j → ¬ (a = 0 ∧ (j = 8 ∨ j = 11)) → a ≠ 6 → a ≠ 7 → τ' a j = τ a j) (h91 : σ' 9 1 = 0) (h08 : τ' 0 8 = 0) : RR σ' τ' := by
  refine ⟨M, V, w, y, A, B, T', X', ⟨h0.1, h0.2.1, h0.2.2.1, by omega⟩, hA, hB, hOX, ?_, ?_, ?_, ?_, hCX, hFX, ?_, ?_, ?_⟩
  · exact CT_fr h0.1 h0.2.1 (fun k j h1 h2 h3 => fc k j (by unfold sC; omega) (by omega) (by omega) (by omega)) hC
  · intro i hi
    rw [fc (15 + 3 + i) 5 (by unfold sC; omega) (by omega) (by omega) (by omega)]
    exact hS i hi
  · intro i hi
    rw [fc (49 + 3 + i) 5 (by unfold sC; omega) (by omega) (by omega) (by omega)]
    exact hS9 i hi
  · exact FT_fr h0.1 h0.2.1 (fun k j h1 => fr k j (by unfold sR; omega) (by omega) (by omega) (by omega)) hF
  · rcases hI with ⟨i1, i2⟩ | ⟨i1, i2, M1, V1, w1, y1, A1, B1, ⟨m1, m2, m3, m4⟩, o1, o2, c, f⟩
    · refine Or.inl ⟨?_, ?_⟩
      · rw [fc 0 5 (by unfold sC; omega) (by omega) (by omega) (by omega)]
        exact i1
      · rw [fr 0 13 (by unfold sR; omega) (by omega) (by omega) (by omega)]
        exact i2
    · refine Or.inr ⟨?_, ?_, M1, V1, w1, y1, A1, B1, ⟨by omega, m2, m3, by omega⟩, o1, o2, ?_, ?_⟩
      · rw [fc 0 5 (by unfold sC; omega) (by omega) (by omega) (by omega)]
        exact i1
      · rw [fr 0 13 (by unfold sR; omega) (by omega) (by omega) (by omega)]
        exact i2
      · exact CT_fr (by omega) m2 (fun k j h1 h2 h3 => fc k j (by unfold sC; omega) (by omega) (by omega) (by omega)) c
      · refine FT_fr (by omega) m2 (fun k j h => ?_) f
        unfold imgv
        by_cases k0 : k = 0
        · rw [if_pos k0, if_pos k0, fr 0 14 (by unfold sR; omega) (by omega) (by omega) (by omega), fr 0 15 (by unfold sR; omega) (by omega) (by omega) (by omega), fr 0 16 (by unfold sR; omega) (by omega) (by omega) (by omega), fr 0 17 (by unfold sR; omega) (by omega) (by omega) (by omega)]
        · rw [if_neg k0, if_neg k0]
          by_cases k3 : k = 3
          · rw [if_pos k3, if_pos k3, fr 8 j (by unfold sR; omega) (by omega) (by omega) (by omega)]
          · rw [if_neg k3, if_neg k3]
            by_cases k4 : k = 4
            · rw [if_pos k4, if_pos k4, fr 8 _ (by unfold sR; omega) (by omega) (by omega) (by omega)]
            · rw [if_neg k4, if_neg k4]
              exact fr k j (by unfold sR; omega) (by omega) (by omega) (by omega)
  · exact SRel_fr (fun k j h => fc k j (by unfold sC; omega) (by omega) (by omega) (by omega)) (fun k j h => fr k j (by unfold sR; omega) (by omega) (by omega) (by omega)) hSh
  · refine ⟨0, by omega, h91, h08, fun j hj => absurd hj (Nat.not_lt_zero j), fun j hj => ?_⟩
    rw [fr 13 j (by unfold sR; omega) (by omega) (by omega) (by omega)]
    exact h13 j hj
theorem tmem_0 {σ : Mem} {T a j : Nat} (ht : txn σ = T) (h1 : a ≠ 1) (h2 : a ≠ 98 + 4 * T + 1) (h3 : a ≠ 98 + 4 * T + 2) (h4 : a ≠ 98 + 4 * T + 3) : tmem σ a j = σ a j := by
  unfold tmem
  rw [ht, if_neg h1, if_neg h2, if_neg h3, if_neg h4]
theorem tmem_q {σ : Mem} {T q j : Nat} (ht : txn σ = T) (hq : q < 3) : tmem σ (98 + 4 * T + 1 + q) j = if j = 4096 then Int32.ofNat (codeN σ q) else σ 13 ((codeF σ q).toNatClampNeg + j) := by
  unfold tmem
  rw [ht]
  rcases (by omega : q = 0 ∨ q = 1 ∨ q = 2) with e | e | e
  · subst e
    rw [if_neg (by omega), if_pos (by omega)]
  · subst e
    rw [if_neg (by omega), if_neg (by omega), if_pos (by omega)]
  · subst e
    rw [if_neg (by omega), if_neg (by omega), if_neg (by omega), if_pos (by omega)]
theorem op_text : OP_text RR := by
  intro σ τ hR
  obtain ⟨M, V, w, y, A, B, T, X, h0, hA, hB, hOX, hC, hS, hS9, hF, hCX, hFX, hI, hSh, n, d1, d2, d3, d4, d5⟩ := id hR
  have hT1 := hOX.1
  have hT6 := hOX.2.1
  by_cases c6 : T = 6
  · refine ⟨-4, σ, τ, ?_, ?_, hR⟩
    · unfold f_X8_text
      rw [hCX.1, if_pos (show (6 : Int32) ≤ ι T by rw [show (6 : Int32) = ι 6 from rfl, le_t (by omega) (by omega)]; trivial)]
    · unfold f_X9_text
      rw [hFX.1, if_pos (show ι T = (6 : Int32) by rw [c6]; rfl)]
  · have hb : ∀ j, j < n → (fun j => (σ 10 j).toNatClampNeg) j ≤ 255 ∧ σ 10 j = ι ((fun j => (σ 10 j).toNatClampNeg) j) ∧ τ 5 j = ι ((fun j => (σ 10 j).toNatClampNeg) j) := by
      intro j hj
      obtain ⟨x, x1, x2, x3⟩ := d4 j hj
      have e : (σ 10 j).toNatClampNeg = x := by rw [x2, ι_nat (by omega)]
      show (σ 10 j).toNatClampNeg ≤ 255 ∧ σ 10 j = ι ((σ 10 j).toNatClampNeg) ∧ τ 5 j = ι ((σ 10 j).toNatClampNeg)
      rw [e]
      exact ⟨x1, x2, x3⟩
    generalize (fun j => (σ 10 j).toNatClampNeg) = b at hb
    obtain ⟨N, ⟨kf, σ1, τ1, r1, r2, r3, r4, r5⟩ | ⟨os, σ1, τ1, r1, r2, r3, r4, r5, r6, r7⟩⟩ := t_text (T := T) d1 (fun j hj => (hb j hj).1) ⟨d2, fun j hj => (hb j hj).2.1⟩ ⟨⟨d3, fun j hj => (hb j hj).2.2⟩, d5⟩ (by omega) hFX.1
    · have hp := pS_le (b := b) (n := n) kf
      have e11 : σ1 1 1 = σ 1 1 := r4 1 1 (by unfold sC; omega)
      refine ⟨-100 - ι (pS b n kf), ms σ1 9 1 0, ms τ1 0 8 0, ?_, r3, ?_⟩
      · unfold f_X8_text
        rw [if_neg (show ¬ (6 : Int32) ≤ σ 1 1 by rw [hCX.1, show (6 : Int32) = ι 6 from rfl, le_f (by omega) (by omega)]; exact id), r2]
        show (if σ1 1 1 = σ 1 1 then _ else _) = _
        rw [if_pos e11, if_pos (show (0 : Int32) ≤ ι (pS b n kf) by rw [L0, le_t (by omega) (by omega)]; trivial)]
      · refine RR_text h0 hA hB hOX hC hS hS9 hF hI hSh d5 (Nat.le_refl T) ?_ ?_ (fun a j a1 a2 a3 a4 => by rw [ms_off (by omega), r4 a j a1]) (fun a j a1 a2 a3 a4 => ?_) (ms_at rfl rfl) (ms_at rfl rfl)
        · exact CXT_fr (fun k j h => by rw [ms_off (by omega), r4 k j (by unfold sC; omega)]) hCX
        · obtain ⟨f1, f2⟩ := hFX
          refine ⟨by rw [ms_off (by omega), r5 0 11 (by omega) (by omega) (by omega) (by omega)]; exact f1, fun i hi q hq => ?_⟩
          obtain ⟨a, x1, x2, x3, x4⟩ := f2 i hi q hq
          refine ⟨a, x1, by rw [ms_off (by omega), r5 7 _ (by omega) (by omega) (by omega) (by omega)]; exact x2, by rw [ms_off (by omega), r5 7 _ (by omega) (by omega) (by omega) (by omega)]; exact x3, fun j hj => ?_⟩
          rw [ms_off (by omega), r5 6 _ (by omega) (by omega) (by omega) (by omega)]
          exact x4 j hj
        · unfold sR at a1
          rw [ms_off (by omega), r5 a j (by omega) (by omega) (by omega) (by omega)]
    · have e11 : σ1 1 1 = ι T := by rw [r3 1 1 (by unfold sC; omega)]; exact hCX.1
      have q3 := r7
      have hqs : ∀ q, q ≤ 3 → qsL os q ≤ qsL os 3 := fun q hq => qsL_le 3 hq
      have eF : ∀ q, q < 3 → codeF (ms σ1 9 1 0) q = ι (qsL os q) := by
        intro q hq
        unfold codeF
        by_cases e : q = 0
        · rw [if_pos e, e]; rfl
        · rw [if_neg e, ms_off (by omega), (r5 (q - 1) (by omega)).1, show q - 1 + 1 = q by omega]
      have eE : ∀ q, q < 3 → (ms σ1 9 1 0) 14 q = ι (qsL os (q + 1)) := fun q hq => by rw [ms_off (by omega)]; exact (r5 q hq).1
      have hOK : ∀ q, q < 3 → codeOK (ms σ1 9 1 0) q := by
        intro q hq
        have g1 := hqs q (by omega)
        have g2 := hqs (q + 1) (by omega)
        have g3 : qsL os (q + 1) = qsL os q + (os q).length := rfl
        unfold codeOK
        rw [eF q hq, eE q hq, L0, L160, le_t (by omega) (by omega), le_t (by omega) (by omega), le_t (by omega) (by omega), eq_f (show qsL os (q + 1) ≠ 160 by omega) (by omega) (by omega)]
        exact ⟨trivial, trivial, trivial, fun h => h.2⟩
      have eN : ∀ q, q < 3 → codeN (ms σ1 9 1 0) q = (os q).length := by
        intro q hq
        have g2 := hqs (q + 1) (by omega)
        have g3 : qsL os (q + 1) = qsL os q + (os q).length := rfl
        unfold codeN
        rw [eF q hq, eE q hq, ι_sub (by omega) (by omega), ι_nat (by omega), g3]
        omega
      have ht : txn (ms σ1 9 1 0) = T := by
        unfold txn
        rw [ms_off (by omega), e11, ι_nat (by omega)]
      have f11 : tmem (ms σ1 9 1 0) 1 1 = ι (T + 1) := by
        show (ms σ1 9 1 0) 1 1 + 1 = ι (T + 1)
        rw [ms_off (by omega), e11, L1, ι_add]
      refine ⟨ι T, tmem (ms σ1 9 1 0), ms (ms τ1 0 8 0) 0 11 (ι (T + 1)), ?_, r2, ?_⟩
      · unfold f_X8_text
        rw [if_neg (show ¬ (6 : Int32) ≤ σ 1 1 by rw [hCX.1, show (6 : Int32) = ι 6 from rfl, le_f (by omega) (by omega)]; exact id), r1]
        show (if σ1 1 1 = σ 1 1 then _ else _) = _
        rw [if_pos (show σ1 1 1 = σ 1 1 by rw [e11]; exact hCX.1.symm), if_neg (show ¬ (0 : Int32) ≤ -1 by decide), if_pos ⟨by rw [e11, L1, show (6 : Int32) = ι 6 from rfl, le_t (by omega) (by omega), lt_t (by omega) (by omega)]; exact ⟨trivial, trivial⟩, hOK 0 (by omega), hOK 1 (by omega), hOK 2 (by omega)⟩, e11]
      · have hX1 : ∀ i q, i < T → (fun i q => if i = T then (fun j => cc (nthL (os q) j)) else X.1 i q) i q = X.1 i q := fun i q h => if_neg (by omega)
        have hX2 : ∀ i q, i < T → (fun i q => if i = T then (os q).length else X.2 i q) i q = X.2 i q := fun i q h => if_neg (by omega)
        have hX3 : ∀ q, (fun i q => if i = T then (fun j => cc (nthL (os q) j)) else X.1 i q) T q = (fun j => cc (nthL (os q) j)) := fun q => if_pos rfl
        have hX4 : ∀ q, (fun i q => if i = T then (os q).length else X.2 i q) T q = (os q).length := fun q => if_pos rfl
        generalize (fun i q => if i = T then (fun j => cc (nthL (os q) j)) else X.1 i q) = X1 at hX1 hX3
        generalize (fun i q => if i = T then (os q).length else X.2 i q) = X2 at hX2 hX4
        have hlen : ∀ q, q < 3 → (os q).length < 160 := by
          intro q hq
          have g2 := hqs (q + 1) (by omega)
          have g3 : qsL os (q + 1) = qsL os q + (os q).length := rfl
          omega
        refine RR_text (X' := (X1, X2)) h0 hA hB ?_ hC hS hS9 hF hI hSh d5 (Nat.le_succ T) ?_ ?_ (fun a j a1 a2 a3 a4 => ?_) (fun a j a1 a2 a3 a4 => ?_) ?_ ?_
        · refine ⟨by omega, by omega, fun i hi q hq => ?_⟩
          show WFc (X1 i q) (X2 i q)
          by_cases e : i = T
          · rw [e, hX3, hX4]
            exact WFc_nth (r5 q hq).2.2.2.2.1 (r5 q hq).2.2.2.2.2 (hlen q hq)
          · rw [hX1 i q (by omega), hX2 i q (by omega)]
            exact hOX.2.2 i (by omega) q hq
        · refine ⟨f11, fun i hi q hq => ?_⟩
          show alen (tmem (ms σ1 9 1 0)) (tad i + 1 + q) = X2 i q ∧ ∀ j, j < X2 i q → tmem (ms σ1 9 1 0) (tad i + 1 + q) j = X1 i q j
          by_cases e : i = T
          · have et : tad T = 98 + 4 * T := by unfold tad; rw [if_neg (by omega)]
            have hl := hlen q hq
            rw [e, hX3, hX4, et]
            constructor
            · unfold alen
              rw [tmem_q ht hq, if_pos rfl, eN q hq]
              exact ι_nat (by omega)
            · intro j hj
              have g2 := hqs q (by omega)
              rw [tmem_q ht hq, if_neg (by omega), eF q hq, ι_nat (by omega), ms_off (by omega)]
              exact LMq_nth _ (r5 q hq).2.1 j hj
          · obtain ⟨x1, x2⟩ := hCX.2 i (by omega) q hq
            have hk : ∀ j, tmem (ms σ1 9 1 0) (tad i + 1 + q) j = σ (tad i + 1 + q) j := by
              intro j
              have et : tad i = 5 ∨ tad i = 98 + 4 * i := by
                unfold tad
                split
                · exact Or.inl rfl
                · exact Or.inr rfl
              rw [tmem_0 ht (by omega) (by omega) (by omega) (by omega), ms_off (by omega), r3 _ j (by unfold sC; omega)]
            rw [hX1 i q (by omega), hX2 i q (by omega)]
            refine ⟨?_, fun j hj => by rw [hk]; exact x2 j hj⟩
            unfold alen
            rw [hk]
            exact x1
        · refine ⟨ms_at rfl rfl, fun i hi q hq => ?_⟩
          show ∃ a, a + X2 i q ≤ 200 ∧ _ ∧ (ms (ms τ1 0 8 0) 0 11 (ι (T + 1))) 7 (4 * i + q + 1) = ι (a + X2 i q) ∧ ∀ j, j < X2 i q → (ms (ms τ1 0 8 0) 0 11 (ι (T + 1))) 6 (200 * i + (a + j)) = cm (X1 i q j)
          by_cases e : i = T
          · subst e
            have g2 := hqs (q + 1) (by omega)
            have g3 : qsL os (q + 1) = qsL os q + (os q).length := rfl
            rw [hX3, hX4]
            refine ⟨qsL os q, by omega, by rw [ms_off (by omega), ms_off (by omega)]; exact (r5 q hq).2.2.1, ?_, fun j hj => ?_⟩
            · rw [ms_off (by omega), ms_off (by omega), ← g3]
              by_cases e2 : q = 2
              · rw [e2]; exact r6
              · exact (r5 (q + 1) (by omega)).2.2.1
            · rw [ms_off (by omega), ms_off (by omega), show 200 * i + (qsL os q + j) = 200 * i + qsL os q + j by omega]
              exact LMq_nth _ (r5 q hq).2.2.2.1 j hj
          · obtain ⟨a, x1, x2, x3, x4⟩ := hFX.2 i (by omega) q hq
            rw [hX1 i q (by omega), hX2 i q (by omega)]
            refine ⟨a, x1, by rw [ms_off (by omega), ms_off (by omega), r4 7 _ (by omega) (by omega) (by omega) (by omega)]; exact x2, by rw [ms_off (by omega), ms_off (by omega), r4 7 _ (by omega) (by omega) (by omega) (by omega)]; exact x3, fun j hj => ?_⟩
            rw [ms_off (by omega), ms_off (by omega), r4 6 _ (by omega) (by omega) (by omega) (by omega)]
            exact x4 j hj
        · by_cases e : a = 1
          · subst e
            show (if j = 1 then (ms σ1 9 1 0) 1 1 + 1 else (ms σ1 9 1 0) 1 j) = σ 1 j
            rw [if_neg (by omega), ms_off (by omega), r3 1 j a1]
          · rw [tmem_0 ht e (by omega) (by omega) (by omega), ms_off (by omega), r3 a j a1]
        · unfold sR at a1
          rw [ms_off (by omega), ms_off (by omega), r4 a j (by omega) (by omega) (by omega) (by omega)]
        · rw [tmem_0 ht (by omega) (by omega) (by omega) (by omega)]
          exact ms_at rfl rfl
        · rw [ms_off (by omega)]
          exact ms_at rfl rfl
