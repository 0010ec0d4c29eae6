/-! THE PURE PART: film -/
theorem short_c {b : Nat} (h : b ≤ 999) : (ι b).toInt16.toInt32 = ι b := by
  have : ∀ b, b < 1000 → (ι b).toInt16.toInt32 = ι b := by decide +kernel
  exact this b (by omega)
theorem c_film_l {T s nn : Nat} {X : XT} (hO : OKX T X) {y w ow : Nat} {a : Nat → Nat} (hs : s < 4) (hnn : nn ≤ 40) (hy : y < T) (h1 : OK1 a) (hw : w < 10000) : ∀ d i n (σ : Mem), i + d = nn → d < n → CXT T X σ → MC1 75 (rowB a (bdN X y a w ow i)) σ → σ 15 5 = ι w → σ 15 6 = ι y → σ (67 + 2 * s) 1 = ι 1 → σ (67 + 2 * s) 2 = ι nn →
    ∃ σ', f_X8_film_b75 (ι nn) (67 + 2 * s) (ι ow) n σ (ι i) = some (ι nn, σ') ∧ (∀ j, j < 40 → σ' (68 + 2 * s) j = if i ≤ j ∧ j < nn then ι (bdN X y a w ow (j + 1)) else σ (68 + 2 * s) j) ∧ ∀ k j, k ≠ 3 → k ≠ 4 → k ≠ 75 → k ≠ 68 + 2 * s → σ' k j = σ k j := by
  intro d
  induction d with
  | zero =>
    intro i n σ hi hn hX hm e5 e6 x1 x2
    obtain ⟨n, rfl⟩ : ∃ k, n = k + 1 := ⟨n - 1, by omega⟩
    refine ⟨σ, ?_, fun j hj => by rw [if_neg (by omega)], fun _ _ _ _ _ _ => rfl⟩
    rw [f_X8_film_b75, if_pos (by rw [le_t (by omega) (by omega)]; trivial)]
  | succ d ih =>
    intro i n σ hi hn hX hm e5 e6 x1 x2
    obtain ⟨n, rfl⟩ : ∃ k, n = k + 1 := ⟨n - 1, by omega⟩
    obtain ⟨σ1, g1, g2, g3⟩ := c_ghost (w := w) (ow := ow) (n := i) hX hO hy hm h1 (by omega)
    have bl := bdN_le (X := X) (y := y) (w := w) (ow := ow) h1.2.2.1 (i + 1)
    let σ2 := ms (ms σ1 75 2 (ι (bdN X y a w ow (i + 1)))) (68 + 2 * s) i (ι (bdN X y a w ow (i + 1)))
    have f2 : ∀ k j, k ≠ 3 → k ≠ 4 → k ≠ 75 → ¬ (k = 68 + 2 * s ∧ j = i) → σ2 k j = σ k j := by
      intro k j c1 c2 c3 c4
      show ms (ms σ1 75 2 (ι (bdN X y a w ow (i + 1)))) (68 + 2 * s) i (ι (bdN X y a w ow (i + 1))) k j = σ k j
      rw [ms_off (by omega), g3 k j c1 c2 c3]
    have hput : f_X4_put (ms σ1 75 2 (ι (bdN X y a w ow (i + 1)))) (67 + 2 * s) (ι i) (ι (bdN X y a w ow (i + 1))) = some σ2 := by
      have q1 : ms σ1 75 2 (ι (bdN X y a w ow (i + 1))) (67 + 2 * s) 1 = ι 1 := by rw [g3 _ _ (by omega) (by omega) (by omega)]; exact x1
      have q2 : ms σ1 75 2 (ι (bdN X y a w ow (i + 1))) (67 + 2 * s) 2 = ι nn := by rw [g3 _ _ (by omega) (by omega) (by omega)]; exact x2
      unfold f_X4_put
      rw [q1, q2, L0, if_neg (by rw [lt_f (by omega) (by omega)]; exact id), if_neg (by rw [le_f (by omega) (by omega)]; exact id), L40, if_pos (by rw [lt_t (by omega) (by omega)]; trivial), if_neg (by decide), if_pos (show ι 1 = (1 : Int32) from rfl), if_pos (inb_t (by omega) (by omega)), od_e, ι_nat (by omega), short_c bl, show 67 + 2 * s + 1 = 68 + 2 * s by omega]
    obtain ⟨σ', b1, b2, b3⟩ := ih (i + 1) n σ2 (by omega) (by omega) (CXT_fr (fun k j h => f2 k j (by omega) (by omega) (by omega) (by omega)) hX) (MC1_fr g2 (fun j => ms_off (by omega))) (by rw [f2 _ _ (by omega) (by omega) (by omega) (by omega)]; exact e5) (by rw [f2 _ _ (by omega) (by omega) (by omega) (by omega)]; exact e6) (by rw [f2 _ _ (by omega) (by omega) (by omega) (by omega)]; exact x1) (by rw [f2 _ _ (by omega) (by omega) (by omega) (by omega)]; exact x2)
    refine ⟨σ', ?_, ?_, fun k j c1 c2 c3 c4 => by rw [b3 k j c1 c2 c3 c4, f2 k j c1 c2 c3 (by omega)]⟩
    · rw [f_X8_film_b75, if_neg (by rw [le_f (by omega) (by omega)]; exact id), e5, e6, ι_add, g1, ob2_s, ms_at rfl rfl, hput, ob_s, L1, ι_add]
      exact b1
    · intro j hj
      rw [b2 j hj]
      by_cases c : i ≤ j ∧ j < nn
      · rw [if_pos c]
        by_cases c2 : j = i
        · rw [if_neg (by omega)]
          show ms (ms σ1 75 2 (ι (bdN X y a w ow (i + 1)))) (68 + 2 * s) i (ι (bdN X y a w ow (i + 1))) (68 + 2 * s) j = _
          rw [ms_at rfl c2, c2]
        · rw [if_pos (by omega)]
      · rw [if_neg c, if_neg (by omega), f2 _ _ (by omega) (by omega) (by omega) (by omega)]
theorem r_film_l {T M V y w s nn i : Nat} {X : XT} {A B : TB2} (hOX : OKX T X) (hOA : OKA M A) (hOB : OKB M V B) (hM : M ≤ 6) (h8 : V ≤ 8) (hs : s < 4) (hnn : nn ≤ 40) (hy : y < T) (hi : i < M) (hw : w < 10000) : ∀ d k n (τ : Mem), k + d = 40 → d < n → FXT T X τ → FT M V (w + k) y (up A i 2 (bdN X y (A i) w (owedN V B i) k)) B τ →
    ∃ τ', f_X9_film_b57 (ι s) (ι i) (ι nn) n τ (ι k) = ob (f_X9_laysBack τ') (fun x => some (ι nn, x)) ∧ (∀ j, j < 40 → τ' 11 (40 * s + j) = if k ≤ j then (if j < nn then ι (bdN X y (A i) w (owedN V B i) (j + 1)) else ι 0) else τ 11 (40 * s + j)) ∧ (∀ k j, k ≠ 3 → k ≠ 4 → k ≠ 15 → k ≠ 16 → ¬ (k = 0 ∧ (j = 6 ∨ (34 ≤ j ∧ j ≤ 38))) → ¬ (k = 11 ∧ 40 * s ≤ j ∧ j < 40 * s + 40) → τ' k j = τ k j) := by
  intro d
  induction d with
  | zero =>
    intro k n τ hk hn hX hF
    obtain ⟨n, rfl⟩ : ∃ k, n = k + 1 := ⟨n - 1, by omega⟩
    refine ⟨τ, ?_, fun j hj => by rw [if_neg (by omega)], fun _ _ _ _ _ _ _ _ => rfl⟩
    rw [f_X9_film_b57, L40, if_pos (by rw [le_t (by omega) (by omega)]; trivial)]
  | succ d ih =>
    intro k n τ hk hn hX hF
    obtain ⟨n, rfl⟩ : ∃ k, n = k + 1 := ⟨n - 1, by omega⟩
    obtain ⟨τ1, g1, g2, g3, g4⟩ := r_ghost (w := w) (n := k) hX hOX hOA hOB hM h8 hy hi (by omega) hF
    have eb : ms τ1 0 6 (ι (w + k + 1)) 3 (4 * i) = ι (bdN X y (A i) w (owedN V B i) (k + 1)) := by
      have := fa_2 g3.2.2.2.2.1 hi
      rw [this, up_at rfl rfl]
    let τ2 := ms (ms τ1 0 6 (ι (w + k + 1))) 11 (40 * s + k) (if k < nn then ι (bdN X y (A i) w (owedN V B i) (k + 1)) else ι 0)
    have f2 : ∀ p j, p ≠ 11 → τ2 p j = ms τ1 0 6 (ι (w + k + 1)) p j := by
      intro p j c
      show ms (ms τ1 0 6 (ι (w + k + 1))) 11 (40 * s + k) (if k < nn then ι (bdN X y (A i) w (owedN V B i) (k + 1)) else ι 0) p j = _
      rw [ms_off (by omega)]
    have step : f_X9_film_b57 (ι s) (ι i) (ι nn) (n + 1) τ (ι k) = f_X9_film_b57 (ι s) (ι i) (ι nn) n τ2 (ι (k + 1)) := by
      show _ = f_X9_film_b57 (ι s) (ι i) (ι nn) n (ms (ms τ1 0 6 (ι (w + k + 1))) 11 (40 * s + k) (if k < nn then ι (bdN X y (A i) w (owedN V B i) (k + 1)) else ι 0)) (ι (k + 1))
      rw [f_X9_film_b57, L40, if_neg (by rw [le_f (by omega) (by omega)]; exact id), g1, ob_s]
      unfold f_X9_film_b108
      by_cases c : k < nn
      · rw [if_pos c]
        simp (disch := omega) only [g2, L1, L4, ι_mul, ι_add, le_f, if_false, inb_t, if_true, ι_nat, eb]
      · rw [if_neg c]
        simp (disch := omega) only [g2, L1, L0, ι_mul, ι_add, le_t, inb_t, if_true, ι_nat]
    obtain ⟨τ', b1, b2, b3⟩ := ih (k + 1) n τ2 (by omega) (by omega) (FXT_fr (fun p j h => by rw [f2 _ _ (by omega), g4 _ _ (by omega) (by omega) (by omega) (by omega) (by omega)]) hX) (FT_fr hM h8 (fun p j h => f2 p j (by omega)) g3)
    refine ⟨τ', by rw [step]; exact b1, ?_, ?_⟩
    · intro j hj
      rw [b2 j hj]
      by_cases c : k ≤ j
      · rw [if_pos c]
        by_cases c2 : j = k
        · rw [if_neg (by omega), c2]
          show ms (ms τ1 0 6 (ι (w + k + 1))) 11 (40 * s + k) (if k < nn then ι (bdN X y (A i) w (owedN V B i) (k + 1)) else ι 0) 11 (40 * s + k) = _
          rw [ms_at rfl rfl]
        · rw [if_pos (by omega)]
      · rw [if_neg c, if_neg (by omega)]
        show ms (ms τ1 0 6 (ι (w + k + 1))) 11 (40 * s + k) (if k < nn then ι (bdN X y (A i) w (owedN V B i) (k + 1)) else ι 0) 11 (40 * s + j) = _
        rw [ms_off (by omega), g4 _ _ (by omega) (by omega) (by omega) (by omega) (by omega)]
    · intro p j c1 c2 c3 c4 c5 c6
      rw [b3 p j c1 c2 c3 c4 c5 c6]
      show ms (ms τ1 0 6 (ι (w + k + 1))) 11 (40 * s + k) (if k < nn then ι (bdN X y (A i) w (owedN V B i) (k + 1)) else ι 0) p j = _
      rw [ms_off (by omega), g4 p j c1 c2 c3 c4 c5]
theorem op_film : OP_film RR := by
  intro σ τ v1 v2 v3 hR
  obtain ⟨M, V, w, y, A, B, T, X, h0, hA, hB, hOX, hC, hS, hS9, hF, hCX, hFX, hI, hSh, hD⟩ := id hR
  obtain ⟨hM, hV, hw, hy⟩ := id h0
  obtain ⟨hB, hBs⟩ := id hB
  obtain ⟨a1, a2, a3, a4, a5, a6⟩ := id hC
  obtain ⟨b1, b2, b3, b4, b5, b6⟩ := id hF
  have hT := hOX.2.1
  have c1 := hCX.1
  have f1 := hFX.1
  rcases argN 4 v1 with ⟨s, s1, s2, rfl⟩ | g1
  · rcases argN M v2 with ⟨i, i1, i2, rfl⟩ | g2
    · rcases argN 41 v3 with ⟨nn, n1, n2, rfl⟩ | g3
      · obtain ⟨σ1, m1, m2⟩ := c_makeRow (σ := σ) s1 (ι 1) (ι nn)
        have fr1 : ∀ k j, ¬ (67 ≤ k ∧ k < 75) → σ1 k j = σ k j := fun k j c => by rw [m2, if_neg (by omega), if_neg (by omega), if_neg (by omega)]
        have hC1 : CT 15 M V w y A B σ1 := CT_fr hM hV (fun k j h1 h2 h3 => fr1 k j (by omega)) hC
        obtain ⟨σ2, k1, k2, k3⟩ := c_become75 (show 15 + 3 + i ≠ 75 by omega) (MC_of hC1.2.2.2.2.1 i1) (OK1_of hA i1)
        have hC2 := CT_sc hM hV k3.sc hC1
        obtain ⟨c1', c2', c3', c4', c5', c6'⟩ := id hC2
        have ow := c_owed c2' hV c6' hB hM (show i < 100 by omega)
        obtain ⟨σ3, l1, l2, l3⟩ := c_film_l (s := s) (nn := nn) (w := w) (ow := owedN V B i) hOX s1 (by omega) hy (OK1_of hA i1) (by omega) nn 0 FU σ2 (by omega) (by unfold FU; omega) (CXT_sc k3.sc (CXT_fr (fun k j h => fr1 k j (by omega)) hCX)) (by rw [show bdN X y (A i) w (owedN V B i) 0 = A i 2 from rfl, rowB_self]; exact k2) c3' c4' (by rw [k3 _ _ (by omega) (by omega) (by omega), m2, if_neg (by omega), if_pos (by omega)]) (by rw [k3 _ _ (by omega) (by omega) (by omega), m2, if_neg (by omega), if_neg (by omega), if_pos (by omega)])
        let τ0 := ms (ms τ 9 s (ι 1)) 10 s (ι nn)
        have f0 : ∀ k j, k ≠ 9 → k ≠ 10 → τ0 k j = τ k j := by
          intro k j q1 q2
          show ms (ms τ 9 s (ι 1)) 10 s (ι nn) k j = τ k j
          rw [ms_off (by omega), ms_off (by omega)]
        have hF0 : FT M V w y A B τ0 := FT_fr hM hV (fun k j h => f0 k j (by omega) (by omega)) hF
        have hX0 : FXT T X τ0 := FXT_fr (fun k j h => f0 k j (by omega) (by omega)) hFX
        obtain ⟨τ1, t1, t2, t3, t4, t5, t6, t7⟩ := r_think hM hV hF0 hX0
        obtain ⟨τ2, u1, u2, u3⟩ := r_film_l (s := s) (nn := nn) (i := i) (w := w) hOX hA hB hM hV s1 (by omega) hy i1 (by omega) 40 0 FU τ1 (by omega) (by unfold FU; omega) t3 (by rw [show bdN X y (A i) w (owedN V B i) 0 = A i 2 from rfl, up_self]; exact t2.1)
        obtain ⟨τ3, w1, w2, w3, w4, w5⟩ := r_back (Q := fun k j => k = 11 ∧ 40 * s ≤ j ∧ j < 40 * s + 40) t4 t5 t6 t7 (fun k j h1 h2 h3 h4 h5 h6 => u3 k j h1 h2 h3 h4 h5 h6) (fun k j h => by omega)
        let ce : Nat → Int32 := fun j => if j < nn then ι (bdN X y (A i) w (owedN V B i) (j + 1)) else ι 0
        have cs : ∀ k j, k ≠ 3 → k ≠ 4 → k ≠ 75 → k ≠ 68 + 2 * s → k ≠ 67 + 2 * s → σ3 k j = σ k j := fun k j q1 q2 q3 q4 q5 => by rw [l3 k j q1 q2 q3 q4, k3 k j q1 q2 q3, m2, if_neg (by omega), if_neg (by omega), if_neg (by omega)]
        refine ⟨ι nn, σ3, τ3, ?_, ?_, RR_sh hR (fun k j q1 q2 => ?_) (fun k j q1 q2 => ?_) (SRel_at (s := s) (so := 2) (sz := nn) (ce := ce) hSh ⟨s1, by omega, by omega, ?_, ?_, ?_, ?_, ?_, ?_⟩ ?_ ?_ ?_)⟩
        · unfold f_X8_film
          rw [c_sheetAt s1, ob_s, onl_s, c_manAt a1 hM i1, ob_s, onl_s, L0, if_neg (by rw [lt_f (by omega) (by omega)]; exact id), L40, if_pos (by rw [le_t (by omega) (by omega)]; trivial), L1, m1, ob_s, k1, ob_s, ow, ob_s]
          exact l1
        · unfold f_X9_film
          rw [L0, L3, r_in (by omega) (by omega) (by omega), if_neg (by decide), r_isMan b1 hM i1, if_neg (by decide), L40, r_in (by omega) (by omega) (by omega), if_neg (by decide), if_pos (inb_t s1 s2), if_pos (inb_t s1 s2), od_e, ι_nat s2, L1]
          show ob (f_X9_keeps τ0) _ = _
          rw [t1, ob_s]
          refine Eq.trans u1 ?_
          rw [w1]
          rfl
        · unfold sC at q1
          exact cs k j (by omega) (by omega) (by omega) (by omega) (by omega)
        · rw [w2 k j q1 (by omega), f0 k j (by omega) (by omega)]
        · rw [l3 _ _ (by omega) (by omega) (by omega) (by omega), k3 _ _ (by omega) (by omega) (by omega), m2, if_neg (by omega), if_pos (by omega)]
          rfl
        · rw [l3 _ _ (by omega) (by omega) (by omega) (by omega), k3 _ _ (by omega) (by omega) (by omega), m2, if_neg (by omega), if_neg (by omega), if_pos (by omega)]
        · rw [w2 _ _ (by unfold sR; omega) (by omega)]
          show ms (ms τ 9 s (ι 1)) 10 s (ι nn) 9 s = _
          rw [ms_off (by omega), ms_at rfl rfl]
          rfl
        · rw [w2 _ _ (by unfold sR; omega) (by omega)]
          show ms (ms τ 9 s (ι 1)) 10 s (ι nn) 10 s = _
          rw [ms_at rfl rfl]
        · intro j hj
          rw [l2 j hj]
          by_cases c : j < nn
          · rw [if_pos (by omega)]
            exact (if_pos c).symm
          · rw [if_neg (by omega), k3 _ _ (by omega) (by omega) (by omega), m2, if_pos (by omega)]
            exact (if_neg c).symm
        · intro j hj
          have e11 : τ3 11 (40 * s + j) = τ2 11 (40 * s + j) := w5 _ _ (by omega) (by omega) (by omega) (by omega)
          rw [e11, u2 j hj, if_pos (by omega)]
        · intro k j q1 q2 q3 q4
          exact cs k j (by omega) (by omega) (by omega) q4 q3
        · intro k j q1 q2 q3
          rw [w2 _ _ (by unfold sR; omega) (by omega)]
          show ms (ms τ 9 s (ι 1)) 10 s (ι nn) k j = _
          rw [ms_off (by omega), ms_off (by omega)]
        · intro j q1
          rw [w2 _ _ (by unfold sR; omega) (by omega), f0 _ _ (by omega) (by omega)]
      · refine ⟨-ι 7, σ, τ, ?_, ?_, hR, rfl⟩
        · unfold f_X8_film
          rcases g3 with g | ⟨k, k1, k2, rfl⟩
          · rw [c_sheetAt s1, ob_s, onl_s, c_manAt a1 hM i1, ob_s, onl_s, L0, if_pos (by rw [ng_lt g (by omega)]; trivial)]
            rfl
          · rw [c_sheetAt s1, ob_s, onl_s, c_manAt a1 hM i1, ob_s, onl_s, L0, if_neg (by rw [lt_f (by omega) (by omega)]; exact id), L40, if_neg (by rw [le_f (by omega) (by omega)]; exact id)]
            rfl
        · unfold f_X9_film
          rw [L0, L3, r_in (by omega) (by omega) (by omega), if_neg (by decide), r_isMan b1 hM i1, if_neg (by decide), L40, outN_in (n := 40) (by omega) g3, if_pos rfl]
          rfl
    · refine ⟨-ι 5, σ, τ, ?_, ?_, hR, rfl⟩
      · unfold f_X8_film
        rw [c_sheetAt s1, ob_s, onl_s, c_manNo a1 hM g2]
        rfl
      · unfold f_X9_film
        rw [L0, L3, r_in (by omega) (by omega) (by omega), if_neg (by decide), r_isManNo b1 hM g2, if_pos rfl]
        rfl
  · refine ⟨-ι 2, σ, τ, ?_, ?_, hR, rfl⟩
    · unfold f_X8_film
      rw [c_sheetNo g1]
      rfl
    · unfold f_X9_film
      rw [L0, L3, outN_in (n := 3) (by omega) g1, if_pos rfl]
      rfl
