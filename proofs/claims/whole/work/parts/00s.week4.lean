theorem r_brk {M V m : Nat} (h8 : V ≤ 8) (hM : M ≤ 6) : ∀ d i n (B : TB2) (τ : Mem), i + d = V → d < n → τ 0 4 = ι V → FB V B τ → OKB M V B → m < 100 →
    ∃ τ', f_X9_shears_b91 (ι m) n τ (ι i) = some τ' ∧ FB V (brkD m d i B) τ' ∧ ∀ k j, k ≠ 4 → τ' k j = τ k j := by
  intro d
  induction d with
  | zero =>
    intro i n B τ hi hn hV hB hO hm
    obtain ⟨n, rfl⟩ : ∃ k, n = k + 1 := ⟨n - 1, by omega⟩
    refine ⟨τ, ?_, hB, fun _ _ _ => rfl⟩
    rw [f_X9_shears_b91]
    simp (disch := omega) only [hV, ↓reduceIte, eq_self, Bool.false_eq_true, reduceCtorEq, ob_s, ob2_s, od_e, onl_n, onl_s, ι_nat, ι_add, ι_mul, ι_sub, ι_addm, lt_t, lt_f, le_t, le_f, eq_t, eq_f, inb_t, inb_f, neq_f, neq_f2, neq_nf, nlt_t, nlt_f, nle_t, nle_f, ms_at, ms_off, up_at, up_off, L0, L1, L2, L3, L4, L5, L6, L7, L8, L9, L10, L11, L12, L13, L14, L15, L16, L17, L18, L19, L20, L21, L22, L23, L24, L30, L31, L32, L40, L41, L42, L43, L45, L47, L48, L52, L57, L59, L60, L61, L63, L64, L72, L97, L99, L100, L122, L160, L161, L200, L255, L999, L1200, L1998, L99999, L100000, L1000005]
  | succ d ih =>
    intro i n B τ hi hn hV hB hO hm
    obtain ⟨n, rfl⟩ : ∃ k, n = k + 1 := ⟨n - 1, by omega⟩
    have b := hO i (by omega)
    have st := r_stands h8 hB hO (show i < V by omega)
    by_cases h2 : B i 0 = m
    · by_cases h1 : B i 4 = 0
      · rw [if_pos h1] at st
        obtain ⟨τ', g1, g2, g3⟩ := ih (i + 1) n (up B i 4 2) (ms τ 4 (6 * i + 5) (ι 2)) (by omega) (by omega) (by rw [ms_off (by omega)]; exact hV) (FB_st hB) (OKB_st hO (by decide) (by decide)) hm
        refine ⟨τ', ?_, ?_, ?_⟩
        · rw [f_X9_shears_b91]
          simp (disch := omega) only [hV, fb_0 hB, st, f_X9_shears_b132, h2, ↓reduceIte, eq_self, Bool.false_eq_true, reduceCtorEq, ob_s, ob2_s, od_e, onl_n, onl_s, ι_nat, ι_add, ι_mul, ι_sub, ι_addm, lt_t, lt_f, le_t, le_f, eq_t, eq_f, inb_t, inb_f, neq_f, neq_f2, neq_nf, nlt_t, nlt_f, nle_t, nle_f, ms_at, ms_off, up_at, up_off, L0, L1, L2, L3, L4, L5, L6, L7, L8, L9, L10, L11, L12, L13, L14, L15, L16, L17, L18, L19, L20, L21, L22, L23, L24, L30, L31, L32, L40, L41, L42, L43, L45, L47, L48, L52, L57, L59, L60, L61, L63, L64, L72, L97, L99, L100, L122, L160, L161, L200, L255, L999, L1200, L1998, L99999, L100000, L1000005]
          exact g1
        · show FB V (brkD m d (i + 1) (if B i 4 = 0 ∧ B i 0 = m then up B i 4 2 else B)) τ'
          rw [if_pos ⟨h1, h2⟩]
          exact g2
        · intro k j h
          rw [g3 k j h, ms_off (by omega)]
      · rw [if_neg h1] at st
        obtain ⟨τ', g1, g2, g3⟩ := ih (i + 1) n B τ (by omega) (by omega) hV hB hO hm
        refine ⟨τ', ?_, ?_, g3⟩
        · rw [f_X9_shears_b91]
          simp (disch := omega) only [hV, fb_0 hB, st, f_X9_shears_b132, h2, ↓reduceIte, eq_self, Bool.false_eq_true, reduceCtorEq, ob_s, ob2_s, od_e, onl_n, onl_s, ι_nat, ι_add, ι_mul, ι_sub, ι_addm, lt_t, lt_f, le_t, le_f, eq_t, eq_f, inb_t, inb_f, neq_f, neq_f2, neq_nf, nlt_t, nlt_f, nle_t, nle_f, ms_at, ms_off, up_at, up_off, L0, L1, L2, L3, L4, L5, L6, L7, L8, L9, L10, L11, L12, L13, L14, L15, L16, L17, L18, L19, L20, L21, L22, L23, L24, L30, L31, L32, L40, L41, L42, L43, L45, L47, L48, L52, L57, L59, L60, L61, L63, L64, L72, L97, L99, L100, L122, L160, L161, L200, L255, L999, L1200, L1998, L99999, L100000, L1000005]
          exact g1
        · show FB V (brkD m d (i + 1) (if B i 4 = 0 ∧ B i 0 = m then up B i 4 2 else B)) τ'
          rw [if_neg (fun h => h1 h.1)]
          exact g2
    · obtain ⟨τ', g1, g2, g3⟩ := ih (i + 1) n B τ (by omega) (by omega) hV hB hO hm
      refine ⟨τ', ?_, ?_, g3⟩
      · rw [f_X9_shears_b91]
        simp (disch := omega) only [hV, fb_0 hB, st, f_X9_shears_b132, ↓reduceIte, eq_self, Bool.false_eq_true, reduceCtorEq, ob_s, ob2_s, od_e, onl_n, onl_s, ι_nat, ι_add, ι_mul, ι_sub, ι_addm, lt_t, lt_f, le_t, le_f, eq_t, eq_f, inb_t, inb_f, neq_f, neq_f2, neq_nf, nlt_t, nlt_f, nle_t, nle_f, ms_at, ms_off, up_at, up_off, L0, L1, L2, L3, L4, L5, L6, L7, L8, L9, L10, L11, L12, L13, L14, L15, L16, L17, L18, L19, L20, L21, L22, L23, L24, L30, L31, L32, L40, L41, L42, L43, L45, L47, L48, L52, L57, L59, L60, L61, L63, L64, L72, L97, L99, L100, L122, L160, L161, L200, L255, L999, L1200, L1998, L99999, L100000, L1000005]
        exact g1
      · show FB V (brkD m d (i + 1) (if B i 4 = 0 ∧ B i 0 = m then up B i 4 2 else B)) τ'
        rw [if_neg (fun h => h2 h.2)]
        exact g2
theorem r_shear {M V w y T m nth N : Nat} {X : XT} {s : DS} {τ : Mem} (hM : M ≤ 6) (h8 : V ≤ 8) (hy : y < T) (hX : FXT T X τ) (hOX : OKX T X) (hN : N < 100000) (hs : FD M V w y s τ) (hO : OKD M V N s) (hm : m < M) (hnt : nth < 100000) :
    ∃ τ', f_X9_shears τ (ι m) (ι nth) = some τ' ∧ FD M V w y (shrD X y V w nth m s) τ' ∧ frF τ τ' := by
  obtain ⟨⟨a1, a2, a3, a4, a5, a6⟩, k0, k1, k2, k3, k4⟩ := hs
  obtain ⟨h1, h2, h3, h4, h5⟩ := hO
  obtain ⟨τ1, g1, g2⟩ := r_asks hX hOX a2 a4 a5 a6 h2 hM h8 (q := 2) (w := w) hy (by decide) hm
  let sh := sayN X y 2 (s.1 m 2) (s.1 m 3) (s.1 m 1) w (owedN V s.2.1 m) (s.1 m 4)
  let fw := if s.2.2 0 = 0 then nth + 1 else s.2.2 2
  let ff := if s.2.2 0 = 0 then m + 1 else s.2.2 1
  let τ2 := ms (ms (ms (ms (ms (ms τ1 0 38 (ι (s.2.2 4 + sh))) 0 34 (ι (s.2.2 0 + 1))) 0 36 (pl fw)) 0 35 (pl ff)) 3 (4 * m) (ι 0)) 3 (4 * m + 3) (ι 1)
  have e2 : ∀ k j, k ≠ 15 → k ≠ 16 → ¬ (k = 0 ∧ 34 ≤ j ∧ j ≤ 38) → k ≠ 3 → τ2 k j = τ k j := by
    intro k j q1 q2 q3 q4
    show ms (ms (ms (ms (ms (ms τ1 0 38 (ι (s.2.2 4 + sh))) 0 34 (ι (s.2.2 0 + 1))) 0 36 (pl fw)) 0 35 (pl ff)) 3 (4 * m) (ι 0)) 3 (4 * m + 3) (ι 1) k j = τ k j
    rw [ms_off (by omega), ms_off (by omega), ms_off (by omega), ms_off (by omega), ms_off (by omega), ms_off (by omega), g2 k j q1 q2]
  obtain ⟨τ3, b1, b2, b3⟩ := r_brk h8 hM V 0 FU s.2.1 τ2 (by omega) (by unfold FU; omega) (by rw [e2 _ _ (by omega) (by omega) (by omega) (by omega)]; exact a2) (FB_fr a6 (fun j => e2 _ _ (by omega) (by omega) (by omega) (by omega))) h2 (show m < 100 by omega)
  have n35 : τ1 0 35 = pl (s.2.2 1) := by rw [g2 _ _ (by omega) (by omega)]; exact k1
  have n36 : τ1 0 36 = pl (s.2.2 2) := by rw [g2 _ _ (by omega) (by omega)]; exact k2
  have n34 : τ1 0 34 = ι (s.2.2 0) := by rw [g2 _ _ (by omega) (by omega)]; exact k0
  have b1 : f_X9_shears_b91 (ι m) FU (ms (ms (ms (ms (ms (ms τ1 0 38 (ι (s.2.2 4 + sh))) 0 34 (ι (s.2.2 0 + 1))) 0 36 (pl fw)) 0 35 (pl ff)) 3 (4 * m) (ι 0)) 3 (4 * m + 3) (ι 1)) (ι 0) = some τ3 := b1
  have hrun : f_X9_shears τ (ι m) (ι nth) = some τ3 := by
    unfold f_X9_shears f_X9_shears_b46 f_X9_shears_b66
    by_cases hz : s.2.2 0 = 0
    · have h51 : s.2.2 1 = 0 := h4.1 hz
      have ef : pl fw = ι nth := by show pl (if s.2.2 0 = 0 then nth + 1 else s.2.2 2) = _; rw [if_pos hz, pl_s (by omega), Nat.add_sub_cancel]
      have eff : pl ff = ι m := by show pl (if s.2.2 0 = 0 then m + 1 else s.2.2 1) = _; rw [if_pos hz, pl_s (by omega), Nat.add_sub_cancel]
      rw [ef, eff] at b1
      simp (disch := omega) only [a3, g1, k4, n34, n35, pl_0 h51, ↓reduceIte, eq_self, Bool.false_eq_true, reduceCtorEq, ob_s, ob2_s, od_e, onl_n, onl_s, ι_nat, ι_add, ι_mul, ι_sub, ι_addm, lt_t, lt_f, le_t, le_f, eq_t, eq_f, inb_t, inb_f, neq_f, neq_f2, neq_nf, nlt_t, nlt_f, nle_t, nle_f, ms_at, ms_off, up_at, up_off, L0, L1, L2, L3, L4, L5, L6, L7, L8, L9, L10, L11, L12, L13, L14, L15, L16, L17, L18, L19, L20, L21, L22, L23, L24, L30, L31, L32, L40, L41, L42, L43, L45, L47, L48, L52, L57, L59, L60, L61, L63, L64, L72, L97, L99, L100, L122, L160, L161, L200, L255, L999, L1200, L1998, L99999, L100000, L1000005]
      exact b1
    · have h51 : s.2.2 1 ≠ 0 := fun h => hz (h4.2 h)
      have ef : pl fw = pl (s.2.2 2) := by show pl (if s.2.2 0 = 0 then nth + 1 else s.2.2 2) = _; rw [if_neg hz]
      have eff : pl ff = ι (s.2.2 1 - 1) := by show pl (if s.2.2 0 = 0 then m + 1 else s.2.2 1) = _; rw [if_neg hz, pl_s (by omega)]
      rw [ef, eff] at b1
      simp (disch := omega) only [a3, g1, k4, n34, n35, n36, pl_s (show 0 < s.2.2 1 by omega), ↓reduceIte, eq_self, Bool.false_eq_true, reduceCtorEq, ob_s, ob2_s, od_e, onl_n, onl_s, ι_nat, ι_add, ι_mul, ι_sub, ι_addm, lt_t, lt_f, le_t, le_f, eq_t, eq_f, inb_t, inb_f, neq_f, neq_f2, neq_nf, nlt_t, nlt_f, nle_t, nle_f, ms_at, ms_off, up_at, up_off, L0, L1, L2, L3, L4, L5, L6, L7, L8, L9, L10, L11, L12, L13, L14, L15, L16, L17, L18, L19, L20, L21, L22, L23, L24, L30, L31, L32, L40, L41, L42, L43, L45, L47, L48, L52, L57, L59, L60, L61, L63, L64, L72, L97, L99, L100, L122, L160, L161, L200, L255, L999, L1200, L1998, L99999, L100000, L1000005]
      exact b1
  have e3 : ∀ k j, k ≠ 15 → k ≠ 16 → ¬ (k = 0 ∧ 34 ≤ j ∧ j ≤ 38) → k ≠ 3 → k ≠ 4 → τ3 k j = τ k j := fun k j q1 q2 q3 q4 q5 => (b3 k j q5).trans (e2 k j q1 q2 q3 q4)
  refine ⟨τ3, hrun, ⟨⟨?_, ?_, ?_, ?_, ?_, b2⟩, ?_, ?_, ?_, ?_, ?_⟩, ?_⟩
  · rw [e3 _ _ (by omega) (by omega) (by omega) (by omega) (by omega)]; exact a1
  · rw [e3 _ _ (by omega) (by omega) (by omega) (by omega) (by omega)]; exact a2
  · rw [e3 _ _ (by omega) (by omega) (by omega) (by omega) (by omega)]; exact a3
  · rw [e3 _ _ (by omega) (by omega) (by omega) (by omega) (by omega)]; exact a4
  · refine FA_fr (τ := τ2) ?_ (fun k j q1 q2 => b3 _ _ (by omega))
    have h0 : FA M s.1 (ms (ms (ms (ms τ1 0 38 (ι (s.2.2 4 + sh))) 0 34 (ι (s.2.2 0 + 1))) 0 36 (pl fw)) 0 35 (pl ff)) := FA_fr a5 (fun k j q1 q2 => by rw [ms_off (by omega), ms_off (by omega), ms_off (by omega), ms_off (by omega), g2 _ _ (by omega) (by omega)])
    have h1 := FA_up (i := m) (j := 3) (x := 1) (FA_up (i := m) (j := 0) (x := 0) h0 (by decide)) (by decide)
    show FA M (up (up s.1 m 5 1) m 2 0) τ2
    have ee : up (up s.1 m 5 1) m 2 0 = up (up s.1 m 2 0) m 5 1 := by
      funext a j
      unfold up
      by_cases q1 : a = m ∧ j = 2
      · rw [if_pos q1, if_neg (by omega), if_pos q1]
      · rw [if_neg q1]
        by_cases q2 : a = m ∧ j = 5
        · rw [if_pos q2, if_pos q2]
        · rw [if_neg q2, if_neg q2, if_neg q1]
    rw [ee]
    exact h1
  · rw [b3 _ _ (by omega)]
    show ms (ms (ms (ms (ms (ms τ1 0 38 (ι (s.2.2 4 + sh))) 0 34 (ι (s.2.2 0 + 1))) 0 36 (pl fw)) 0 35 (pl ff)) 3 (4 * m) (ι 0)) 3 (4 * m + 3) (ι 1) 0 34 = _
    rw [ms_off (by omega), ms_off (by omega), ms_off (by omega), ms_off (by omega), ms_at rfl rfl]
    rfl
  · rw [b3 _ _ (by omega)]
    show ms (ms (ms (ms (ms (ms τ1 0 38 (ι (s.2.2 4 + sh))) 0 34 (ι (s.2.2 0 + 1))) 0 36 (pl fw)) 0 35 (pl ff)) 3 (4 * m) (ι 0)) 3 (4 * m + 3) (ι 1) 0 35 = _
    rw [ms_off (by omega), ms_off (by omega), ms_at rfl rfl]
    rfl
  · rw [b3 _ _ (by omega)]
    show ms (ms (ms (ms (ms (ms τ1 0 38 (ι (s.2.2 4 + sh))) 0 34 (ι (s.2.2 0 + 1))) 0 36 (pl fw)) 0 35 (pl ff)) 3 (4 * m) (ι 0)) 3 (4 * m + 3) (ι 1) 0 36 = _
    rw [ms_off (by omega), ms_off (by omega), ms_off (by omega), ms_at rfl rfl]
    rfl
  · rw [b3 _ _ (by omega)]
    show ms (ms (ms (ms (ms (ms τ1 0 38 (ι (s.2.2 4 + sh))) 0 34 (ι (s.2.2 0 + 1))) 0 36 (pl fw)) 0 35 (pl ff)) 3 (4 * m) (ι 0)) 3 (4 * m + 3) (ι 1) 0 37 = _
    rw [ms_off (by omega), ms_off (by omega), ms_off (by omega), ms_off (by omega), ms_off (by omega), ms_off (by omega), g2 _ _ (by omega) (by omega)]
    exact k3
  · rw [b3 _ _ (by omega)]
    show ms (ms (ms (ms (ms (ms τ1 0 38 (ι (s.2.2 4 + sh))) 0 34 (ι (s.2.2 0 + 1))) 0 36 (pl fw)) 0 35 (pl ff)) 3 (4 * m) (ι 0)) 3 (4 * m + 3) (ι 1) 0 38 = _
    rw [ms_off (by omega), ms_off (by omega), ms_off (by omega), ms_off (by omega), ms_off (by omega), ms_at rfl rfl]
    rfl
  · intro k j q1 q2 q3 q4 q5
    exact e3 k j q3 q4 (by omega) q1 q2
theorem r_pay {M V w y T v N : Nat} {X : XT} {s : DS} {τ : Mem} (hM : M ≤ 6) (h8 : V ≤ 8) (hy : y < T) (hX : FXT T X τ) (hOX : OKX T X) (hw : w < 100000) (hs : FD M V w y s τ) (hO : OKD M V N s) (hv : v < V) {nth : Nat} (hnt : nth < 100000) (hN : N < 100000) :
    ∃ τ', f_X9_isDue τ (ι v) (ι nth) = some τ' ∧ FD M V w y (dueD X y V w nth v s) τ' ∧ frF τ τ' := by
  obtain ⟨⟨a1, a2, a3, a4, a5, a6⟩, k0, k1, k2, k3, k4⟩ := id hs
  obtain ⟨h1, h2, h3, h4⟩ := id hO
  obtain ⟨o0, o1, o2, o3, o4, o5, o6, o7⟩ := h2 v hv
  obtain ⟨p0, p1, p2, p3, p4, p5⟩ := h1 _ o0
  obtain ⟨e0, e1, e2, e3, e4, e5⟩ := a6 v hv
  obtain ⟨m0, m1, m2, m3, m4, m5⟩ := a5 _ o0
  have cc := r_counts (b := s.1 (s.2.1 v 0) 2) m0 m1 (show s.2.1 v 0 < 6 by omega) p0 p1 p2
  have cl := cntN_le (kd := s.1 (s.2.1 v 0) 0) (m := s.1 (s.2.1 v 0) 1) p2
  unfold dueD
  by_cases hc : s.2.1 v 2 ≤ cntA (s.1 (s.2.1 v 0))
  · rw [if_pos hc]
    unfold cntA at hc
    obtain ⟨τ1, g1, g2⟩ := r_asks hX hOX a2 a4 a5 a6 h2 hM h8 (q := 1) (w := w) hy (by decide) o0
    have sl := sayN_le X y 1 (s.1 (s.2.1 v 0) 2) (s.1 (s.2.1 v 0) 3) (s.1 (s.2.1 v 0) 1) w (owedN V s.2.1 (s.2.1 v 0)) (s.1 (s.2.1 v 0) 4)
    have n37 : τ1 0 37 = ι (s.2.2 3) := by rw [g2 _ _ (by omega) (by omega)]; exact k3
    let nb := s.1 (s.2.1 v 0) 2 - (s.2.1 v 2 + sayN X y 1 (s.1 (s.2.1 v 0) 2) (s.1 (s.2.1 v 0) 3) (s.1 (s.2.1 v 0) 1) w (owedN V s.2.1 (s.2.1 v 0)) (s.1 (s.2.1 v 0) 4))
    refine ⟨ms (ms (ms τ1 3 (4 * s.2.1 v 0) (ι nb)) 4 (6 * v + 5) (ι 1)) 0 37 (ι (s.2.2 3 + s.2.1 v 2)), ?_, ⟨⟨?_, ?_, ?_, ?_, ?_, ?_⟩, ?_, ?_, ?_, ?_, ?_⟩, ?_⟩
    · unfold f_X9_isDue f_X9_isDue_b83
      by_cases c : s.2.1 v 2 + sayN X y 1 (s.1 (s.2.1 v 0) 2) (s.1 (s.2.1 v 0) 3) (s.1 (s.2.1 v 0) 1) w (owedN V s.2.1 (s.2.1 v 0)) (s.1 (s.2.1 v 0) 4) ≤ s.1 (s.2.1 v 0) 2
      · have eb : s.1 (s.2.1 v 0) 2 - s.2.1 v 2 - sayN X y 1 (s.1 (s.2.1 v 0) 2) (s.1 (s.2.1 v 0) 3) (s.1 (s.2.1 v 0) 1) w (owedN V s.2.1 (s.2.1 v 0)) (s.1 (s.2.1 v 0) 4) = nb := Nat.sub_sub _ _ _
        simp (disch := omega) only [e0, e2, m2, cc, a3, g1, n37, ↓reduceIte, eq_self, Bool.false_eq_true, reduceCtorEq, ob_s, ob2_s, od_e, onl_n, onl_s, ι_nat, ι_add, ι_mul, ι_sub, ι_addm, lt_t, lt_f, le_t, le_f, eq_t, eq_f, inb_t, inb_f, neq_f, neq_f2, neq_nf, nlt_t, nlt_f, nle_t, nle_f, ms_at, ms_off, up_at, up_off, L0, L1, L2, L3, L4, L5, L6, L7, L8, L9, L10, L11, L12, L13, L14, L15, L16, L17, L18, L19, L20, L21, L22, L23, L24, L30, L31, L32, L40, L41, L42, L43, L45, L47, L48, L52, L57, L59, L60, L61, L63, L64, L72, L97, L99, L100, L122, L160, L161, L200, L255, L999, L1200, L1998, L99999, L100000, L1000005]
        rw [eb]
      · have eb : nb = 0 := Nat.sub_eq_zero_of_le (by omega)
        by_cases c2 : s.2.1 v 2 ≤ s.1 (s.2.1 v 0) 2
        · simp (disch := omega) only [e0, e2, m2, cc, a3, g1, n37, nsub, nle_f, ↓reduceIte, eq_self, Bool.false_eq_true, reduceCtorEq, ob_s, ob2_s, od_e, onl_n, onl_s, ι_nat, ι_add, ι_mul, ι_sub, ι_addm, lt_t, lt_f, le_t, le_f, eq_t, eq_f, inb_t, inb_f, neq_f, neq_f2, neq_nf, nlt_t, nlt_f, nle_t, nle_f, ms_at, ms_off, up_at, up_off, L0, L1, L2, L3, L4, L5, L6, L7, L8, L9, L10, L11, L12, L13, L14, L15, L16, L17, L18, L19, L20, L21, L22, L23, L24, L30, L31, L32, L40, L41, L42, L43, L45, L47, L48, L52, L57, L59, L60, L61, L63, L64, L72, L97, L99, L100, L122, L160, L161, L200, L255, L999, L1200, L1998, L99999, L100000, L1000005]
          rw [eb]
        · have e9 : -ι (s.2.1 v 2 - s.1 (s.2.1 v 0) 2) - ι (sayN X y 1 (s.1 (s.2.1 v 0) 2) (s.1 (s.2.1 v 0) 3) (s.1 (s.2.1 v 0) 1) w (owedN V s.2.1 (s.2.1 v 0)) (s.1 (s.2.1 v 0) 4)) = -ι (s.2.1 v 2 - s.1 (s.2.1 v 0) 2 + sayN X y 1 (s.1 (s.2.1 v 0) 2) (s.1 (s.2.1 v 0) 3) (s.1 (s.2.1 v 0) 1) w (owedN V s.2.1 (s.2.1 v 0)) (s.1 (s.2.1 v 0) 4)) := by
            refine Int32.toInt_inj.mp ?_
            rw [Int32.toInt_sub, neg_int (by omega), ι_int (by omega), neg_int (by omega), Int.bmod_def]
            split <;> omega
          simp (disch := omega) only [e0, e2, m2, cc, a3, g1, n37, nsub, e9, ↓reduceIte, eq_self, Bool.false_eq_true, reduceCtorEq, ob_s, ob2_s, od_e, onl_n, onl_s, ι_nat, ι_add, ι_mul, ι_sub, ι_addm, lt_t, lt_f, le_t, le_f, eq_t, eq_f, inb_t, inb_f, neq_f, neq_f2, neq_nf, nlt_t, nlt_f, nle_t, nle_f, ms_at, ms_off, up_at, up_off, L0, L1, L2, L3, L4, L5, L6, L7, L8, L9, L10, L11, L12, L13, L14, L15, L16, L17, L18, L19, L20, L21, L22, L23, L24, L30, L31, L32, L40, L41, L42, L43, L45, L47, L48, L52, L57, L59, L60, L61, L63, L64, L72, L97, L99, L100, L122, L160, L161, L200, L255, L999, L1200, L1998, L99999, L100000, L1000005]
          rw [eb]
    · simp (disch := omega) only [g2, ↓reduceIte, eq_self, Bool.false_eq_true, reduceCtorEq, ob_s, ob2_s, od_e, onl_n, onl_s, ι_nat, ι_add, ι_mul, ι_sub, ι_addm, lt_t, lt_f, le_t, le_f, eq_t, eq_f, inb_t, inb_f, neq_f, neq_f2, neq_nf, nlt_t, nlt_f, nle_t, nle_f, ms_at, ms_off, up_at, up_off, L0, L1, L2, L3, L4, L5, L6, L7, L8, L9, L10, L11, L12, L13, L14, L15, L16, L17, L18, L19, L20, L21, L22, L23, L24, L30, L31, L32, L40, L41, L42, L43, L45, L47, L48, L52, L57, L59, L60, L61, L63, L64, L72, L97, L99, L100, L122, L160, L161, L200, L255, L999, L1200, L1998, L99999, L100000, L1000005]
      exact a1
    · simp (disch := omega) only [g2, ↓reduceIte, eq_self, Bool.false_eq_true, reduceCtorEq, ob_s, ob2_s, od_e, onl_n, onl_s, ι_nat, ι_add, ι_mul, ι_sub, ι_addm, lt_t, lt_f, le_t, le_f, eq_t, eq_f, inb_t, inb_f, neq_f, neq_f2, neq_nf, nlt_t, nlt_f, nle_t, nle_f, ms_at, ms_off, up_at, up_off, L0, L1, L2, L3, L4, L5, L6, L7, L8, L9, L10, L11, L12, L13, L14, L15, L16, L17, L18, L19, L20, L21, L22, L23, L24, L30, L31, L32, L40, L41, L42, L43, L45, L47, L48, L52, L57, L59, L60, L61, L63, L64, L72, L97, L99, L100, L122, L160, L161, L200, L255, L999, L1200, L1998, L99999, L100000, L1000005]
      exact a2
    · simp (disch := omega) only [g2, ↓reduceIte, eq_self, Bool.false_eq_true, reduceCtorEq, ob_s, ob2_s, od_e, onl_n, onl_s, ι_nat, ι_add, ι_mul, ι_sub, ι_addm, lt_t, lt_f, le_t, le_f, eq_t, eq_f, inb_t, inb_f, neq_f, neq_f2, neq_nf, nlt_t, nlt_f, nle_t, nle_f, ms_at, ms_off, up_at, up_off, L0, L1, L2, L3, L4, L5, L6, L7, L8, L9, L10, L11, L12, L13, L14, L15, L16, L17, L18, L19, L20, L21, L22, L23, L24, L30, L31, L32, L40, L41, L42, L43, L45, L47, L48, L52, L57, L59, L60, L61, L63, L64, L72, L97, L99, L100, L122, L160, L161, L200, L255, L999, L1200, L1998, L99999, L100000, L1000005]
      exact a3
    · simp (disch := omega) only [g2, ↓reduceIte, eq_self, Bool.false_eq_true, reduceCtorEq, ob_s, ob2_s, od_e, onl_n, onl_s, ι_nat, ι_add, ι_mul, ι_sub, ι_addm, lt_t, lt_f, le_t, le_f, eq_t, eq_f, inb_t, inb_f, neq_f, neq_f2, neq_nf, nlt_t, nlt_f, nle_t, nle_f, ms_at, ms_off, up_at, up_off, L0, L1, L2, L3, L4, L5, L6, L7, L8, L9, L10, L11, L12, L13, L14, L15, L16, L17, L18, L19, L20, L21, L22, L23, L24, L30, L31, L32, L40, L41, L42, L43, L45, L47, L48, L52, L57, L59, L60, L61, L63, L64, L72, L97, L99, L100, L122, L160, L161, L200, L255, L999, L1200, L1998, L99999, L100000, L1000005]
      exact a4
    · refine FA_fr (FA_up (i := s.2.1 v 0) (j := 0) (x := nb) (FA_fr a5 (fun k j q1 q2 => g2 _ _ (by omega) (by omega))) (by decide)) (fun k j q1 q2 => ?_)
      rw [ms_off (by omega), ms_off (by omega)]
      rfl
    · refine FB_fr (FB_st (v := v) (x := 1) (FB_fr (τ' := ms τ1 3 (4 * s.2.1 v 0) (ι nb)) a6 (fun j => ?_))) (fun j => ?_)
      · rw [ms_off (by omega), g2 _ _ (by omega) (by omega)]
      · rw [ms_off (by omega)]
    · simp (disch := omega) only [g2, ↓reduceIte, eq_self, Bool.false_eq_true, reduceCtorEq, ob_s, ob2_s, od_e, onl_n, onl_s, ι_nat, ι_add, ι_mul, ι_sub, ι_addm, lt_t, lt_f, le_t, le_f, eq_t, eq_f, inb_t, inb_f, neq_f, neq_f2, neq_nf, nlt_t, nlt_f, nle_t, nle_f, ms_at, ms_off, up_at, up_off, L0, L1, L2, L3, L4, L5, L6, L7, L8, L9, L10, L11, L12, L13, L14, L15, L16, L17, L18, L19, L20, L21, L22, L23, L24, L30, L31, L32, L40, L41, L42, L43, L45, L47, L48, L52, L57, L59, L60, L61, L63, L64, L72, L97, L99, L100, L122, L160, L161, L200, L255, L999, L1200, L1998, L99999, L100000, L1000005]
      exact k0
    · simp (disch := omega) only [g2, ↓reduceIte, eq_self, Bool.false_eq_true, reduceCtorEq, ob_s, ob2_s, od_e, onl_n, onl_s, ι_nat, ι_add, ι_mul, ι_sub, ι_addm, lt_t, lt_f, le_t, le_f, eq_t, eq_f, inb_t, inb_f, neq_f, neq_f2, neq_nf, nlt_t, nlt_f, nle_t, nle_f, ms_at, ms_off, up_at, up_off, L0, L1, L2, L3, L4, L5, L6, L7, L8, L9, L10, L11, L12, L13, L14, L15, L16, L17, L18, L19, L20, L21, L22, L23, L24, L30, L31, L32, L40, L41, L42, L43, L45, L47, L48, L52, L57, L59, L60, L61, L63, L64, L72, L97, L99, L100, L122, L160, L161, L200, L255, L999, L1200, L1998, L99999, L100000, L1000005]
      exact k1
    · simp (disch := omega) only [g2, ↓reduceIte, eq_self, Bool.false_eq_true, reduceCtorEq, ob_s, ob2_s, od_e, onl_n, onl_s, ι_nat, ι_add, ι_mul, ι_sub, ι_addm, lt_t, lt_f, le_t, le_f, eq_t, eq_f, inb_t, inb_f, neq_f, neq_f2, neq_nf, nlt_t, nlt_f, nle_t, nle_f, ms_at, ms_off, up_at, up_off, L0, L1, L2, L3, L4, L5, L6, L7, L8, L9, L10, L11, L12, L13, L14, L15, L16, L17, L18, L19, L20, L21, L22, L23, L24, L30, L31, L32, L40, L41, L42, L43, L45, L47, L48, L52, L57, L59, L60, L61, L63, L64, L72, L97, L99, L100, L122, L160, L161, L200, L255, L999, L1200, L1998, L99999, L100000, L1000005]
      exact k2
    · simp (disch := omega) only [↓reduceIte, eq_self, Bool.false_eq_true, reduceCtorEq, ob_s, ob2_s, od_e, onl_n, onl_s, ι_nat, ι_add, ι_mul, ι_sub, ι_addm, lt_t, lt_f, le_t, le_f, eq_t, eq_f, inb_t, inb_f, neq_f, neq_f2, neq_nf, nlt_t, nlt_f, nle_t, nle_f, ms_at, ms_off, up_at, up_off, L0, L1, L2, L3, L4, L5, L6, L7, L8, L9, L10, L11, L12, L13, L14, L15, L16, L17, L18, L19, L20, L21, L22, L23, L24, L30, L31, L32, L40, L41, L42, L43, L45, L47, L48, L52, L57, L59, L60, L61, L63, L64, L72, L97, L99, L100, L122, L160, L161, L200, L255, L999, L1200, L1998, L99999, L100000, L1000005]
      rfl
    · simp (disch := omega) only [g2, ↓reduceIte, eq_self, Bool.false_eq_true, reduceCtorEq, ob_s, ob2_s, od_e, onl_n, onl_s, ι_nat, ι_add, ι_mul, ι_sub, ι_addm, lt_t, lt_f, le_t, le_f, eq_t, eq_f, inb_t, inb_f, neq_f, neq_f2, neq_nf, nlt_t, nlt_f, nle_t, nle_f, ms_at, ms_off, up_at, up_off, L0, L1, L2, L3, L4, L5, L6, L7, L8, L9, L10, L11, L12, L13, L14, L15, L16, L17, L18, L19, L20, L21, L22, L23, L24, L30, L31, L32, L40, L41, L42, L43, L45, L47, L48, L52, L57, L59, L60, L61, L63, L64, L72, L97, L99, L100, L122, L160, L161, L200, L255, L999, L1200, L1998, L99999, L100000, L1000005]
      exact k4
    · intro k j q1 q2 q3 q4 q5
      rw [ms_off (by omega), ms_off (by omega), ms_off (by omega), g2 k j q3 q4]
  · rw [if_neg hc]
    unfold cntA at hc
    have mt := r_matures h8 a6 h2 hv
    have ml := matN_le h2 hv
    have gr := r_grace m0 (show s.2.1 v 0 < 6 by omega) p0
    have gl := grcN_le (kd := s.1 (s.2.1 v 0) 0)
    by_cases hl : matN s.2.1 v + grcN (s.1 (s.2.1 v 0) 0) ≤ w
    · rw [if_pos hl]
      obtain ⟨τ', r1, r2, r3⟩ := r_shear hM h8 hy hX hOX hN hs hO o0 hnt
      refine ⟨τ', ?_, r2, r3⟩
      unfold f_X9_isDue
      simp (disch := omega) only [e0, e2, m2, cc, a3, mt, gr, r1, ↓reduceIte, eq_self, Bool.false_eq_true, reduceCtorEq, ob_s, ob2_s, od_e, onl_n, onl_s, ι_nat, ι_add, ι_mul, ι_sub, ι_addm, lt_t, lt_f, le_t, le_f, eq_t, eq_f, inb_t, inb_f, neq_f, neq_f2, neq_nf, nlt_t, nlt_f, nle_t, nle_f, ms_at, ms_off, up_at, up_off, L0, L1, L2, L3, L4, L5, L6, L7, L8, L9, L10, L11, L12, L13, L14, L15, L16, L17, L18, L19, L20, L21, L22, L23, L24, L30, L31, L32, L40, L41, L42, L43, L45, L47, L48, L52, L57, L59, L60, L61, L63, L64, L72, L97, L99, L100, L122, L160, L161, L200, L255, L999, L1200, L1998, L99999, L100000, L1000005]
    · rw [if_neg hl]
      refine ⟨τ, ?_, hs, frF.rfl⟩
      unfold f_X9_isDue
      simp (disch := omega) only [e0, e2, m2, cc, a3, mt, gr, ↓reduceIte, eq_self, Bool.false_eq_true, reduceCtorEq, ob_s, ob2_s, od_e, onl_n, onl_s, ι_nat, ι_add, ι_mul, ι_sub, ι_addm, lt_t, lt_f, le_t, le_f, eq_t, eq_f, inb_t, inb_f, neq_f, neq_f2, neq_nf, nlt_t, nlt_f, nle_t, nle_f, ms_at, ms_off, up_at, up_off, L0, L1, L2, L3, L4, L5, L6, L7, L8, L9, L10, L11, L12, L13, L14, L15, L16, L17, L18, L19, L20, L21, L22, L23, L24, L30, L31, L32, L40, L41, L42, L43, L45, L47, L48, L52, L57, L59, L60, L61, L63, L64, L72, L97, L99, L100, L122, L160, L161, L200, L255, L999, L1200, L1998, L99999, L100000, L1000005]
theorem r_vows {M V w y T nth : Nat} {X : XT} (hM : M ≤ 6) (h8 : V ≤ 8) (hy : y < T) (hOX : OKX T X) (hw : w < 10000) (hnt : nth < 100000) : ∀ d i n N (s : DS) (τ : Mem), i + d = V → d < n → N + d < 100000 → FXT T X τ → FD M V w y s τ → OKD M V N s →
    ∃ τ', f_X9_weekOf_b23 (ι nth) n τ (ι i) = some τ' ∧ FD M V (w + 1) y (vowsD X y V w nth d i s) τ' ∧ frF τ τ' := by
  intro d
  induction d with
  | zero =>
    intro i n N s τ hi hn hN hX hs hO
    obtain ⟨n, rfl⟩ : ∃ k, n = k + 1 := ⟨n - 1, by omega⟩
    obtain ⟨⟨a1, a2, a3, a4, a5, a6⟩, k0, k1, k2, k3, k4⟩ := hs
    refine ⟨ms τ 0 6 (ι (w + 1)), ?_, ⟨⟨?_, ?_, ?_, ?_, ?_, ?_⟩, ?_, ?_, ?_, ?_, ?_⟩, ?_⟩
    · unfold f_X9_weekOf_b23
      simp (disch := omega) only [a2, a3, ↓reduceIte, eq_self, Bool.false_eq_true, reduceCtorEq, ob_s, ob2_s, od_e, onl_n, onl_s, ι_nat, ι_add, ι_mul, ι_sub, ι_addm, lt_t, lt_f, le_t, le_f, eq_t, eq_f, inb_t, inb_f, neq_f, neq_f2, neq_nf, nlt_t, nlt_f, nle_t, nle_f, ms_at, ms_off, up_at, up_off, L0, L1, L2, L3, L4, L5, L6, L7, L8, L9, L10, L11, L12, L13, L14, L15, L16, L17, L18, L19, L20, L21, L22, L23, L24, L30, L31, L32, L40, L41, L42, L43, L45, L47, L48, L52, L57, L59, L60, L61, L63, L64, L72, L97, L99, L100, L122, L160, L161, L200, L255, L999, L1200, L1998, L99999, L100000, L1000005]
    · simp (disch := omega) only [a1, ↓reduceIte, eq_self, Bool.false_eq_true, reduceCtorEq, ob_s, ob2_s, od_e, onl_n, onl_s, ι_nat, ι_add, ι_mul, ι_sub, ι_addm, lt_t, lt_f, le_t, le_f, eq_t, eq_f, inb_t, inb_f, neq_f, neq_f2, neq_nf, nlt_t, nlt_f, nle_t, nle_f, ms_at, ms_off, up_at, up_off, L0, L1, L2, L3, L4, L5, L6, L7, L8, L9, L10, L11, L12, L13, L14, L15, L16, L17, L18, L19, L20, L21, L22, L23, L24, L30, L31, L32, L40, L41, L42, L43, L45, L47, L48, L52, L57, L59, L60, L61, L63, L64, L72, L97, L99, L100, L122, L160, L161, L200, L255, L999, L1200, L1998, L99999, L100000, L1000005]
    · simp (disch := omega) only [a2, ↓reduceIte, eq_self, Bool.false_eq_true, reduceCtorEq, ob_s, ob2_s, od_e, onl_n, onl_s, ι_nat, ι_add, ι_mul, ι_sub, ι_addm, lt_t, lt_f, le_t, le_f, eq_t, eq_f, inb_t, inb_f, neq_f, neq_f2, neq_nf, nlt_t, nlt_f, nle_t, nle_f, ms_at, ms_off, up_at, up_off, L0, L1, L2, L3, L4, L5, L6, L7, L8, L9, L10, L11, L12, L13, L14, L15, L16, L17, L18, L19, L20, L21, L22, L23, L24, L30, L31, L32, L40, L41, L42, L43, L45, L47, L48, L52, L57, L59, L60, L61, L63, L64, L72, L97, L99, L100, L122, L160, L161, L200, L255, L999, L1200, L1998, L99999, L100000, L1000005]
    · simp (disch := omega) only [↓reduceIte, eq_self, Bool.false_eq_true, reduceCtorEq, ob_s, ob2_s, od_e, onl_n, onl_s, ι_nat, ι_add, ι_mul, ι_sub, ι_addm, lt_t, lt_f, le_t, le_f, eq_t, eq_f, inb_t, inb_f, neq_f, neq_f2, neq_nf, nlt_t, nlt_f, nle_t, nle_f, ms_at, ms_off, up_at, up_off, L0, L1, L2, L3, L4, L5, L6, L7, L8, L9, L10, L11, L12, L13, L14, L15, L16, L17, L18, L19, L20, L21, L22, L23, L24, L30, L31, L32, L40, L41, L42, L43, L45, L47, L48, L52, L57, L59, L60, L61, L63, L64, L72, L97, L99, L100, L122, L160, L161, L200, L255, L999, L1200, L1998, L99999, L100000, L1000005]
    · simp (disch := omega) only [a4, ↓reduceIte, eq_self, Bool.false_eq_true, reduceCtorEq, ob_s, ob2_s, od_e, onl_n, onl_s, ι_nat, ι_add, ι_mul, ι_sub, ι_addm, lt_t, lt_f, le_t, le_f, eq_t, eq_f, inb_t, inb_f, neq_f, neq_f2, neq_nf, nlt_t, nlt_f, nle_t, nle_f, ms_at, ms_off, up_at, up_off, L0, L1, L2, L3, L4, L5, L6, L7, L8, L9, L10, L11, L12, L13, L14, L15, L16, L17, L18, L19, L20, L21, L22, L23, L24, L30, L31, L32, L40, L41, L42, L43, L45, L47, L48, L52, L57, L59, L60, L61, L63, L64, L72, L97, L99, L100, L122, L160, L161, L200, L255, L999, L1200, L1998, L99999, L100000, L1000005]
    · exact FA_fr a5 (fun k j q1 q2 => by rw [ms_off (by omega)])
    · exact FB_fr a6 (fun j => by rw [ms_off (by omega)])
    · simp (disch := omega) only [↓reduceIte, eq_self, Bool.false_eq_true, reduceCtorEq, ob_s, ob2_s, od_e, onl_n, onl_s, ι_nat, ι_add, ι_mul, ι_sub, ι_addm, lt_t, lt_f, le_t, le_f, eq_t, eq_f, inb_t, inb_f, neq_f, neq_f2, neq_nf, nlt_t, nlt_f, nle_t, nle_f, ms_at, ms_off, up_at, up_off, L0, L1, L2, L3, L4, L5, L6, L7, L8, L9, L10, L11, L12, L13, L14, L15, L16, L17, L18, L19, L20, L21, L22, L23, L24, L30, L31, L32, L40, L41, L42, L43, L45, L47, L48, L52, L57, L59, L60, L61, L63, L64, L72, L97, L99, L100, L122, L160, L161, L200, L255, L999, L1200, L1998, L99999, L100000, L1000005]
      exact k0
    · simp (disch := omega) only [↓reduceIte, eq_self, Bool.false_eq_true, reduceCtorEq, ob_s, ob2_s, od_e, onl_n, onl_s, ι_nat, ι_add, ι_mul, ι_sub, ι_addm, lt_t, lt_f, le_t, le_f, eq_t, eq_f, inb_t, inb_f, neq_f, neq_f2, neq_nf, nlt_t, nlt_f, nle_t, nle_f, ms_at, ms_off, up_at, up_off, L0, L1, L2, L3, L4, L5, L6, L7, L8, L9, L10, L11, L12, L13, L14, L15, L16, L17, L18, L19, L20, L21, L22, L23, L24, L30, L31, L32, L40, L41, L42, L43, L45, L47, L48, L52, L57, L59, L60, L61, L63, L64, L72, L97, L99, L100, L122, L160, L161, L200, L255, L999, L1200, L1998, L99999, L100000, L1000005]
      exact k1
    · simp (disch := omega) only [↓reduceIte, eq_self, Bool.false_eq_true, reduceCtorEq, ob_s, ob2_s, od_e, onl_n, onl_s, ι_nat, ι_add, ι_mul, ι_sub, ι_addm, lt_t, lt_f, le_t, le_f, eq_t, eq_f, inb_t, inb_f, neq_f, neq_f2, neq_nf, nlt_t, nlt_f, nle_t, nle_f, ms_at, ms_off, up_at, up_off, L0, L1, L2, L3, L4, L5, L6, L7, L8, L9, L10, L11, L12, L13, L14, L15, L16, L17, L18, L19, L20, L21, L22, L23, L24, L30, L31, L32, L40, L41, L42, L43, L45, L47, L48, L52, L57, L59, L60, L61, L63, L64, L72, L97, L99, L100, L122, L160, L161, L200, L255, L999, L1200, L1998, L99999, L100000, L1000005]
      exact k2
    · simp (disch := omega) only [↓reduceIte, eq_self, Bool.false_eq_true, reduceCtorEq, ob_s, ob2_s, od_e, onl_n, onl_s, ι_nat, ι_add, ι_mul, ι_sub, ι_addm, lt_t, lt_f, le_t, le_f, eq_t, eq_f, inb_t, inb_f, neq_f, neq_f2, neq_nf, nlt_t, nlt_f, nle_t, nle_f, ms_at, ms_off, up_at, up_off, L0, L1, L2, L3, L4, L5, L6, L7, L8, L9, L10, L11, L12, L13, L14, L15, L16, L17, L18, L19, L20, L21, L22, L23, L24, L30, L31, L32, L40, L41, L42, L43, L45, L47, L48, L52, L57, L59, L60, L61, L63, L64, L72, L97, L99, L100, L122, L160, L161, L200, L255, L999, L1200, L1998, L99999, L100000, L1000005]
      exact k3
    · simp (disch := omega) only [↓reduceIte, eq_self, Bool.false_eq_true, reduceCtorEq, ob_s, ob2_s, od_e, onl_n, onl_s, ι_nat, ι_add, ι_mul, ι_sub, ι_addm, lt_t, lt_f, le_t, le_f, eq_t, eq_f, inb_t, inb_f, neq_f, neq_f2, neq_nf, nlt_t, nlt_f, nle_t, nle_f, ms_at, ms_off, up_at, up_off, L0, L1, L2, L3, L4, L5, L6, L7, L8, L9, L10, L11, L12, L13, L14, L15, L16, L17, L18, L19, L20, L21, L22, L23, L24, L30, L31, L32, L40, L41, L42, L43, L45, L47, L48, L52, L57, L59, L60, L61, L63, L64, L72, L97, L99, L100, L122, L160, L161, L200, L255, L999, L1200, L1998, L99999, L100000, L1000005]
      exact k4
    · intro k j q1 q2 q3 q4 q5
      rw [ms_off (by omega)]
  | succ d ih =>
    intro i n N s τ hi hn hN hX hs hO
    obtain ⟨n, rfl⟩ : ∃ k, n = k + 1 := ⟨n - 1, by omega⟩
    obtain ⟨⟨a1, a2, a3, a4, a5, a6⟩, -⟩ := id hs
    have hv : i < V := by omega
    have b := hO.2.1 i hv
    have mt := r_matures h8 a6 hO.2.1 hv
    have ml := matN_le hO.2.1 hv
    have st := r_stands h8 a6 hO.2.1 hv
    have up1 : OKD M V (N + 1) s := by
      obtain ⟨h1, h2, h3, h4⟩ := hO
      exact ⟨h1, h2, by omega, h4⟩
    by_cases hz : s.2.1 i 4 = 0
    · rw [if_pos hz] at st
      by_cases hd : matN s.2.1 i ≤ w
      · obtain ⟨τ1, q1, q2, q3⟩ := r_pay hM h8 hy hX hOX (by omega) hs hO hv hnt (by omega)
        obtain ⟨τ', g1, g2, g3⟩ := ih (i + 1) n (N + 1) _ τ1 (by omega) (by omega) (by omega) (FXT_F hX q3) q2 (OKD_due hM hO hv)
        refine ⟨τ', ?_, ?_, q3.tr g3⟩
        · unfold f_X9_weekOf_b23
          simp (disch := omega) only [a2, a3, st, mt, q1, f_X9_weekOf_b57, ↓reduceIte, eq_self, Bool.false_eq_true, reduceCtorEq, ob_s, ob2_s, od_e, onl_n, onl_s, ι_nat, ι_add, ι_mul, ι_sub, ι_addm, lt_t, lt_f, le_t, le_f, eq_t, eq_f, inb_t, inb_f, neq_f, neq_f2, neq_nf, nlt_t, nlt_f, nle_t, nle_f, ms_at, ms_off, up_at, up_off, L0, L1, L2, L3, L4, L5, L6, L7, L8, L9, L10, L11, L12, L13, L14, L15, L16, L17, L18, L19, L20, L21, L22, L23, L24, L30, L31, L32, L40, L41, L42, L43, L45, L47, L48, L52, L57, L59, L60, L61, L63, L64, L72, L97, L99, L100, L122, L160, L161, L200, L255, L999, L1200, L1998, L99999, L100000, L1000005]
          exact g1
        · show FD M V (w + 1) y (vowsD X y V w nth d (i + 1) (if _ then _ else _)) τ'
          rw [if_pos ⟨hz, hd⟩]
          exact g2
      · obtain ⟨τ', g1, g2, g3⟩ := ih (i + 1) n (N + 1) _ τ (by omega) (by omega) (by omega) hX hs up1
        refine ⟨τ', ?_, ?_, g3⟩
        · unfold f_X9_weekOf_b23
          simp (disch := omega) only [a2, a3, st, mt, f_X9_weekOf_b57, ↓reduceIte, eq_self, Bool.false_eq_true, reduceCtorEq, ob_s, ob2_s, od_e, onl_n, onl_s, ι_nat, ι_add, ι_mul, ι_sub, ι_addm, lt_t, lt_f, le_t, le_f, eq_t, eq_f, inb_t, inb_f, neq_f, neq_f2, neq_nf, nlt_t, nlt_f, nle_t, nle_f, ms_at, ms_off, up_at, up_off, L0, L1, L2, L3, L4, L5, L6, L7, L8, L9, L10, L11, L12, L13, L14, L15, L16, L17, L18, L19, L20, L21, L22, L23, L24, L30, L31, L32, L40, L41, L42, L43, L45, L47, L48, L52, L57, L59, L60, L61, L63, L64, L72, L97, L99, L100, L122, L160, L161, L200, L255, L999, L1200, L1998, L99999, L100000, L1000005]
          exact g1
        · show FD M V (w + 1) y (vowsD X y V w nth d (i + 1) (if _ then _ else _)) τ'
          rw [if_neg (fun h => hd h.2)]
          exact g2
    · rw [if_neg hz] at st
      obtain ⟨τ', g1, g2, g3⟩ := ih (i + 1) n (N + 1) _ τ (by omega) (by omega) (by omega) hX hs up1
      refine ⟨τ', ?_, ?_, g3⟩
      · unfold f_X9_weekOf_b23
        simp (disch := omega) only [a2, a3, st, f_X9_weekOf_b57, ↓reduceIte, eq_self, Bool.false_eq_true, reduceCtorEq, ob_s, ob2_s, od_e, onl_n, onl_s, ι_nat, ι_add, ι_mul, ι_sub, ι_addm, lt_t, lt_f, le_t, le_f, eq_t, eq_f, inb_t, inb_f, neq_f, neq_f2, neq_nf, nlt_t, nlt_f, nle_t, nle_f, ms_at, ms_off, up_at, up_off, L0, L1, L2, L3, L4, L5, L6, L7, L8, L9, L10, L11, L12, L13, L14, L15, L16, L17, L18, L19, L20, L21, L22, L23, L24, L30, L31, L32, L40, L41, L42, L43, L45, L47, L48, L52, L57, L59, L60, L61, L63, L64, L72, L97, L99, L100, L122, L160, L161, L200, L255, L999, L1200, L1998, L99999, L100000, L1000005]
        exact g1
      · show FD M V (w + 1) y (vowsD X y V w nth d (i + 1) (if _ then _ else _)) τ'
        rw [if_neg (fun h => hz h.1)]
        exact g2
theorem r_week {M V w y T nth N : Nat} {X : XT} {s : DS} {τ : Mem} (hM : M ≤ 6) (h8 : V ≤ 8) (hy : y < T) (hX : FXT T X τ) (hOX : OKX T X) (hw : w < 10000) (hnt : nth < 100000) (hN : N < 50000) (hs : FD M V w y s τ) (hO : OKD M V N s) :
    ∃ τ', f_X9_weekOf τ (ι nth) = some τ' ∧ FD M V (w + 1) y (weekD X y M V w nth s) τ' ∧ frF τ τ' := by
  obtain ⟨A, B, K⟩ := s
  obtain ⟨τ1, g1, g2, g3⟩ := r_grows (X := X) (nth := nth) hM h8 hy hOX hw hO.1 hO.2.1 M 0 FU τ (by omega) (by unfold FU; omega) hX (by rw [growA_0]; exact hs)
  obtain ⟨τ2, b1, b2, b3⟩ := r_vows (nth := nth) hM h8 hy hOX hw hnt V 0 FU N _ τ1 (by omega) (by unfold FU; omega) (by omega) (FXT_F hX g3) g2 ⟨OKA_grow hO.1, hO.2⟩
  refine ⟨τ2, ?_, b2, g3.tr b3⟩
  unfold f_X9_weekOf
  rw [L0, g1]
  exact b1
