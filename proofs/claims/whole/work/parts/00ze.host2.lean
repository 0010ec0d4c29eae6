/-! THE PURE PART: menBy, feed, film -/
theorem ng_big {n : Nat} (h1 : 2147483648 ≤ n) (h2 : n < 4294967296) : ng (ι n) := by
  unfold ng
  have e9 : Int32.size = 4294967296 := rfl
  show (Int32.ofNat n).toInt < 0
  rw [Int32.toInt_ofNat', e9, Int.bmod_def]
  split <;> omega
theorem c_number {σ : Mem} {s sz i : Nat} {ce : Nat → Int32} (h4 : σ (67 + 2 * s) 2 = ι sz) (hsz : sz ≤ 40) (h7 : ∀ j, j < 40 → σ (68 + 2 * s) j = ce j) (hi : i < sz) : f_X4_number σ (67 + 2 * s) (ι i) = some (ce i) := by
  unfold f_X4_number
  rw [h4, show 67 + 2 * s + 1 = 68 + 2 * s by omega, L0, L40, if_neg (by rw [lt_f (by omega) (by omega)]; exact id), if_neg (by rw [le_f (by omega) (by omega)]; exact id), if_neg (by rw [le_f (by omega) (by omega)]; exact id), if_pos (inb_t (by omega) (by omega)), ι_nat (by omega), h7 i (by omega)]
theorem op_menBy : OP_menBy RR := by
  intro σ τ v1 v2 v3 v4 hR
  have bad : ∀ (n : Nat), (∀ r, f_X8_menBy σ v1 v2 v3 v4 = r → True) → f_X8_menBy σ v1 v2 v3 v4 = some (-ι n, σ) → f_X9_menBy τ v1 v2 v3 v4 = some (-ι n, τ) → ∃ (r : Int32) (σ' : Mem) (τ' : Mem), f_X8_menBy σ v1 v2 v3 v4 = some (r, σ') ∧ f_X9_menBy τ v1 v2 v3 v4 = some (r, τ') ∧ RR σ' τ' ∧ σ' 1 1 = σ 1 1 :=
    fun n _ h1 h2 => ⟨-ι n, σ, τ, h1, h2, hR, rfl⟩
  obtain ⟨M, V, w, y, A, B, T, X, h0, hA, hB, hOX, hC, hS, hS9, hF, hCX, hFX, hI, hSh, hD⟩ := id hR
  obtain ⟨hM, hV, hw, hy⟩ := id h0
  obtain ⟨hB, hBs⟩ := id hB
  obtain ⟨a1, a2, a3, a4, a5, a6⟩ := id hC
  obtain ⟨b1, b2, b3, b4, b5, b6⟩ := id hF
  have hT := hOX.2.1
  have c1 := hCX.1
  have f1 := hFX.1
  rcases argN 4 v1 with ⟨s, s1, s2, rfl⟩ | g1
  · obtain ⟨so, sz, ce, hN⟩ := ShN_of hSh s1
    obtain ⟨h0', h1, h2, h3, h4, h5, h6, h7, h8⟩ := id hN
    rcases argN 3 v2 with ⟨q, q1, q2, rfl⟩ | g2
    · rcases argN 7 v4 with ⟨nn, n1, n2, rfl⟩ | g4
      · by_cases hz : so = 0
        · refine bad 11 (fun _ _ => trivial) ?_ ?_
          · unfold f_X8_menBy
            simp (disch := omega) only [c_sheetAt s1, h3, pl_0 hz, ↓reduceIte, eq_self, Bool.false_eq_true, reduceCtorEq, ob_s, ob2_s, od_e, onl_n, onl_s, ι_nat, ι_add, ι_mul, ι_sub, ι_addm, lt_t, lt_f, le_t, le_f, eq_t, eq_f, inb_t, inb_f, neq_f, neq_f2, neq_nf, nlt_t, nlt_f, nle_t, nle_f, ms_at, ms_off, up_at, up_off, L0, L1, L2, L3, L4, L5, L6, L7, L8, L9, L10, L11, L12, L13, L14, L15, L16, L17, L18, L19, L20, L21, L22, L23, L24, L30, L31, L32, L40, L41, L42, L43, L45, L47, L48, L52, L57, L59, L60, L61, L63, L64, L72, L97, L99, L100, L122, L160, L161, L200, L255, L999, L1200, L1998, L99999, L100000, L1000005]
          · unfold f_X9_menBy
            simp (disch := omega) only [r_in, h5, pl_0 hz, ↓reduceIte, eq_self, Bool.false_eq_true, reduceCtorEq, ob_s, ob2_s, od_e, onl_n, onl_s, ι_nat, ι_add, ι_mul, ι_sub, ι_addm, lt_t, lt_f, le_t, le_f, eq_t, eq_f, inb_t, inb_f, neq_f, neq_f2, neq_nf, nlt_t, nlt_f, nle_t, nle_f, ms_at, ms_off, up_at, up_off, L0, L1, L2, L3, L4, L5, L6, L7, L8, L9, L10, L11, L12, L13, L14, L15, L16, L17, L18, L19, L20, L21, L22, L23, L24, L30, L31, L32, L40, L41, L42, L43, L45, L47, L48, L52, L57, L59, L60, L61, L63, L64, L72, L97, L99, L100, L122, L160, L161, L200, L255, L999, L1200, L1998, L99999, L100000, L1000005]
        · have hp := pl_s (show 0 < so by omega)
          by_cases hq : so - 1 = q
          · have L : ∀ d k n (x : Int32) (σ τ : Mem), k + d = nn → d < n → RR σ τ → ShN s so sz ce σ τ → ∃ r σ' τ', f_X8_menBy_b66 v3 (ι nn) (67 + 2 * s) n σ x (ι k) = some (r, σ') ∧ f_X9_menBy_b64 (ι s) v3 (ι nn) n τ x (ι k) = some (r, τ') ∧ RR σ' τ' ∧ σ' 1 1 = σ 1 1 := by
              intro d
              induction d with
              | zero =>
                intro k n x σ τ hk hn hR hN
                obtain ⟨n, rfl⟩ : ∃ k, n = k + 1 := ⟨n - 1, by omega⟩
                refine ⟨x, σ, τ, ?_, ?_, hR, rfl⟩
                · rw [f_X8_menBy_b66, if_pos (by rw [le_t (by omega) (by omega)]; trivial)]
                · rw [f_X9_menBy_b64, if_pos (by rw [le_t (by omega) (by omega)]; trivial)]
              | succ d ih =>
                intro k n x σ τ hk hn hR hN
                obtain ⟨n, rfl⟩ : ∃ k, n = k + 1 := ⟨n - 1, by omega⟩
                obtain ⟨h0', h1, h2, h3, h4, h5, h6, h7, h8⟩ := id hN
                have e3 : (3 : Int32) * ι k + 3 = ι (3 * k + 3) := by rw [L3, ι_mul, ι_add]
                rcases holds_or h4 h2 v3 (ι (3 * k + 3)) with ⟨w1, w2⟩ | ⟨a, m, w1, rfl, w3, w4⟩
                · refine ⟨-ι 12, σ, τ, ?_, ?_, hR, rfl⟩
                  · rw [f_X8_menBy_b66, if_neg (by rw [le_f (by omega) (by omega)]; exact id), e3, w1, if_pos (show ι 0 = (0 : Int32) from rfl)]
                    rfl
                  · rw [f_X9_menBy_b64, if_neg (by rw [le_f (by omega) (by omega)]; exact id)]
                    rcases arg v3 with ⟨a, a1, rfl⟩ | ⟨a, a1, a2, a3⟩
                    · have hb : ¬ a + (3 * k + 3) ≤ sz := fun c => w2 ⟨a, 3 * k + 3, c, rfl, rfl⟩
                      by_cases hbig : a + 3 * k < 2147483648
                      · by_cases h3' : 3 ≤ sz
                        · simp (disch := omega) only [h6, ↓reduceIte, eq_self, Bool.false_eq_true, reduceCtorEq, ob_s, ob2_s, od_e, onl_n, onl_s, ι_nat, ι_add, ι_mul, ι_sub, ι_addm, lt_t, lt_f, le_t, le_f, eq_t, eq_f, inb_t, inb_f, neq_f, neq_f2, neq_nf, nlt_t, nlt_f, nle_t, nle_f, ms_at, ms_off, up_at, up_off, L0, L1, L2, L3, L4, L5, L6, L7, L8, L9, L10, L11, L12, L13, L14, L15, L16, L17, L18, L19, L20, L21, L22, L23, L24, L30, L31, L32, L40, L41, L42, L43, L45, L47, L48, L52, L57, L59, L60, L61, L63, L64, L72, L97, L99, L100, L122, L160, L161, L200, L255, L999, L1200, L1998, L99999, L100000, L1000005]
                        · simp (disch := omega) only [h6, nsub, show (ι (a + 3 * k) ≤ -ι (3 - sz)) = False from nle_f (by omega) (by omega) (by omega), ↓reduceIte, eq_self, Bool.false_eq_true, reduceCtorEq, ob_s, ob2_s, od_e, onl_n, onl_s, ι_nat, ι_add, ι_mul, ι_sub, ι_addm, lt_t, lt_f, le_t, le_f, eq_t, eq_f, inb_t, inb_f, neq_f, neq_f2, neq_nf, nlt_t, nlt_f, nle_t, nle_f, ms_at, ms_off, up_at, up_off, L0, L1, L2, L3, L4, L5, L6, L7, L8, L9, L10, L11, L12, L13, L14, L15, L16, L17, L18, L19, L20, L21, L22, L23, L24, L30, L31, L32, L40, L41, L42, L43, L45, L47, L48, L52, L57, L59, L60, L61, L63, L64, L72, L97, L99, L100, L122, L160, L161, L200, L255, L999, L1200, L1998, L99999, L100000, L1000005]
                      · have hg := ng_big (n := a + 3 * k) (by omega) (by omega)
                        rw [if_neg (by rw [L0, lt_f (by omega) (by omega)]; exact id), L3, ι_mul, ι_add, if_pos (by rw [ng_lt hg a1]; trivial)]
                        rfl
                    · have hn : ng v3 := by unfold ng; omega
                      simp (disch := omega) only [ng_lt hn, ng_le hn, ng_gt hn, ng_ge hn, ng_eq hn, ng_eq2 hn, ng_inb hn, ↓reduceIte, eq_self, Bool.false_eq_true, reduceCtorEq, ob_s, ob2_s, od_e, onl_n, onl_s, ι_nat, ι_add, ι_mul, ι_sub, ι_addm, lt_t, lt_f, le_t, le_f, eq_t, eq_f, inb_t, inb_f, neq_f, neq_f2, neq_nf, nlt_t, nlt_f, nle_t, nle_f, ms_at, ms_off, up_at, up_off, L0, L1, L2, L3, L4, L5, L6, L7, L8, L9, L10, L11, L12, L13, L14, L15, L16, L17, L18, L19, L20, L21, L22, L23, L24, L30, L31, L32, L40, L41, L42, L43, L45, L47, L48, L52, L57, L59, L60, L61, L63, L64, L72, L97, L99, L100, L122, L160, L161, L200, L255, L999, L1200, L1998, L99999, L100000, L1000005]
                · have hm := ι_inj (by omega) (by omega) w3
                  subst hm
                  obtain ⟨r, σ1, τ1, m1, m2, m3, m4, m5, m6⟩ := add_man hR (ce (a + 3 * k)) (ce (a + 3 * k + 1)) (ce (a + 3 * k + 2))
                  obtain ⟨r', σ', τ', p1, p2, p3, p4⟩ := ih (k + 1) n (if r < 0 then x else x + 1) σ1 τ1 (by omega) (by omega) m3 (ShN_sc hN m5 m6)
                  refine ⟨r', σ', τ', ?_, ?_, p3, by rw [p4, m4]⟩
                  · rw [f_X8_menBy_b66, if_neg (by rw [le_f (by omega) (by omega)]; exact id), e3, w4, if_neg (by decide), L3, L1, L2, ι_mul, ι_add, ι_add, ι_add, c_number h4 h2 h7 (by omega), ob_s, c_number h4 h2 h7 (by omega), ob_s, c_number h4 h2 h7 (by omega), ob_s, m1, ob2_s]
                    unfold f_X8_menBy_b137
                    by_cases c : r < 0
                    · rw [if_pos c] at p1
                      rw [if_pos c, L1, ι_add]
                      exact p1
                    · rw [if_neg c, L1] at p1
                      rw [if_neg c, L1, ι_add]
                      exact p1
                  · rw [f_X9_menBy_b64, if_neg (by rw [le_f (by omega) (by omega)]; exact id), if_neg (by rw [L0, lt_f (by omega) (by omega)]; exact id), L3, ι_mul, ι_add, if_neg (by rw [lt_f (by omega) (by omega)]; exact id), if_pos (inb_t s1 s2), ι_nat s2, h6, ι_sub (by omega) (by omega), if_pos (by rw [le_t (by omega) (by omega)]; trivial), od_e, L40, L1, L2, ι_mul, ι_add, ι_add, ι_add, if_pos (inb_t (by omega) (by omega)), if_pos (inb_t (by omega) (by omega)), if_pos (inb_t (by omega) (by omega)), ι_nat (by omega), ι_nat (by omega), ι_nat (by omega), show 40 * s + (a + 3 * k) + 1 = 40 * s + (a + 3 * k + 1) by omega, show 40 * s + (a + 3 * k) + 2 = 40 * s + (a + 3 * k + 2) by omega, h8 _ (by omega), h8 _ (by omega), h8 _ (by omega), m2, ob2_s]
                    unfold f_X9_menBy_b153
                    by_cases c : r < 0
                    · rw [if_pos c] at p2
                      rw [if_pos c, L0, show x + ι 0 = x from Int32.add_zero x, L1, ι_add]
                      exact p2
                    · rw [if_neg c, L1] at p2
                      rw [if_neg c, L1, ι_add]
                      exact p2
            obtain ⟨r, σ', τ', p1, p2, p3, p4⟩ := L nn 0 FU (ι 0) σ τ (by omega) (by unfold FU; omega) hR hN
            refine ⟨r, σ', τ', ?_, ?_, p3, p4⟩
            · unfold f_X8_menBy
              rw [c_sheetAt s1, ob_s, onl_s, if_neg (by rw [L0, lt_f (by omega) (by omega)]; exact id), if_neg (by rw [L2, lt_f (by omega) (by omega)]; exact id), if_neg (by rw [L0, lt_f (by omega) (by omega)]; exact id), if_pos (by rw [L6, le_t (by omega) (by omega)]; trivial), h3, hp, if_neg (show ¬ (ι (so - 1) = (-1 : Int32)) from of_eq_false (neq_f (b := 1) (by omega) (by omega) (by omega))), if_pos (by rw [hq]), L0]
              exact p1
            · unfold f_X9_menBy
              rw [L0, L3, r_in (by omega) (by omega) (by omega), if_neg (by decide), L2, r_in (by omega) (by omega) (by omega), if_neg (by decide), L6, r_in (by omega) (by omega) (by omega), if_neg (by decide), if_pos (inb_t s1 s2), ι_nat s2, h5, hp, if_neg (show ¬ (ι (so - 1) = (-1 : Int32)) from of_eq_false (neq_f (b := 1) (by omega) (by omega) (by omega))), if_pos (inb_t s1 s2), if_pos (by rw [hq])]
              exact p2
          · refine bad 13 (fun _ _ => trivial) ?_ ?_
            · unfold f_X8_menBy
              simp (disch := omega) only [c_sheetAt s1, h3, hp, ↓reduceIte, eq_self, Bool.false_eq_true, reduceCtorEq, ob_s, ob2_s, od_e, onl_n, onl_s, ι_nat, ι_add, ι_mul, ι_sub, ι_addm, lt_t, lt_f, le_t, le_f, eq_t, eq_f, inb_t, inb_f, neq_f, neq_f2, neq_nf, nlt_t, nlt_f, nle_t, nle_f, ms_at, ms_off, up_at, up_off, L0, L1, L2, L3, L4, L5, L6, L7, L8, L9, L10, L11, L12, L13, L14, L15, L16, L17, L18, L19, L20, L21, L22, L23, L24, L30, L31, L32, L40, L41, L42, L43, L45, L47, L48, L52, L57, L59, L60, L61, L63, L64, L72, L97, L99, L100, L122, L160, L161, L200, L255, L999, L1200, L1998, L99999, L100000, L1000005]
            · unfold f_X9_menBy
              simp (disch := omega) only [r_in, h5, hp, ↓reduceIte, eq_self, Bool.false_eq_true, reduceCtorEq, ob_s, ob2_s, od_e, onl_n, onl_s, ι_nat, ι_add, ι_mul, ι_sub, ι_addm, lt_t, lt_f, le_t, le_f, eq_t, eq_f, inb_t, inb_f, neq_f, neq_f2, neq_nf, nlt_t, nlt_f, nle_t, nle_f, ms_at, ms_off, up_at, up_off, L0, L1, L2, L3, L4, L5, L6, L7, L8, L9, L10, L11, L12, L13, L14, L15, L16, L17, L18, L19, L20, L21, L22, L23, L24, L30, L31, L32, L40, L41, L42, L43, L45, L47, L48, L52, L57, L59, L60, L61, L63, L64, L72, L97, L99, L100, L122, L160, L161, L200, L255, L999, L1200, L1998, L99999, L100000, L1000005]
      · refine bad 2 (fun _ _ => trivial) ?_ ?_
        · unfold f_X8_menBy
          rcases g4 with g | ⟨k, k1, k2, rfl⟩
          · simp (disch := omega) only [c_sheetAt s1, ng_lt g, ng_le g, ng_gt g, ng_ge g, ng_eq g, ng_eq2 g, ng_inb g, ↓reduceIte, eq_self, Bool.false_eq_true, reduceCtorEq, ob_s, ob2_s, od_e, onl_n, onl_s, ι_nat, ι_add, ι_mul, ι_sub, ι_addm, lt_t, lt_f, le_t, le_f, eq_t, eq_f, inb_t, inb_f, neq_f, neq_f2, neq_nf, nlt_t, nlt_f, nle_t, nle_f, ms_at, ms_off, up_at, up_off, L0, L1, L2, L3, L4, L5, L6, L7, L8, L9, L10, L11, L12, L13, L14, L15, L16, L17, L18, L19, L20, L21, L22, L23, L24, L30, L31, L32, L40, L41, L42, L43, L45, L47, L48, L52, L57, L59, L60, L61, L63, L64, L72, L97, L99, L100, L122, L160, L161, L200, L255, L999, L1200, L1998, L99999, L100000, L1000005]
          · simp (disch := omega) only [c_sheetAt s1, ↓reduceIte, eq_self, Bool.false_eq_true, reduceCtorEq, ob_s, ob2_s, od_e, onl_n, onl_s, ι_nat, ι_add, ι_mul, ι_sub, ι_addm, lt_t, lt_f, le_t, le_f, eq_t, eq_f, inb_t, inb_f, neq_f, neq_f2, neq_nf, nlt_t, nlt_f, nle_t, nle_f, ms_at, ms_off, up_at, up_off, L0, L1, L2, L3, L4, L5, L6, L7, L8, L9, L10, L11, L12, L13, L14, L15, L16, L17, L18, L19, L20, L21, L22, L23, L24, L30, L31, L32, L40, L41, L42, L43, L45, L47, L48, L52, L57, L59, L60, L61, L63, L64, L72, L97, L99, L100, L122, L160, L161, L200, L255, L999, L1200, L1998, L99999, L100000, L1000005]
        · unfold f_X9_menBy
          simp (disch := omega) only [r_in, outN_in (n := 6) (by omega) g4, ↓reduceIte, eq_self, Bool.false_eq_true, reduceCtorEq, ob_s, ob2_s, od_e, onl_n, onl_s, ι_nat, ι_add, ι_mul, ι_sub, ι_addm, lt_t, lt_f, le_t, le_f, eq_t, eq_f, inb_t, inb_f, neq_f, neq_f2, neq_nf, nlt_t, nlt_f, nle_t, nle_f, ms_at, ms_off, up_at, up_off, L0, L1, L2, L3, L4, L5, L6, L7, L8, L9, L10, L11, L12, L13, L14, L15, L16, L17, L18, L19, L20, L21, L22, L23, L24, L30, L31, L32, L40, L41, L42, L43, L45, L47, L48, L52, L57, L59, L60, L61, L63, L64, L72, L97, L99, L100, L122, L160, L161, L200, L255, L999, L1200, L1998, L99999, L100000, L1000005]
    · refine bad 2 (fun _ _ => trivial) ?_ ?_
      · unfold f_X8_menBy
        rcases g2 with g | ⟨k, k1, k2, rfl⟩
        · simp (disch := omega) only [c_sheetAt s1, ng_lt g, ng_le g, ng_gt g, ng_ge g, ng_eq g, ng_eq2 g, ng_inb g, ↓reduceIte, eq_self, Bool.false_eq_true, reduceCtorEq, ob_s, ob2_s, od_e, onl_n, onl_s, ι_nat, ι_add, ι_mul, ι_sub, ι_addm, lt_t, lt_f, le_t, le_f, eq_t, eq_f, inb_t, inb_f, neq_f, neq_f2, neq_nf, nlt_t, nlt_f, nle_t, nle_f, ms_at, ms_off, up_at, up_off, L0, L1, L2, L3, L4, L5, L6, L7, L8, L9, L10, L11, L12, L13, L14, L15, L16, L17, L18, L19, L20, L21, L22, L23, L24, L30, L31, L32, L40, L41, L42, L43, L45, L47, L48, L52, L57, L59, L60, L61, L63, L64, L72, L97, L99, L100, L122, L160, L161, L200, L255, L999, L1200, L1998, L99999, L100000, L1000005]
        · simp (disch := omega) only [c_sheetAt s1, ↓reduceIte, eq_self, Bool.false_eq_true, reduceCtorEq, ob_s, ob2_s, od_e, onl_n, onl_s, ι_nat, ι_add, ι_mul, ι_sub, ι_addm, lt_t, lt_f, le_t, le_f, eq_t, eq_f, inb_t, inb_f, neq_f, neq_f2, neq_nf, nlt_t, nlt_f, nle_t, nle_f, ms_at, ms_off, up_at, up_off, L0, L1, L2, L3, L4, L5, L6, L7, L8, L9, L10, L11, L12, L13, L14, L15, L16, L17, L18, L19, L20, L21, L22, L23, L24, L30, L31, L32, L40, L41, L42, L43, L45, L47, L48, L52, L57, L59, L60, L61, L63, L64, L72, L97, L99, L100, L122, L160, L161, L200, L255, L999, L1200, L1998, L99999, L100000, L1000005]
      · unfold f_X9_menBy
        simp (disch := omega) only [r_in, outN_in (n := 2) (by omega) g2, ↓reduceIte, eq_self, Bool.false_eq_true, reduceCtorEq, ob_s, ob2_s, od_e, onl_n, onl_s, ι_nat, ι_add, ι_mul, ι_sub, ι_addm, lt_t, lt_f, le_t, le_f, eq_t, eq_f, inb_t, inb_f, neq_f, neq_f2, neq_nf, nlt_t, nlt_f, nle_t, nle_f, ms_at, ms_off, up_at, up_off, L0, L1, L2, L3, L4, L5, L6, L7, L8, L9, L10, L11, L12, L13, L14, L15, L16, L17, L18, L19, L20, L21, L22, L23, L24, L30, L31, L32, L40, L41, L42, L43, L45, L47, L48, L52, L57, L59, L60, L61, L63, L64, L72, L97, L99, L100, L122, L160, L161, L200, L255, L999, L1200, L1998, L99999, L100000, L1000005]
  · refine bad 2 (fun _ _ => trivial) ?_ ?_
    · unfold f_X8_menBy
      simp (disch := omega) only [c_sheetNo g1, ↓reduceIte, eq_self, Bool.false_eq_true, reduceCtorEq, ob_s, ob2_s, od_e, onl_n, onl_s, ι_nat, ι_add, ι_mul, ι_sub, ι_addm, lt_t, lt_f, le_t, le_f, eq_t, eq_f, inb_t, inb_f, neq_f, neq_f2, neq_nf, nlt_t, nlt_f, nle_t, nle_f, ms_at, ms_off, up_at, up_off, L0, L1, L2, L3, L4, L5, L6, L7, L8, L9, L10, L11, L12, L13, L14, L15, L16, L17, L18, L19, L20, L21, L22, L23, L24, L30, L31, L32, L40, L41, L42, L43, L45, L47, L48, L52, L57, L59, L60, L61, L63, L64, L72, L97, L99, L100, L122, L160, L161, L200, L255, L999, L1200, L1998, L99999, L100000, L1000005]
    · unfold f_X9_menBy
      simp (disch := omega) only [outN_in (n := 3) (by omega) g1, ↓reduceIte, eq_self, Bool.false_eq_true, reduceCtorEq, ob_s, ob2_s, od_e, onl_n, onl_s, ι_nat, ι_add, ι_mul, ι_sub, ι_addm, lt_t, lt_f, le_t, le_f, eq_t, eq_f, inb_t, inb_f, neq_f, neq_f2, neq_nf, nlt_t, nlt_f, nle_t, nle_f, ms_at, ms_off, up_at, up_off, L0, L1, L2, L3, L4, L5, L6, L7, L8, L9, L10, L11, L12, L13, L14, L15, L16, L17, L18, L19, L20, L21, L22, L23, L24, L30, L31, L32, L40, L41, L42, L43, L45, L47, L48, L52, L57, L59, L60, L61, L63, L64, L72, L97, L99, L100, L122, L160, L161, L200, L255, L999, L1200, L1998, L99999, L100000, L1000005]
theorem feed_step {σ τ : Mem} (hR : RR σ τ) {t b : Nat} (ht : σ 9 1 = ι t) (h160 : t < 160) (hb : b ≤ 255) : RR (ms (ms σ 10 t (ι b)) 9 1 (ι (t + 1))) (ms (ms τ 5 t (ι b)) 0 8 (ι (t + 1))) ∧ (ms (ms σ 10 t (ι b)) 9 1 (ι (t + 1))) 1 1 = σ 1 1 ∧ f_X2_add σ (ι b) = some (ms (ms σ 10 t (ι b)) 9 1 (ι (t + 1))) ∧ τ 0 8 = ι t := by
  obtain ⟨M, V, w, y, A, B, T, X, h0, hA, hB, hOX, hC, hS, hS9, hF, hCX, hFX, hI, hSh, n, d1, d2, d3, d4, d5⟩ := id hR
  have hn : n = t := by
    rw [d2] at ht
    exact ι_inj (by omega) (by omega) ht
  subst hn
  have cn : ∀ k j, k ≠ 10 → ¬ (k = 9 ∧ j = 1) → ms (ms σ 10 n (ι b)) 9 1 (ι (n + 1)) k j = σ k j := fun k j c1 c2 => by rw [ms_off (by omega), ms_off (by omega)]
  have rn : ∀ k j, k ≠ 5 → ¬ (k = 0 ∧ j = 8) → ms (ms τ 5 n (ι b)) 0 8 (ι (n + 1)) k j = τ k j := fun k j c1 c2 => by rw [ms_off (by omega), ms_off (by omega)]
  refine ⟨⟨M, V, w, y, A, B, T, X, h0, hA, hB, hOX, ?_, ?_, ?_, ?_, ?_, ?_, ?_, ?_, n + 1, by omega, ?_, ?_, ?_⟩, ?_, ?_, d3⟩
  · exact CT_fr h0.1 h0.2.1 (fun k j h1 h2 h3 => cn k j (by omega) (by omega)) hC
  · intro i hi
    rw [cn _ _ (by omega) (by omega)]
    exact hS i hi
  · intro i hi
    rw [cn _ _ (by omega) (by omega)]
    exact hS9 i hi
  · exact FT_fr h0.1 h0.2.1 (fun k j h => rn k j (by omega) (by omega)) hF
  · exact CXT_fr (fun k j h => cn k j (by omega) (by omega)) hCX
  · exact FXT_fr (fun k j h => rn k j (by omega) (by omega)) hFX
  · rcases hI with ⟨i1, i2⟩ | ⟨i1, i2, M1, V1, w1, y1, A1, B1, m, o1, o2, c, f⟩
    · refine Or.inl ⟨?_, ?_⟩
      · rw [cn _ _ (by omega) (by omega)]; exact i1
      · rw [rn _ _ (by omega) (by omega)]; exact i2
    · refine Or.inr ⟨?_, ?_, M1, V1, w1, y1, A1, B1, m, o1, o2, ?_, ?_⟩
      · rw [cn _ _ (by omega) (by omega)]; exact i1
      · rw [rn _ _ (by omega) (by omega)]; exact i2
      · exact CT_fr (by omega) m.2.1 (fun k j h1 h2 h3 => cn k j (by omega) (by omega)) c
      · refine FT_fr (by omega) m.2.1 (fun k j h => ?_) f
        unfold imgv
        by_cases k0 : k = 0
        · rw [if_pos k0, if_pos k0, rn 0 14 (by omega) (by omega), rn 0 15 (by omega) (by omega), rn 0 16 (by omega) (by omega), rn 0 17 (by omega) (by omega)]
        · rw [if_neg k0, if_neg k0]
          by_cases k3 : k = 3
          · rw [if_pos k3, if_pos k3, rn 8 j (by omega) (by omega)]
          · rw [if_neg k3, if_neg k3]
            by_cases k4 : k = 4
            · rw [if_pos k4, if_pos k4, rn 8 _ (by omega) (by omega)]
            · rw [if_neg k4, if_neg k4]
              exact rn k j (by omega) (by omega)
  · exact SRel_fr (fun k j h => cn k j (by omega) (by omega)) (fun k j h => rn k j (by omega) (by omega)) hSh
  · rw [ms_at rfl rfl]
  · rw [ms_at rfl rfl]
  · refine ⟨?_, fun j hj => by rw [ms_off (by omega), ms_off (by omega)]; exact d5 j hj⟩
    intro j hj
    by_cases c : j = n
    · refine ⟨b, hb, ?_, ?_⟩
      · rw [ms_off (by omega), ms_at rfl c]
      · rw [ms_off (by omega), ms_at rfl c]
    · obtain ⟨b', q1, q2, q3⟩ := d4 j (by omega)
      refine ⟨b', q1, ?_, ?_⟩
      · rw [ms_off (by omega), ms_off (by omega)]; exact q2
      · rw [ms_off (by omega), ms_off (by omega)]; exact q3
  · exact cn _ _ (by omega) (by omega)
  · unfold f_X2_add
    simp (disch := omega) only [d2, ↓reduceIte, eq_self, Bool.false_eq_true, reduceCtorEq, ob_s, ob2_s, od_e, onl_n, onl_s, ι_nat, ι_add, ι_mul, ι_sub, ι_addm, lt_t, lt_f, le_t, le_f, eq_t, eq_f, inb_t, inb_f, neq_f, neq_f2, neq_nf, nlt_t, nlt_f, nle_t, nle_f, ms_at, ms_off, up_at, up_off, L0, L1, L2, L3, L4, L5, L6, L7, L8, L9, L10, L11, L12, L13, L14, L15, L16, L17, L18, L19, L20, L21, L22, L23, L24, L30, L31, L32, L40, L41, L42, L43, L45, L47, L48, L52, L57, L59, L60, L61, L63, L64, L72, L97, L99, L100, L122, L160, L161, L200, L255, L999, L1200, L1998, L99999, L100000, L1000005]
theorem r_feed_step {v2 v3 v4 v5 v6 : Int32} {nn k t m : Nat} {τ : Mem} (hk : k < nn) (hn : nn ≤ 5) (ht : τ 0 8 = ι t) (h160 : t < 160) : f_X9_feed_b68 (ι nn) v2 v3 v4 v5 v6 (m + 1) τ (ι k) = f_X9_feed_b68 (ι nn) v2 v3 v4 v5 v6 m (ms (ms τ 5 t (if k = 0 then v2 else if k = 1 then v3 else if k = 2 then v4 else if k = 3 then v5 else v6)) 0 8 (ι (t + 1))) (ι (k + 1)) := by
  have h5 : k = 0 ∨ k = 1 ∨ k = 2 ∨ k = 3 ∨ k = 4 := by omega
  rw [f_X9_feed_b68]
  unfold f_X9_feed_b125
  rcases h5 with h | h | h | h | h <;> subst h <;> (simp (disch := omega) only [ht, ↓reduceIte, eq_self, Bool.false_eq_true, reduceCtorEq, ob_s, ob2_s, od_e, onl_n, onl_s, ι_nat, ι_add, ι_mul, ι_sub, ι_addm, lt_t, lt_f, le_t, le_f, eq_t, eq_f, inb_t, inb_f, neq_f, neq_f2, neq_nf, nlt_t, nlt_f, nle_t, nle_f, ms_at, ms_off, up_at, up_off, L0, L1, L2, L3, L4, L5, L6, L7, L8, L9, L10, L11, L12, L13, L14, L15, L16, L17, L18, L19, L20, L21, L22, L23, L24, L30, L31, L32, L40, L41, L42, L43, L45, L47, L48, L52, L57, L59, L60, L61, L63, L64, L72, L97, L99, L100, L122, L160, L161, L200, L255, L999, L1200, L1998, L99999, L100000, L1000005] <;> rfl)
theorem r_feed_end {v2 v3 v4 v5 v6 : Int32} {nn m : Nat} {τ : Mem} (hn : nn ≤ 5) : f_X9_feed_b68 (ι nn) v2 v3 v4 v5 v6 (m + 1) τ (ι nn) = some (τ 0 8, τ) := by
  rw [f_X9_feed_b68, if_pos (by rw [le_t (by omega) (by omega)]; trivial)]
theorem byte_c {b : Nat} (h : b ≤ 255) : f_X8_isByte (ι b) = ι 1 ∧ f_X9_isByte (ι b) = ι 1 := by
  constructor
  · unfold f_X8_isByte
    simp (disch := omega) only [↓reduceIte, eq_self, Bool.false_eq_true, reduceCtorEq, ob_s, ob2_s, od_e, onl_n, onl_s, ι_nat, ι_add, ι_mul, ι_sub, ι_addm, lt_t, lt_f, le_t, le_f, eq_t, eq_f, inb_t, inb_f, neq_f, neq_f2, neq_nf, nlt_t, nlt_f, nle_t, nle_f, ms_at, ms_off, up_at, up_off, L0, L1, L2, L3, L4, L5, L6, L7, L8, L9, L10, L11, L12, L13, L14, L15, L16, L17, L18, L19, L20, L21, L22, L23, L24, L30, L31, L32, L40, L41, L42, L43, L45, L47, L48, L52, L57, L59, L60, L61, L63, L64, L72, L97, L99, L100, L122, L160, L161, L200, L255, L999, L1200, L1998, L99999, L100000, L1000005]
  · unfold f_X9_isByte
    rw [show (0 : Int32) = ι 0 from rfl, show (255 : Int32) = ι 255 from rfl]
    exact r_in (by omega) (by omega) (by omega)
theorem byte_n {x : Int32} (h : outN 256 x) : f_X8_isByte x = ι 0 ∧ f_X9_isByte x = ι 0 := by
  constructor
  · unfold f_X8_isByte
    rcases h with g | ⟨k, k1, k2, rfl⟩
    · simp (disch := omega) only [ng_lt g, ng_le g, ng_gt g, ng_ge g, ng_eq g, ng_eq2 g, ng_inb g, ↓reduceIte, eq_self, Bool.false_eq_true, reduceCtorEq, ob_s, ob2_s, od_e, onl_n, onl_s, ι_nat, ι_add, ι_mul, ι_sub, ι_addm, lt_t, lt_f, le_t, le_f, eq_t, eq_f, inb_t, inb_f, neq_f, neq_f2, neq_nf, nlt_t, nlt_f, nle_t, nle_f, ms_at, ms_off, up_at, up_off, L0, L1, L2, L3, L4, L5, L6, L7, L8, L9, L10, L11, L12, L13, L14, L15, L16, L17, L18, L19, L20, L21, L22, L23, L24, L30, L31, L32, L40, L41, L42, L43, L45, L47, L48, L52, L57, L59, L60, L61, L63, L64, L72, L97, L99, L100, L122, L160, L161, L200, L255, L999, L1200, L1998, L99999, L100000, L1000005]
    · simp (disch := omega) only [↓reduceIte, eq_self, Bool.false_eq_true, reduceCtorEq, ob_s, ob2_s, od_e, onl_n, onl_s, ι_nat, ι_add, ι_mul, ι_sub, ι_addm, lt_t, lt_f, le_t, le_f, eq_t, eq_f, inb_t, inb_f, neq_f, neq_f2, neq_nf, nlt_t, nlt_f, nle_t, nle_f, ms_at, ms_off, up_at, up_off, L0, L1, L2, L3, L4, L5, L6, L7, L8, L9, L10, L11, L12, L13, L14, L15, L16, L17, L18, L19, L20, L21, L22, L23, L24, L30, L31, L32, L40, L41, L42, L43, L45, L47, L48, L52, L57, L59, L60, L61, L63, L64, L72, L97, L99, L100, L122, L160, L161, L200, L255, L999, L1200, L1998, L99999, L100000, L1000005]
  · unfold f_X9_isByte
    rw [show (0 : Int32) = ι 0 from rfl, show (255 : Int32) = ι 255 from rfl]
    exact outN_in (n := 255) (by omega) h
theorem op_feed : OP_feed RR := by
  intro σ τ v1 v2 v3 v4 v5 v6 hR
  have hD := hR
  obtain ⟨M, V, w, y, A, B, T, X, -, -, -, -, -, -, -, -, -, -, -, -, t, d1, d2, d3, -⟩ := hD
  by_cases hn1 : ∃ nn, 1 ≤ nn ∧ nn ≤ 5 ∧ v1 = ι nn
  · obtain ⟨nn, n1, n5, rfl⟩ := hn1
    have e1 : f_X9_in (ι nn) 1 5 = ι 1 := by rw [L1, L5]; exact r_in (by omega) (by omega) (by omega)
    rcases argN 256 v2 with ⟨x2, p2, -, rfl⟩ | g2
    · rcases argN 256 v3 with ⟨x3, p3, -, rfl⟩ | g3
      · rcases argN 256 v4 with ⟨x4, p4, -, rfl⟩ | g4
        · rcases argN 256 v5 with ⟨x5, p5, -, rfl⟩ | g5
          · rcases argN 256 v6 with ⟨x6, p6, -, rfl⟩ | g6
            · obtain ⟨c2, r2⟩ := byte_c (show x2 ≤ 255 by omega)
              obtain ⟨c3, r3⟩ := byte_c (show x3 ≤ 255 by omega)
              obtain ⟨c4, r4⟩ := byte_c (show x4 ≤ 255 by omega)
              obtain ⟨c5, r5⟩ := byte_c (show x5 ≤ 255 by omega)
              obtain ⟨c6, r6⟩ := byte_c (show x6 ≤ 255 by omega)
              by_cases hf : t + nn ≤ 160
              · have hfu : FU = 99994 + 1 + 1 + 1 + 1 + 1 + 1 := rfl
                obtain ⟨k1, k2, k3, k4⟩ := feed_step hR d2 (by omega) (show x2 ≤ 255 by omega)
                have q1 := r_feed_step (v2 := ι x2) (v3 := ι x3) (v4 := ι x4) (v5 := ι x5) (v6 := ι x6) (nn := nn) (k := 0) (m := 99994 + 1 + 1 + 1 + 1 + 1) (by omega) n5 k4 (by omega)
                rw [if_pos rfl] at q1
                have s1 : (ms (ms σ 10 t (ι x2)) 9 1 (ι (t + 1))) 9 1 = ι (t + 1) := ms_at rfl rfl
                have hcl : f_X8_feed σ (ι nn) (ι x2) (ι x3) (ι x4) (ι x5) (ι x6) = (if ι nn ≤ (1 : Int32) then (f_X8_feed_b90 (ms (ms σ 10 t (ι x2)) 9 1 (ι (t + 1))) (ι nn) (ι x4) (ι x5) (ι x6)) else (ob (f_X2_add (ms (ms σ 10 t (ι x2)) 9 1 (ι (t + 1))) (ι x3)) (fun σ13 => (f_X8_feed_b90 σ13 (ι nn) (ι x4) (ι x5) (ι x6))))) := by
                  unfold f_X8_feed
                  rw [L1, if_neg (by rw [lt_f (by omega) (by omega)]; exact id), L5, if_neg (by rw [lt_f (by omega) (by omega)]; exact id), c2, c3, c4, c5, c6, if_neg (by decide), if_neg (by decide), if_neg (by decide), if_neg (by decide), if_neg (by decide), d2, ι_add, L160, if_pos (by rw [le_t (by omega) (by omega)]; trivial), k3, ob_s]
                have hrf : f_X9_feed τ (ι nn) (ι x2) (ι x3) (ι x4) (ι x5) (ι x6) = f_X9_feed_b68 (ι nn) (ι x2) (ι x3) (ι x4) (ι x5) (ι x6) FU τ (ι 0) := by
                  unfold f_X9_feed
                  rw [e1, if_neg (by decide), r2, r3, r4, r5, r6, if_neg (by decide), if_neg (by decide), if_neg (by decide), if_neg (by decide), if_neg (by decide), d3, ι_add, L160, if_pos (by rw [le_t (by omega) (by omega)]; trivial), L0]
                rw [hfu, q1] at hrf
                by_cases n1' : nn = 1
                · subst n1'
                  rw [r_feed_end (by omega), ms_at rfl rfl] at hrf
                  rw [L1, if_pos (by rw [le_t (by omega) (by omega)]; trivial)] at hcl
                  unfold f_X8_feed_b90 f_X8_feed_b104 f_X8_feed_b118 at hcl
                  rw [L2, L3, L4, if_pos (by rw [le_t (by omega) (by omega)]; trivial), if_pos (by rw [le_t (by omega) (by omega)]; trivial), if_pos (by rw [le_t (by omega) (by omega)]; trivial), s1] at hcl
                  exact ⟨_, _, _, hcl, hrf, k1, k2⟩
                · obtain ⟨k1', k2', k3', k4'⟩ := feed_step k1 s1 (by omega) (show x3 ≤ 255 by omega)
                  have q2 := r_feed_step (v2 := ι x2) (v3 := ι x3) (v4 := ι x4) (v5 := ι x5) (v6 := ι x6) (nn := nn) (k := 1) (m := 99994 + 1 + 1 + 1 + 1) (by omega) n5 k4' (by omega)
                  rw [if_neg (by decide), if_pos rfl] at q2
                  rw [q2] at hrf
                  rw [L1, if_neg (by rw [le_f (by omega) (by omega)]; exact id), k3', ob_s] at hcl
                  have s2 : (ms (ms (ms (ms σ 10 t (ι x2)) 9 1 (ι (t + 1))) 10 (t + 1) (ι x3)) 9 1 (ι (t + 1 + 1))) 9 1 = ι (t + 1 + 1) := ms_at rfl rfl
                  by_cases n2' : nn = 2
                  · subst n2'
                    rw [r_feed_end (by omega), ms_at rfl rfl] at hrf
                    unfold f_X8_feed_b90 f_X8_feed_b104 f_X8_feed_b118 at hcl
                    rw [L2, L3, L4, if_pos (by rw [le_t (by omega) (by omega)]; trivial), if_pos (by rw [le_t (by omega) (by omega)]; trivial), if_pos (by rw [le_t (by omega) (by omega)]; trivial), s2] at hcl
                    exact ⟨_, _, _, hcl, hrf, k1', k2'.trans k2⟩
                  · obtain ⟨k1'', k2'', k3'', k4''⟩ := feed_step k1' s2 (by omega) (show x4 ≤ 255 by omega)
                    have q3 := r_feed_step (v2 := ι x2) (v3 := ι x3) (v4 := ι x4) (v5 := ι x5) (v6 := ι x6) (nn := nn) (k := 2) (m := 99994 + 1 + 1 + 1) (by omega) n5 k4'' (by omega)
                    rw [if_neg (by decide), if_neg (by decide), if_pos rfl] at q3
                    rw [q3] at hrf
                    unfold f_X8_feed_b90 at hcl
                    rw [L2, if_neg (by rw [le_f (by omega) (by omega)]; exact id), k3'', ob_s] at hcl
                    have s3 : (ms (ms (ms (ms (ms (ms σ 10 t (ι x2)) 9 1 (ι (t + 1))) 10 (t + 1) (ι x3)) 9 1 (ι (t + 1 + 1))) 10 (t + 1 + 1) (ι x4)) 9 1 (ι (t + 1 + 1 + 1))) 9 1 = ι (t + 1 + 1 + 1) := ms_at rfl rfl
                    by_cases n3' : nn = 3
                    · subst n3'
                      rw [r_feed_end (by omega), ms_at rfl rfl] at hrf
                      unfold f_X8_feed_b104 f_X8_feed_b118 at hcl
                      rw [L3, L4, if_pos (by rw [le_t (by omega) (by omega)]; trivial), if_pos (by rw [le_t (by omega) (by omega)]; trivial), s3] at hcl
                      exact ⟨_, _, _, hcl, hrf, k1'', k2''.trans (k2'.trans k2)⟩
                    · obtain ⟨j1, j2, j3, j4⟩ := feed_step k1'' s3 (by omega) (show x5 ≤ 255 by omega)
                      have q4 := r_feed_step (v2 := ι x2) (v3 := ι x3) (v4 := ι x4) (v5 := ι x5) (v6 := ι x6) (nn := nn) (k := 3) (m := 99994 + 1 + 1) (by omega) n5 j4 (by omega)
                      rw [if_neg (by decide), if_neg (by decide), if_neg (by decide), if_pos rfl] at q4
                      rw [q4] at hrf
                      unfold f_X8_feed_b104 at hcl
                      rw [L3, if_neg (by rw [le_f (by omega) (by omega)]; exact id), j3, ob_s] at hcl
                      have s4 : (ms (ms (ms (ms (ms (ms (ms (ms σ 10 t (ι x2)) 9 1 (ι (t + 1))) 10 (t + 1) (ι x3)) 9 1 (ι (t + 1 + 1))) 10 (t + 1 + 1) (ι x4)) 9 1 (ι (t + 1 + 1 + 1))) 10 (t + 1 + 1 + 1) (ι x5)) 9 1 (ι (t + 1 + 1 + 1 + 1))) 9 1 = ι (t + 1 + 1 + 1 + 1) := ms_at rfl rfl
                      by_cases n4' : nn = 4
                      · subst n4'
                        rw [r_feed_end (by omega), ms_at rfl rfl] at hrf
                        unfold f_X8_feed_b118 at hcl
                        rw [L4, if_pos (by rw [le_t (by omega) (by omega)]; trivial), s4] at hcl
                        exact ⟨_, _, _, hcl, hrf, j1, j2.trans (k2''.trans (k2'.trans k2))⟩
                      · have n5' : nn = 5 := by omega
                        subst n5'
                        obtain ⟨l1, l2, l3, l4⟩ := feed_step j1 s4 (by omega) (show x6 ≤ 255 by omega)
                        have q5 := r_feed_step (v2 := ι x2) (v3 := ι x3) (v4 := ι x4) (v5 := ι x5) (v6 := ι x6) (nn := 5) (k := 4) (m := 99994 + 1) (by omega) n5 l4 (by omega)
                        rw [if_neg (by decide), if_neg (by decide), if_neg (by decide), if_neg (by decide)] at q5
                        rw [q5, r_feed_end (by omega), ms_at rfl rfl] at hrf
                        unfold f_X8_feed_b118 at hcl
                        rw [L4, if_neg (by rw [le_f (by omega) (by omega)]; exact id), l3, ob_s, ms_at rfl rfl] at hcl
                        exact ⟨_, _, _, hcl, hrf, l1, l2.trans (j2.trans (k2''.trans (k2'.trans k2)))⟩
              · refine ⟨-ι 4, σ, τ, ?_, ?_, hR, rfl⟩
                · unfold f_X8_feed
                  rw [L1, if_neg (by rw [lt_f (by omega) (by omega)]; exact id), L5, if_neg (by rw [lt_f (by omega) (by omega)]; exact id), c2, c3, c4, c5, c6, if_neg (by decide), if_neg (by decide), if_neg (by decide), if_neg (by decide), if_neg (by decide), d2, ι_add, L160, if_neg (by rw [le_f (by omega) (by omega)]; exact id)]
                  rfl
                · unfold f_X9_feed
                  rw [e1, if_neg (by decide), r2, r3, r4, r5, r6, if_neg (by decide), if_neg (by decide), if_neg (by decide), if_neg (by decide), if_neg (by decide), d3, ι_add, L160, if_neg (by rw [le_f (by omega) (by omega)]; exact id)]
                  rfl
            · refine ⟨-ι 2, σ, τ, ?_, ?_, hR, rfl⟩
              · unfold f_X8_feed
                simp (disch := omega) only [(byte_c (show x2 ≤ 255 by omega)).1, (byte_c (show x3 ≤ 255 by omega)).1, (byte_c (show x4 ≤ 255 by omega)).1, (byte_c (show x5 ≤ 255 by omega)).1, (byte_n g6).1, ↓reduceIte, eq_self, Bool.false_eq_true, reduceCtorEq, ob_s, ob2_s, od_e, onl_n, onl_s, ι_nat, ι_add, ι_mul, ι_sub, ι_addm, lt_t, lt_f, le_t, le_f, eq_t, eq_f, inb_t, inb_f, neq_f, neq_f2, neq_nf, nlt_t, nlt_f, nle_t, nle_f, ms_at, ms_off, up_at, up_off, L0, L1, L2, L3, L4, L5, L6, L7, L8, L9, L10, L11, L12, L13, L14, L15, L16, L17, L18, L19, L20, L21, L22, L23, L24, L30, L31, L32, L40, L41, L42, L43, L45, L47, L48, L52, L57, L59, L60, L61, L63, L64, L72, L97, L99, L100, L122, L160, L161, L200, L255, L999, L1200, L1998, L99999, L100000, L1000005]
              · unfold f_X9_feed
                simp (disch := omega) only [e1, r_in, (byte_c (show x2 ≤ 255 by omega)).2, (byte_c (show x3 ≤ 255 by omega)).2, (byte_c (show x4 ≤ 255 by omega)).2, (byte_c (show x5 ≤ 255 by omega)).2, (byte_n g6).2, ↓reduceIte, eq_self, Bool.false_eq_true, reduceCtorEq, ob_s, ob2_s, od_e, onl_n, onl_s, ι_nat, ι_add, ι_mul, ι_sub, ι_addm, lt_t, lt_f, le_t, le_f, eq_t, eq_f, inb_t, inb_f, neq_f, neq_f2, neq_nf, nlt_t, nlt_f, nle_t, nle_f, ms_at, ms_off, up_at, up_off, L0, L1, L2, L3, L4, L5, L6, L7, L8, L9, L10, L11, L12, L13, L14, L15, L16, L17, L18, L19, L20, L21, L22, L23, L24, L30, L31, L32, L40, L41, L42, L43, L45, L47, L48, L52, L57, L59, L60, L61, L63, L64, L72, L97, L99, L100, L122, L160, L161, L200, L255, L999, L1200, L1998, L99999, L100000, L1000005]
          · refine ⟨-ι 2, σ, τ, ?_, ?_, hR, rfl⟩
            · unfold f_X8_feed
              simp (disch := omega) only [(byte_c (show x2 ≤ 255 by omega)).1, (byte_c (show x3 ≤ 255 by omega)).1, (byte_c (show x4 ≤ 255 by omega)).1, (byte_n g5).1, ↓reduceIte, eq_self, Bool.false_eq_true, reduceCtorEq, ob_s, ob2_s, od_e, onl_n, onl_s, ι_nat, ι_add, ι_mul, ι_sub, ι_addm, lt_t, lt_f, le_t, le_f, eq_t, eq_f, inb_t, inb_f, neq_f, neq_f2, neq_nf, nlt_t, nlt_f, nle_t, nle_f, ms_at, ms_off, up_at, up_off, L0, L1, L2, L3, L4, L5, L6, L7, L8, L9, L10, L11, L12, L13, L14, L15, L16, L17, L18, L19, L20, L21, L22, L23, L24, L30, L31, L32, L40, L41, L42, L43, L45, L47, L48, L52, L57, L59, L60, L61, L63, L64, L72, L97, L99, L100, L122, L160, L161, L200, L255, L999, L1200, L1998, L99999, L100000, L1000005]
            · unfold f_X9_feed
              simp (disch := omega) only [e1, r_in, (byte_c (show x2 ≤ 255 by omega)).2, (byte_c (show x3 ≤ 255 by omega)).2, (byte_c (show x4 ≤ 255 by omega)).2, (byte_n g5).2, ↓reduceIte, eq_self, Bool.false_eq_true, reduceCtorEq, ob_s, ob2_s, od_e, onl_n, onl_s, ι_nat, ι_add, ι_mul, ι_sub, ι_addm, lt_t, lt_f, le_t, le_f, eq_t, eq_f, inb_t, inb_f, neq_f, neq_f2, neq_nf, nlt_t, nlt_f, nle_t, nle_f, ms_at, ms_off, up_at, up_off, L0, L1, L2, L3, L4, L5, L6, L7, L8, L9, L10, L11, L12, L13, L14, L15, L16, L17, L18, L19, L20, L21, L22, L23, L24, L30, L31, L32, L40, L41, L42, L43, L45, L47, L48, L52, L57, L59, L60, L61, L63, L64, L72, L97, L99, L100, L122, L160, L161, L200, L255, L999, L1200, L1998, L99999, L100000, L1000005]
        · refine ⟨-ι 2, σ, τ, ?_, ?_, hR, rfl⟩
          · unfold f_X8_feed
            simp (disch := omega) only [(byte_c (show x2 ≤ 255 by omega)).1, (byte_c (show x3 ≤ 255 by omega)).1, (byte_n g4).1, ↓reduceIte, eq_self, Bool.false_eq_true, reduceCtorEq, ob_s, ob2_s, od_e, onl_n, onl_s, ι_nat, ι_add, ι_mul, ι_sub, ι_addm, lt_t, lt_f, le_t, le_f, eq_t, eq_f, inb_t, inb_f, neq_f, neq_f2, neq_nf, nlt_t, nlt_f, nle_t, nle_f, ms_at, ms_off, up_at, up_off, L0, L1, L2, L3, L4, L5, L6, L7, L8, L9, L10, L11, L12, L13, L14, L15, L16, L17, L18, L19, L20, L21, L22, L23, L24, L30, L31, L32, L40, L41, L42, L43, L45, L47, L48, L52, L57, L59, L60, L61, L63, L64, L72, L97, L99, L100, L122, L160, L161, L200, L255, L999, L1200, L1998, L99999, L100000, L1000005]
          · unfold f_X9_feed
            simp (disch := omega) only [e1, r_in, (byte_c (show x2 ≤ 255 by omega)).2, (byte_c (show x3 ≤ 255 by omega)).2, (byte_n g4).2, ↓reduceIte, eq_self, Bool.false_eq_true, reduceCtorEq, ob_s, ob2_s, od_e, onl_n, onl_s, ι_nat, ι_add, ι_mul, ι_sub, ι_addm, lt_t, lt_f, le_t, le_f, eq_t, eq_f, inb_t, inb_f, neq_f, neq_f2, neq_nf, nlt_t, nlt_f, nle_t, nle_f, ms_at, ms_off, up_at, up_off, L0, L1, L2, L3, L4, L5, L6, L7, L8, L9, L10, L11, L12, L13, L14, L15, L16, L17, L18, L19, L20, L21, L22, L23, L24, L30, L31, L32, L40, L41, L42, L43, L45, L47, L48, L52, L57, L59, L60, L61, L63, L64, L72, L97, L99, L100, L122, L160, L161, L200, L255, L999, L1200, L1998, L99999, L100000, L1000005]
      · refine ⟨-ι 2, σ, τ, ?_, ?_, hR, rfl⟩
        · unfold f_X8_feed
          simp (disch := omega) only [(byte_c (show x2 ≤ 255 by omega)).1, (byte_n g3).1, ↓reduceIte, eq_self, Bool.false_eq_true, reduceCtorEq, ob_s, ob2_s, od_e, onl_n, onl_s, ι_nat, ι_add, ι_mul, ι_sub, ι_addm, lt_t, lt_f, le_t, le_f, eq_t, eq_f, inb_t, inb_f, neq_f, neq_f2, neq_nf, nlt_t, nlt_f, nle_t, nle_f, ms_at, ms_off, up_at, up_off, L0, L1, L2, L3, L4, L5, L6, L7, L8, L9, L10, L11, L12, L13, L14, L15, L16, L17, L18, L19, L20, L21, L22, L23, L24, L30, L31, L32, L40, L41, L42, L43, L45, L47, L48, L52, L57, L59, L60, L61, L63, L64, L72, L97, L99, L100, L122, L160, L161, L200, L255, L999, L1200, L1998, L99999, L100000, L1000005]
        · unfold f_X9_feed
          simp (disch := omega) only [e1, r_in, (byte_c (show x2 ≤ 255 by omega)).2, (byte_n g3).2, ↓reduceIte, eq_self, Bool.false_eq_true, reduceCtorEq, ob_s, ob2_s, od_e, onl_n, onl_s, ι_nat, ι_add, ι_mul, ι_sub, ι_addm, lt_t, lt_f, le_t, le_f, eq_t, eq_f, inb_t, inb_f, neq_f, neq_f2, neq_nf, nlt_t, nlt_f, nle_t, nle_f, ms_at, ms_off, up_at, up_off, L0, L1, L2, L3, L4, L5, L6, L7, L8, L9, L10, L11, L12, L13, L14, L15, L16, L17, L18, L19, L20, L21, L22, L23, L24, L30, L31, L32, L40, L41, L42, L43, L45, L47, L48, L52, L57, L59, L60, L61, L63, L64, L72, L97, L99, L100, L122, L160, L161, L200, L255, L999, L1200, L1998, L99999, L100000, L1000005]
    · refine ⟨-ι 2, σ, τ, ?_, ?_, hR, rfl⟩
      · unfold f_X8_feed
        simp (disch := omega) only [(byte_n g2).1, ↓reduceIte, eq_self, Bool.false_eq_true, reduceCtorEq, ob_s, ob2_s, od_e, onl_n, onl_s, ι_nat, ι_add, ι_mul, ι_sub, ι_addm, lt_t, lt_f, le_t, le_f, eq_t, eq_f, inb_t, inb_f, neq_f, neq_f2, neq_nf, nlt_t, nlt_f, nle_t, nle_f, ms_at, ms_off, up_at, up_off, L0, L1, L2, L3, L4, L5, L6, L7, L8, L9, L10, L11, L12, L13, L14, L15, L16, L17, L18, L19, L20, L21, L22, L23, L24, L30, L31, L32, L40, L41, L42, L43, L45, L47, L48, L52, L57, L59, L60, L61, L63, L64, L72, L97, L99, L100, L122, L160, L161, L200, L255, L999, L1200, L1998, L99999, L100000, L1000005]
      · unfold f_X9_feed
        simp (disch := omega) only [e1, r_in, (byte_n g2).2, ↓reduceIte, eq_self, Bool.false_eq_true, reduceCtorEq, ob_s, ob2_s, od_e, onl_n, onl_s, ι_nat, ι_add, ι_mul, ι_sub, ι_addm, lt_t, lt_f, le_t, le_f, eq_t, eq_f, inb_t, inb_f, neq_f, neq_f2, neq_nf, nlt_t, nlt_f, nle_t, nle_f, ms_at, ms_off, up_at, up_off, L0, L1, L2, L3, L4, L5, L6, L7, L8, L9, L10, L11, L12, L13, L14, L15, L16, L17, L18, L19, L20, L21, L22, L23, L24, L30, L31, L32, L40, L41, L42, L43, L45, L47, L48, L52, L57, L59, L60, L61, L63, L64, L72, L97, L99, L100, L122, L160, L161, L200, L255, L999, L1200, L1998, L99999, L100000, L1000005]
  · have hb : ng v1 ∨ ∃ k, v1 = ι k ∧ k < 2147483648 ∧ (k < 1 ∨ 5 < k) := by
      rcases arg v1 with ⟨k, k1, rfl⟩ | ⟨k, k1, k2, k3⟩
      · refine Or.inr ⟨k, rfl, k1, ?_⟩
        by_cases c : 1 ≤ k ∧ k ≤ 5
        · exact absurd ⟨k, c.1, c.2, rfl⟩ hn1
        · omega
      · exact Or.inl (by unfold ng; omega)
    refine ⟨-ι 2, σ, τ, ?_, ?_, hR, rfl⟩
    · unfold f_X8_feed
      rcases hb with g | ⟨k, rfl, k2, k3⟩
      · simp (disch := omega) only [ng_lt g, ng_le g, ng_gt g, ng_ge g, ng_eq g, ng_eq2 g, ng_inb g, ↓reduceIte, eq_self, Bool.false_eq_true, reduceCtorEq, ob_s, ob2_s, od_e, onl_n, onl_s, ι_nat, ι_add, ι_mul, ι_sub, ι_addm, lt_t, lt_f, le_t, le_f, eq_t, eq_f, inb_t, inb_f, neq_f, neq_f2, neq_nf, nlt_t, nlt_f, nle_t, nle_f, ms_at, ms_off, up_at, up_off, L0, L1, L2, L3, L4, L5, L6, L7, L8, L9, L10, L11, L12, L13, L14, L15, L16, L17, L18, L19, L20, L21, L22, L23, L24, L30, L31, L32, L40, L41, L42, L43, L45, L47, L48, L52, L57, L59, L60, L61, L63, L64, L72, L97, L99, L100, L122, L160, L161, L200, L255, L999, L1200, L1998, L99999, L100000, L1000005]
      · by_cases c : k < 1
        · simp (disch := omega) only [↓reduceIte, eq_self, Bool.false_eq_true, reduceCtorEq, ob_s, ob2_s, od_e, onl_n, onl_s, ι_nat, ι_add, ι_mul, ι_sub, ι_addm, lt_t, lt_f, le_t, le_f, eq_t, eq_f, inb_t, inb_f, neq_f, neq_f2, neq_nf, nlt_t, nlt_f, nle_t, nle_f, ms_at, ms_off, up_at, up_off, L0, L1, L2, L3, L4, L5, L6, L7, L8, L9, L10, L11, L12, L13, L14, L15, L16, L17, L18, L19, L20, L21, L22, L23, L24, L30, L31, L32, L40, L41, L42, L43, L45, L47, L48, L52, L57, L59, L60, L61, L63, L64, L72, L97, L99, L100, L122, L160, L161, L200, L255, L999, L1200, L1998, L99999, L100000, L1000005]
        · simp (disch := omega) only [↓reduceIte, eq_self, Bool.false_eq_true, reduceCtorEq, ob_s, ob2_s, od_e, onl_n, onl_s, ι_nat, ι_add, ι_mul, ι_sub, ι_addm, lt_t, lt_f, le_t, le_f, eq_t, eq_f, inb_t, inb_f, neq_f, neq_f2, neq_nf, nlt_t, nlt_f, nle_t, nle_f, ms_at, ms_off, up_at, up_off, L0, L1, L2, L3, L4, L5, L6, L7, L8, L9, L10, L11, L12, L13, L14, L15, L16, L17, L18, L19, L20, L21, L22, L23, L24, L30, L31, L32, L40, L41, L42, L43, L45, L47, L48, L52, L57, L59, L60, L61, L63, L64, L72, L97, L99, L100, L122, L160, L161, L200, L255, L999, L1200, L1998, L99999, L100000, L1000005]
    · unfold f_X9_feed
      simp (disch := omega) only [r_inNo hb (by omega) (by omega), ↓reduceIte, eq_self, Bool.false_eq_true, reduceCtorEq, ob_s, ob2_s, od_e, onl_n, onl_s, ι_nat, ι_add, ι_mul, ι_sub, ι_addm, lt_t, lt_f, le_t, le_f, eq_t, eq_f, inb_t, inb_f, neq_f, neq_f2, neq_nf, nlt_t, nlt_f, nle_t, nle_f, ms_at, ms_off, up_at, up_off, L0, L1, L2, L3, L4, L5, L6, L7, L8, L9, L10, L11, L12, L13, L14, L15, L16, L17, L18, L19, L20, L21, L22, L23, L24, L30, L31, L32, L40, L41, L42, L43, L45, L47, L48, L52, L57, L59, L60, L61, L63, L64, L72, L97, L99, L100, L122, L160, L161, L200, L255, L999, L1200, L1998, L99999, L100000, L1000005]
