/-! THE PURE PART: seasons by lots -/
def ℓ (n : Nat) : Int64 := Int64.ofNat n
theorem ℓ_int {n : Nat} (h : n < 9223372036854775808) : (ℓ n).toInt = (n : Int) := by
  have e9 : Int64.size = 18446744073709551616 := rfl
  show (Int64.ofNat n).toInt = (n : Int)
  rw [Int64.toInt_ofNat', e9, Int.bmod_def]
  split <;> omega
theorem ℓ_mul (a b : Nat) : ℓ a * ℓ b = ℓ (a * b) := (Int64.ofNat_mul a b).symm
theorem ℓ_add (a b : Nat) : ℓ a + ℓ b = ℓ (a + b) := (Int64.ofNat_add a b).symm
theorem ℓ_lrm {a b : Nat} (h : 0 < b) (ha : a < 9223372036854775808) (hb : b < 9223372036854775808) : lrm (ℓ a) (ℓ b) = ℓ (a % b) := by
  refine Int64.toInt_inj.mp ?_
  have e : a / b ≤ a := Nat.div_le_self a b
  have e2 : ((a : Int).tdiv (b : Int)) = ((a / b : Nat) : Int) := by
    rw [Int.tdiv_eq_ediv_of_nonneg (by omega)]
    rfl
  have e3 : (ℓ a / ℓ b) = ℓ (a / b) := by
    refine Int64.toInt_inj.mp ?_
    rw [Int64.toInt_div, ℓ_int ha, ℓ_int hb, ℓ_int (by omega), e2, Int.bmod_def]
    have e3 : ((a / b : Nat) : Int) ≤ (a : Int) := Int.ofNat_le.mpr e
    have e4 : (0 : Int) ≤ ((a / b : Nat) : Int) := Int.natCast_nonneg _
    generalize ((a / b : Nat) : Int) = q at e3 e4 ⊢
    split <;> omega
  have e5 := Nat.div_mul_le_self a b
  have e6 := Nat.div_add_mod a b
  rw [Nat.mul_comm] at e6
  have e7 : a % b < b := Nat.mod_lt _ h
  unfold lrm
  rw [e3, ℓ_mul, Int64.toInt_sub, ℓ_int ha, ℓ_int (by omega), ℓ_int (by omega)]
  generalize a / b * b = q at e5 e6 ⊢
  generalize a % b = r at e6 e7 ⊢
  rw [Int.bmod_def]
  split <;> omega
theorem ℓ_32 (n : Nat) : (ℓ n).toInt32 = ι n := Int64.toInt32_ofNat'
theorem ι_64 {n : Nat} (h : n < 2147483648) : (ι n).toInt64 = ℓ n := by
  refine Int64.toInt_inj.mp ?_
  rw [Int32.toInt_toInt64, ι_int h, ℓ_int (by omega)]
def oilD : Nat → Nat → Nat → TB2 → Nat × TB2
  | 0, _, l, A => (l, A)
  | d + 1, i, l, A => oilD d (i + 1) (l * 48271 % 2147483647) (up A i 3 (l * 48271 % 2147483647 % 10))
theorem oilD_ok {M : Nat} : ∀ d i l (A : TB2), l < 2147483647 → OKA M A → (oilD d i l A).1 < 2147483647 ∧ OKA M (oilD d i l A).2 := by
  intro d
  induction d with
  | zero =>
    intro i l A h1 h2
    exact ⟨h1, h2⟩
  | succ d ih =>
    intro i l A h1 h2
    refine ih (i + 1) _ _ (Nat.mod_lt _ (by decide)) ?_
    intro u hu
    have := h2 u hu
    have h10 : l * 48271 % 2147483647 % 10 < 10 := Nat.mod_lt _ (by decide)
    by_cases c : u = i
    · subst c
      simp (disch := omega) only [up_at, up_off]
      omega
    · simp (disch := omega) only [up_off]
      exact this
def lotsD (X : XT) (y M V : Nat) : Nat → Nat → Nat → Nat → DS → DS
  | 0, _, _, _, s => s
  | d + 1, t, w, l, s => lotsD X y M V d (t + 1) (w + 1) (oilD M 0 l s.1).1 (weekD X y M V w t ((oilD M 0 l s.1).2, s.2))
theorem c_oil {t M V w y : Nat} {B : TB2} {K : Nat → Nat} (ht : 15 ≤ t ∧ t + 17 ≤ 98) (hM : M ≤ 6) : ∀ d i n l (A : TB2) (σ : Mem), i + d = M → d < n → l < 2147483647 → CD t M V w y (A, B, K) σ →
    ∃ σ', f_X6_drawOil_b5 t n σ (ℓ l) (ι i) = some (ℓ (oilD d i l A).1, σ') ∧ CD t M V w y ((oilD d i l A).2, B, K) σ' ∧ frT t M σ σ' := by
  intro d
  induction d with
  | zero =>
    intro i n l A σ hi hn hl hs
    obtain ⟨n, rfl⟩ : ∃ k, n = k + 1 := ⟨n - 1, by omega⟩
    have a1 := hs.1.1
    refine ⟨σ, ?_, hs, frT.rfl⟩
    unfold f_X6_drawOil_b5
    simp (disch := omega) only [a1, ↓reduceIte, eq_self, Bool.false_eq_true, reduceCtorEq, ob_s, ob2_s, od_e, onl_n, onl_s, ι_nat, ι_add, ι_mul, ι_sub, ι_addm, lt_t, lt_f, le_t, le_f, eq_t, eq_f, inb_t, inb_f, neq_f, neq_f2, neq_nf, nlt_t, nlt_f, nle_t, nle_f, ms_at, ms_off, up_at, up_off, L0, L1, L2, L3, L4, L5, L6, L7, L8, L9, L10, L11, L12, L13, L14, L15, L16, L17, L18, L19, L20, L21, L22, L23, L24, L30, L31, L32, L40, L41, L42, L43, L45, L47, L48, L52, L57, L59, L60, L61, L63, L64, L72, L97, L99, L100, L122, L160, L161, L200, L255, L999, L1200, L1998, L99999, L100000, L1000005]
    rfl
  | succ d ih =>
    intro i n l A σ hi hn hl hs
    obtain ⟨n, rfl⟩ : ∃ k, n = k + 1 := ⟨n - 1, by omega⟩
    obtain ⟨⟨a1, a2, a3, a4, a5, a6⟩, k0, k1, k2, k3, k4⟩ := id hs
    have h10 : l * 48271 % 2147483647 % 10 < 10 := Nat.mod_lt _ (by decide)
    have hp : l * 48271 % 2147483647 < 2147483647 := Nat.mod_lt _ (by decide)
    obtain ⟨σ', g1, g2, g3⟩ := ih (i + 1) n (l * 48271 % 2147483647) (up A i 3 (l * 48271 % 2147483647 % 10)) (ms σ (t + 3 + i) 3 (ι (l * 48271 % 2147483647 % 10))) (by omega) (by omega) hp (by
      refine ⟨⟨?_, ?_, ?_, ?_, CA_up a5 (by decide), CB_fr a6 (fun i j hi => by rw [ms_off (by omega)])⟩, ?_, ?_, ?_, ?_, ?_⟩
      · rw [ms_off (by omega)]; exact a1
      · rw [ms_off (by omega)]; exact a2
      · rw [ms_off (by omega)]; exact a3
      · rw [ms_off (by omega)]; exact a4
      · rw [ms_off (by omega)]; exact k0
      · rw [ms_off (by omega)]; exact k1
      · rw [ms_off (by omega)]; exact k2
      · rw [ms_off (by omega)]; exact k3
      · rw [ms_off (by omega)]; exact k4)
    refine ⟨σ', ?_, g2, fun k j q1 q2 q3 q4 => by rw [g3 k j q1 q2 q3 q4, ms_off (by omega)]⟩
    have m1 : lrm (ℓ l * (48271 : Int64)) (2147483647 : Int64) = ℓ (l * 48271 % 2147483647) := by
      rw [show (48271 : Int64) = ℓ 48271 from rfl, show (2147483647 : Int64) = ℓ 2147483647 from rfl, ℓ_mul, ℓ_lrm (by decide) (by omega) (by decide)]
    have m2 : lrm (ℓ (l * 48271 % 2147483647)) (10 : Int64) = ℓ (l * 48271 % 2147483647 % 10) := by
      rw [show (10 : Int64) = ℓ 10 from rfl, ℓ_lrm (by decide) (by omega) (by decide)]
    unfold f_X6_drawOil_b5
    simp (disch := omega) only [a1, m1, m2, ℓ_32, ↓reduceIte, eq_self, Bool.false_eq_true, reduceCtorEq, ob_s, ob2_s, od_e, onl_n, onl_s, ι_nat, ι_add, ι_mul, ι_sub, ι_addm, lt_t, lt_f, le_t, le_f, eq_t, eq_f, inb_t, inb_f, neq_f, neq_f2, neq_nf, nlt_t, nlt_f, nle_t, nle_f, ms_at, ms_off, up_at, up_off, L0, L1, L2, L3, L4, L5, L6, L7, L8, L9, L10, L11, L12, L13, L14, L15, L16, L17, L18, L19, L20, L21, L22, L23, L24, L30, L31, L32, L40, L41, L42, L43, L45, L47, L48, L52, L57, L59, L60, L61, L63, L64, L72, L97, L99, L100, L122, L160, L161, L200, L255, L999, L1200, L1998, L99999, L100000, L1000005]
    exact g1
theorem r_oil {M V w y : Nat} {B : TB2} {K : Nat → Nat} (hM : M ≤ 6) (s12 : Mem → Int64 → Int32 → Option Mem) (v2 v5 : Int32) : ∀ d i n l (A : TB2) (τ : Mem), i + d = M → d < n → l < 2147483647 → FD M V w y (A, B, K) τ →
    ∃ τ', f_X9_goesByLots_b21 s12 v2 v5 n τ (ℓ l) (ι i) = ob (f_X9_weekOf τ' v5) (fun σ8 => s12 σ8 (ℓ (oilD d i l A).1) (v5 + 1)) ∧ FD M V w y ((oilD d i l A).2, B, K) τ' ∧ frF τ τ' := by
  intro d
  induction d with
  | zero =>
    intro i n l A τ hi hn hl hs
    obtain ⟨n, rfl⟩ : ∃ k, n = k + 1 := ⟨n - 1, by omega⟩
    have a1 := hs.1.1
    refine ⟨τ, ?_, hs, frF.rfl⟩
    rw [f_X9_goesByLots_b21, a1, if_pos (by rw [le_t (by omega) (by omega)]; trivial)]
    rfl
  | succ d ih =>
    intro i n l A τ hi hn hl hs
    obtain ⟨n, rfl⟩ : ∃ k, n = k + 1 := ⟨n - 1, by omega⟩
    obtain ⟨⟨a1, a2, a3, a4, a5, a6⟩, k0, k1, k2, k3, k4⟩ := id hs
    have h10 : l * 48271 % 2147483647 % 10 < 10 := Nat.mod_lt _ (by decide)
    have hp : l * 48271 % 2147483647 < 2147483647 := Nat.mod_lt _ (by decide)
    obtain ⟨τ', g1, g2, g3⟩ := ih (i + 1) n (l * 48271 % 2147483647) (up A i 3 (l * 48271 % 2147483647 % 10)) (ms τ 3 (4 * i + 1) (ι (l * 48271 % 2147483647 % 10))) (by omega) (by omega) hp (by
      refine ⟨⟨?_, ?_, ?_, ?_, FA_up (j := 1) a5 (by decide), FB_fr a6 (fun j => by rw [ms_off (by omega)])⟩, ?_, ?_, ?_, ?_, ?_⟩
      · rw [ms_off (by omega)]; exact a1
      · rw [ms_off (by omega)]; exact a2
      · rw [ms_off (by omega)]; exact a3
      · rw [ms_off (by omega)]; exact a4
      · rw [ms_off (by omega)]; exact k0
      · rw [ms_off (by omega)]; exact k1
      · rw [ms_off (by omega)]; exact k2
      · rw [ms_off (by omega)]; exact k3
      · rw [ms_off (by omega)]; exact k4)
    refine ⟨τ', ?_, g2, fun k j q1 q2 q3 q4 q5 => by rw [g3 k j q1 q2 q3 q4 q5, ms_off (by omega)]⟩
    have m1 : lrm (ℓ l * (48271 : Int64)) (2147483647 : Int64) = ℓ (l * 48271 % 2147483647) := by
      rw [show (48271 : Int64) = ℓ 48271 from rfl, show (2147483647 : Int64) = ℓ 2147483647 from rfl, ℓ_mul, ℓ_lrm (by decide) (by omega) (by decide)]
    have m2 : lrm (ℓ (l * 48271 % 2147483647)) (10 : Int64) = ℓ (l * 48271 % 2147483647 % 10) := by
      rw [show (10 : Int64) = ℓ 10 from rfl, ℓ_lrm (by decide) (by omega) (by decide)]
    rw [f_X9_goesByLots_b21, a1, if_neg (by rw [le_f (by omega) (by omega)]; exact id)]
    simp (disch := omega) only [od_e, m1, m2, ℓ_32, L1, L4, ι_mul, ι_add, inb_t, if_true, ι_nat]
    exact g1
theorem c_lots_l {M V y T nn : Nat} {X : XT} (hM : M ≤ 6) (h8 : V ≤ 8) (hy : y < T) (hOX : OKX T X) (hnn : nn ≤ 60) : ∀ d t n N w l (s : DS) (σ : Mem), t + d = nn → d < n → w + d < 10000 → N + 8 * d < 50000 → l < 2147483647 → CXT T X σ → CD 32 M V w y s σ → OKD M V N s →
    ∃ σ', f_X8_liveByLots_b26 (ι nn) n σ (ℓ l) (ι t) = some σ' ∧ CD 32 M V (w + d) y (lotsD X y M V d t w l s) σ' ∧ OKD M V (N + 8 * d) (lotsD X y M V d t w l s) ∧ frT 32 M σ σ' := by
  intro d
  induction d with
  | zero =>
    intro t n N w l s σ ht hn hw hN hl hX hs hO
    obtain ⟨n, rfl⟩ : ∃ k, n = k + 1 := ⟨n - 1, by omega⟩
    refine ⟨σ, ?_, hs, hO, frT.rfl⟩
    rw [f_X8_liveByLots_b26, if_pos (by rw [le_t (by omega) (by omega)]; trivial)]
  | succ d ih =>
    intro t n N w l s σ ht hn hw hN hl hX hs hO
    obtain ⟨n, rfl⟩ : ∃ k, n = k + 1 := ⟨n - 1, by omega⟩
    obtain ⟨σ0, o1, o2, o3⟩ := c_oil (t := 32) (B := s.2.1) (K := s.2.2) (by omega) hM M 0 FU l s.1 σ (by omega) (by unfold FU; omega) hl hs
    obtain ⟨p1, p2⟩ := oilD_ok (M := M) M 0 l s.1 hl hO.1
    obtain ⟨σ1, g1, g2, g3, g4⟩ := c_week (nth := t) (by omega) hM h8 hy (CXT_T (by omega) hM hX o3) hOX (by omega) (by omega) (by omega) o2 (⟨p2, hO.2⟩ : OKD M V N ((oilD M 0 l s.1).2, s.2.1, s.2.2))
    obtain ⟨σ', b1, b2, b3, b4⟩ := ih (t + 1) n (N + 8) (w + 1) (oilD M 0 l s.1).1 _ σ1 (by omega) (by omega) (by omega) (by omega) p1 (CXT_T (by omega) hM (CXT_T (by omega) hM hX o3) g4) g2 g3
    refine ⟨σ', ?_, ?_, ?_, (o3.tr g4).tr b4⟩
    · rw [f_X8_liveByLots_b26, if_neg (by rw [le_f (by omega) (by omega)]; exact id)]
      unfold f_X6_drawOil
      rw [L0, o1, ob2_s, g1, ob_s, L1, ι_add, b1]
    · rw [show w + (d + 1) = w + 1 + d by omega]
      exact b2
    · rw [show N + 8 * (d + 1) = N + 8 + 8 * d by omega]
      exact b3
theorem r_lots_l {M V y T nn : Nat} {X : XT} (hM : M ≤ 6) (h8 : V ≤ 8) (hy : y < T) (hOX : OKX T X) (hnn : nn ≤ 60) : ∀ d t n N w l (s : DS) (τ : Mem), t + d = nn → d < n → w + d < 10000 → N + 8 * d < 50000 → l < 2147483647 → FXT T X τ → FD M V w y s τ → OKD M V N s →
    ∃ τ', f_X9_goesByLots_b12 (ι nn) n τ (ℓ l) (ι t) = f_X9_laysBack τ' ∧ FD M V (w + d) y (lotsD X y M V d t w l s) τ' ∧ frF τ τ' := by
  intro d
  induction d with
  | zero =>
    intro t n N w l s τ ht hn hw hN hl hX hs hO
    obtain ⟨n, rfl⟩ : ∃ k, n = k + 1 := ⟨n - 1, by omega⟩
    refine ⟨τ, ?_, hs, frF.rfl⟩
    rw [f_X9_goesByLots_b12, if_pos (by rw [le_t (by omega) (by omega)]; trivial)]
    cases f_X9_laysBack τ <;> rfl
  | succ d ih =>
    intro t n N w l s τ ht hn hw hN hl hX hs hO
    obtain ⟨n, rfl⟩ : ∃ k, n = k + 1 := ⟨n - 1, by omega⟩
    obtain ⟨τ0, o1, o2, o3⟩ := r_oil (B := s.2.1) (K := s.2.2) hM (f_X9_goesByLots_b12 (ι nn) n) (ι nn) (ι t) M 0 FU l s.1 τ (by omega) (by unfold FU; omega) hl hs
    obtain ⟨p1, p2⟩ := oilD_ok (M := M) M 0 l s.1 hl hO.1
    have hO2 : OKD M V N ((oilD M 0 l s.1).2, s.2.1, s.2.2) := ⟨p2, hO.2⟩
    obtain ⟨τ1, g1, g2, g4⟩ := r_week (nth := t) hM h8 hy (FXT_F hX o3) hOX (by omega) (by omega) (by omega) o2 hO2
    have g3 : OKD M V (N + 8) (weekD X y M V w t ((oilD M 0 l s.1).2, s.2)) := by
      have := OKD_vows (X := X) (y := y) (w := w) (nth := t) hM V 0 N (growA X y V s.2.1 M w (oilD M 0 l s.1).2, s.2) (by omega) ⟨OKA_grow p2, hO.2⟩
      obtain ⟨q1, q2, q3, q4⟩ := this
      exact ⟨q1, q2, Nat.le_trans q3 (by omega), q4⟩
    obtain ⟨τ', b1, b2, b4⟩ := ih (t + 1) n (N + 8) (w + 1) (oilD M 0 l s.1).1 _ τ1 (by omega) (by omega) (by omega) (by omega) p1 (FXT_F (FXT_F hX o3) g4) g2 g3
    refine ⟨τ', ?_, ?_, (o3.tr g4).tr b4⟩
    · rw [f_X9_goesByLots_b12, if_neg (by rw [le_f (by omega) (by omega)]; exact id), L0, o1, g1, ob_s, L1, ι_add, b1]
    · rw [show w + (d + 1) = w + 1 + d by omega]
      exact b2
def seasN (X : XT) (y M V w : Nat) (A B : TB2) (seed nn : Nat) : Nat → Nat := (lotsD X y M V nn 0 w (seed + 1) (A, B, K0)).2.2
theorem c_lots {M V w y T : Nat} {A B : TB2} {X : XT} {σ : Mem} (hM : M ≤ 6) (hV : V ≤ 8) (hw : w ≤ 999) (hy : y < T) (hA : OKA M A) (hB : OKB M V B) (hOX : OKX T X) (hC : CT 15 M V w y A B σ) (hS : SH 15 σ) (hCX : CXT T X σ) {seed nn : Nat} (hs : seed < 200000) (hn : nn ≤ 60) :
    ∃ σ', f_X8_liveByLots σ (ι seed) (ι nn) = some σ' ∧ CK 32 (seasN X y M V w A B seed nn) σ' ∧ seasN X y M V w A B seed nn 0 ≤ 480 ∧ eqC σ σ' := by
  obtain ⟨σ1, s1, s2, s3, s4⟩ := c_think hM hV hC hS hCX
  obtain ⟨σ', c1', c2', c3', c4'⟩ := c_lots_l (nn := nn) hM hV hy hOX hn nn 0 FU 0 w (seed + 1) _ _ (by omega) (by unfold FU; omega) (by omega) (by omega) (by omega) s3 s2 (OKD_0 hA hB)
  refine ⟨σ', ?_, c2'.2, ?_, ?_⟩
  · unfold f_X8_liveByLots
    rw [s1, ob_s, od_e, ι_64 (by omega), show (1 : Int64) = ℓ 1 from rfl, ℓ_add, L0, c1']
  · have := c3'.2.2.1
    unfold seasN
    omega
  · intro k j h
    unfold sC at h
    rw [c4' k j (by omega) (by omega) (by omega) (by omega), s4 k j (by unfold sC; omega)]
theorem r_lots {M V w y T : Nat} {A B : TB2} {X : XT} {τ : Mem} (hM : M ≤ 6) (hV : V ≤ 8) (hw : w ≤ 999) (hy : y < T) (hA : OKA M A) (hB : OKB M V B) (hOX : OKX T X) (hF : FT M V w y A B τ) (hFX : FXT T X τ) {seed nn : Nat} (hs : seed < 200000) (hn : nn ≤ 60) :
    ∃ τ', f_X9_goesByLots τ (ι seed) (ι nn) = some τ' ∧ FK (seasN X y M V w A B seed nn) τ' ∧ eqR τ τ' := by
  obtain ⟨τ1, t1, t2, t3, t4, t5, t6, t7⟩ := r_think hM hV hF hFX
  obtain ⟨τ2, r1, r2, r3⟩ := r_lots_l (nn := nn) hM hV hy hOX hn nn 0 FU 0 w (seed + 1) _ _ (by omega) (by unfold FU; omega) (by omega) (by omega) (by omega) t3 t2 (OKD_0 hA hB)
  obtain ⟨τ3, l1, l2, l3, l8, l9⟩ := r_thought t4 t5 t6 t7 hM hV r2 r3
  refine ⟨τ3, ?_, l3, l2⟩
  unfold f_X9_goesByLots
  rw [t1, ob_s, ι_64 (by omega), show (1 : Int64) = ℓ 1 from rfl, ℓ_add, L0, r1, l1]
theorem op_drawn : OP_drawn RR := by
  intro σ τ v1 v2 v3 hR
  obtain ⟨M, V, w, y, A, B, T, X, h0, hA, hB, hOX, hC, hS, hS9, hF, hCX, hFX, hI, hSh, hD⟩ := id hR
  obtain ⟨hM, hV, hw, hy⟩ := id h0
  obtain ⟨hB, hBs⟩ := id hB
  obtain ⟨a1, a2, a3, a4, a5, a6⟩ := id hC
  obtain ⟨b1, b2, b3, b4, b5, b6⟩ := id hF
  have hT := hOX.2.1
  have c1 := hCX.1
  have f1 := hFX.1
  unfold f_X8_drawn f_X9_drawn
  rcases argN 100000 v1 with ⟨sd, d1, d2, rfl⟩ | g1
  · rcases argN 61 v2 with ⟨nn, n1, n2, rfl⟩ | g2
    · rcases argN 3 v3 with ⟨q, q1, q2, rfl⟩ | g3
      · obtain ⟨σ', s1, ⟨s2, s3, s4, s5, s6⟩, s7, s8⟩ := c_lots hM hV hw hy hA hB hOX hC hS hCX (seed := sd) (nn := nn) (by omega) (by omega)
        obtain ⟨τ', t1, ⟨t2, t3, t4, t5, t6⟩, t8⟩ := r_lots hM hV hw hy hA hB hOX hF hFX (seed := sd) (nn := nn) (by omega) (by omega)
        have hr := RR_eq hR s8 t8
        have hq : q = 0 ∨ q = 1 ∨ q = 2 := by omega
        rcases hq with h | h | h
        · subst h
          refine ⟨ι (seasN X y M V w A B sd nn 0), σ', τ', ?_, ?_, hr⟩
          · simp (disch := omega) only [s1, s2, ↓reduceIte, eq_self, Bool.false_eq_true, reduceCtorEq, ob_s, ob2_s, od_e, onl_n, onl_s, ι_nat, ι_add, ι_mul, ι_sub, ι_addm, lt_t, lt_f, le_t, le_f, eq_t, eq_f, inb_t, inb_f, neq_f, neq_f2, neq_nf, nlt_t, nlt_f, nle_t, nle_f, ms_at, ms_off, up_at, up_off, L0, L1, L2, L3, L4, L5, L6, L7, L8, L9, L10, L11, L12, L13, L14, L15, L16, L17, L18, L19, L20, L21, L22, L23, L24, L30, L31, L32, L40, L41, L42, L43, L45, L47, L48, L52, L57, L59, L60, L61, L63, L64, L72, L97, L99, L100, L122, L160, L161, L200, L255, L999, L1200, L1998, L99999, L100000, L1000005]
          · simp (disch := omega) only [r_in, t1, t2, ↓reduceIte, eq_self, Bool.false_eq_true, reduceCtorEq, ob_s, ob2_s, od_e, onl_n, onl_s, ι_nat, ι_add, ι_mul, ι_sub, ι_addm, lt_t, lt_f, le_t, le_f, eq_t, eq_f, inb_t, inb_f, neq_f, neq_f2, neq_nf, nlt_t, nlt_f, nle_t, nle_f, ms_at, ms_off, up_at, up_off, L0, L1, L2, L3, L4, L5, L6, L7, L8, L9, L10, L11, L12, L13, L14, L15, L16, L17, L18, L19, L20, L21, L22, L23, L24, L30, L31, L32, L40, L41, L42, L43, L45, L47, L48, L52, L57, L59, L60, L61, L63, L64, L72, L97, L99, L100, L122, L160, L161, L200, L255, L999, L1200, L1998, L99999, L100000, L1000005]
        · subst h
          refine ⟨ι (seasN X y M V w A B sd nn 3), σ', τ', ?_, ?_, hr⟩
          · simp (disch := omega) only [s1, s5, ↓reduceIte, eq_self, Bool.false_eq_true, reduceCtorEq, ob_s, ob2_s, od_e, onl_n, onl_s, ι_nat, ι_add, ι_mul, ι_sub, ι_addm, lt_t, lt_f, le_t, le_f, eq_t, eq_f, inb_t, inb_f, neq_f, neq_f2, neq_nf, nlt_t, nlt_f, nle_t, nle_f, ms_at, ms_off, up_at, up_off, L0, L1, L2, L3, L4, L5, L6, L7, L8, L9, L10, L11, L12, L13, L14, L15, L16, L17, L18, L19, L20, L21, L22, L23, L24, L30, L31, L32, L40, L41, L42, L43, L45, L47, L48, L52, L57, L59, L60, L61, L63, L64, L72, L97, L99, L100, L122, L160, L161, L200, L255, L999, L1200, L1998, L99999, L100000, L1000005]
          · simp (disch := omega) only [r_in, t1, t5, ↓reduceIte, eq_self, Bool.false_eq_true, reduceCtorEq, ob_s, ob2_s, od_e, onl_n, onl_s, ι_nat, ι_add, ι_mul, ι_sub, ι_addm, lt_t, lt_f, le_t, le_f, eq_t, eq_f, inb_t, inb_f, neq_f, neq_f2, neq_nf, nlt_t, nlt_f, nle_t, nle_f, ms_at, ms_off, up_at, up_off, L0, L1, L2, L3, L4, L5, L6, L7, L8, L9, L10, L11, L12, L13, L14, L15, L16, L17, L18, L19, L20, L21, L22, L23, L24, L30, L31, L32, L40, L41, L42, L43, L45, L47, L48, L52, L57, L59, L60, L61, L63, L64, L72, L97, L99, L100, L122, L160, L161, L200, L255, L999, L1200, L1998, L99999, L100000, L1000005]
        · subst h
          refine ⟨ι (seasN X y M V w A B sd nn 4), σ', τ', ?_, ?_, hr⟩
          · simp (disch := omega) only [s1, s6, ↓reduceIte, eq_self, Bool.false_eq_true, reduceCtorEq, ob_s, ob2_s, od_e, onl_n, onl_s, ι_nat, ι_add, ι_mul, ι_sub, ι_addm, lt_t, lt_f, le_t, le_f, eq_t, eq_f, inb_t, inb_f, neq_f, neq_f2, neq_nf, nlt_t, nlt_f, nle_t, nle_f, ms_at, ms_off, up_at, up_off, L0, L1, L2, L3, L4, L5, L6, L7, L8, L9, L10, L11, L12, L13, L14, L15, L16, L17, L18, L19, L20, L21, L22, L23, L24, L30, L31, L32, L40, L41, L42, L43, L45, L47, L48, L52, L57, L59, L60, L61, L63, L64, L72, L97, L99, L100, L122, L160, L161, L200, L255, L999, L1200, L1998, L99999, L100000, L1000005]
          · simp (disch := omega) only [r_in, t1, t6, ↓reduceIte, eq_self, Bool.false_eq_true, reduceCtorEq, ob_s, ob2_s, od_e, onl_n, onl_s, ι_nat, ι_add, ι_mul, ι_sub, ι_addm, lt_t, lt_f, le_t, le_f, eq_t, eq_f, inb_t, inb_f, neq_f, neq_f2, neq_nf, nlt_t, nlt_f, nle_t, nle_f, ms_at, ms_off, up_at, up_off, L0, L1, L2, L3, L4, L5, L6, L7, L8, L9, L10, L11, L12, L13, L14, L15, L16, L17, L18, L19, L20, L21, L22, L23, L24, L30, L31, L32, L40, L41, L42, L43, L45, L47, L48, L52, L57, L59, L60, L61, L63, L64, L72, L97, L99, L100, L122, L160, L161, L200, L255, L999, L1200, L1998, L99999, L100000, L1000005]
      · refine ⟨-ι 2, σ, τ, ?_, ?_, hR, rfl⟩
        · rcases g3 with g | ⟨k, k1, k2, rfl⟩
          · simp (disch := omega) only [ng_lt g, ng_le g, ng_gt g, ng_ge g, ng_eq g, ng_eq2 g, ng_inb g, ↓reduceIte, eq_self, Bool.false_eq_true, reduceCtorEq, ob_s, ob2_s, od_e, onl_n, onl_s, ι_nat, ι_add, ι_mul, ι_sub, ι_addm, lt_t, lt_f, le_t, le_f, eq_t, eq_f, inb_t, inb_f, neq_f, neq_f2, neq_nf, nlt_t, nlt_f, nle_t, nle_f, ms_at, ms_off, up_at, up_off, L0, L1, L2, L3, L4, L5, L6, L7, L8, L9, L10, L11, L12, L13, L14, L15, L16, L17, L18, L19, L20, L21, L22, L23, L24, L30, L31, L32, L40, L41, L42, L43, L45, L47, L48, L52, L57, L59, L60, L61, L63, L64, L72, L97, L99, L100, L122, L160, L161, L200, L255, L999, L1200, L1998, L99999, L100000, L1000005]
          · simp (disch := omega) only [↓reduceIte, eq_self, Bool.false_eq_true, reduceCtorEq, ob_s, ob2_s, od_e, onl_n, onl_s, ι_nat, ι_add, ι_mul, ι_sub, ι_addm, lt_t, lt_f, le_t, le_f, eq_t, eq_f, inb_t, inb_f, neq_f, neq_f2, neq_nf, nlt_t, nlt_f, nle_t, nle_f, ms_at, ms_off, up_at, up_off, L0, L1, L2, L3, L4, L5, L6, L7, L8, L9, L10, L11, L12, L13, L14, L15, L16, L17, L18, L19, L20, L21, L22, L23, L24, L30, L31, L32, L40, L41, L42, L43, L45, L47, L48, L52, L57, L59, L60, L61, L63, L64, L72, L97, L99, L100, L122, L160, L161, L200, L255, L999, L1200, L1998, L99999, L100000, L1000005]
        · simp (disch := omega) only [r_in, outN_in (n := 2) (by omega) g3, ↓reduceIte, eq_self, Bool.false_eq_true, reduceCtorEq, ob_s, ob2_s, od_e, onl_n, onl_s, ι_nat, ι_add, ι_mul, ι_sub, ι_addm, lt_t, lt_f, le_t, le_f, eq_t, eq_f, inb_t, inb_f, neq_f, neq_f2, neq_nf, nlt_t, nlt_f, nle_t, nle_f, ms_at, ms_off, up_at, up_off, L0, L1, L2, L3, L4, L5, L6, L7, L8, L9, L10, L11, L12, L13, L14, L15, L16, L17, L18, L19, L20, L21, L22, L23, L24, L30, L31, L32, L40, L41, L42, L43, L45, L47, L48, L52, L57, L59, L60, L61, L63, L64, L72, L97, L99, L100, L122, L160, L161, L200, L255, L999, L1200, L1998, L99999, L100000, L1000005]
    · refine ⟨-ι 2, σ, τ, ?_, ?_, hR, rfl⟩
      · rcases g2 with g | ⟨k, k1, k2, rfl⟩
        · simp (disch := omega) only [ng_lt g, ng_le g, ng_gt g, ng_ge g, ng_eq g, ng_eq2 g, ng_inb g, ↓reduceIte, eq_self, Bool.false_eq_true, reduceCtorEq, ob_s, ob2_s, od_e, onl_n, onl_s, ι_nat, ι_add, ι_mul, ι_sub, ι_addm, lt_t, lt_f, le_t, le_f, eq_t, eq_f, inb_t, inb_f, neq_f, neq_f2, neq_nf, nlt_t, nlt_f, nle_t, nle_f, ms_at, ms_off, up_at, up_off, L0, L1, L2, L3, L4, L5, L6, L7, L8, L9, L10, L11, L12, L13, L14, L15, L16, L17, L18, L19, L20, L21, L22, L23, L24, L30, L31, L32, L40, L41, L42, L43, L45, L47, L48, L52, L57, L59, L60, L61, L63, L64, L72, L97, L99, L100, L122, L160, L161, L200, L255, L999, L1200, L1998, L99999, L100000, L1000005]
        · simp (disch := omega) only [↓reduceIte, eq_self, Bool.false_eq_true, reduceCtorEq, ob_s, ob2_s, od_e, onl_n, onl_s, ι_nat, ι_add, ι_mul, ι_sub, ι_addm, lt_t, lt_f, le_t, le_f, eq_t, eq_f, inb_t, inb_f, neq_f, neq_f2, neq_nf, nlt_t, nlt_f, nle_t, nle_f, ms_at, ms_off, up_at, up_off, L0, L1, L2, L3, L4, L5, L6, L7, L8, L9, L10, L11, L12, L13, L14, L15, L16, L17, L18, L19, L20, L21, L22, L23, L24, L30, L31, L32, L40, L41, L42, L43, L45, L47, L48, L52, L57, L59, L60, L61, L63, L64, L72, L97, L99, L100, L122, L160, L161, L200, L255, L999, L1200, L1998, L99999, L100000, L1000005]
      · simp (disch := omega) only [r_in, outN_in (n := 60) (by omega) g2, ↓reduceIte, eq_self, Bool.false_eq_true, reduceCtorEq, ob_s, ob2_s, od_e, onl_n, onl_s, ι_nat, ι_add, ι_mul, ι_sub, ι_addm, lt_t, lt_f, le_t, le_f, eq_t, eq_f, inb_t, inb_f, neq_f, neq_f2, neq_nf, nlt_t, nlt_f, nle_t, nle_f, ms_at, ms_off, up_at, up_off, L0, L1, L2, L3, L4, L5, L6, L7, L8, L9, L10, L11, L12, L13, L14, L15, L16, L17, L18, L19, L20, L21, L22, L23, L24, L30, L31, L32, L40, L41, L42, L43, L45, L47, L48, L52, L57, L59, L60, L61, L63, L64, L72, L97, L99, L100, L122, L160, L161, L200, L255, L999, L1200, L1998, L99999, L100000, L1000005]
  · refine ⟨-ι 2, σ, τ, ?_, ?_, hR, rfl⟩
    · rcases g1 with g | ⟨k, k1, k2, rfl⟩
      · simp (disch := omega) only [ng_lt g, ng_le g, ng_gt g, ng_ge g, ng_eq g, ng_eq2 g, ng_inb g, ↓reduceIte, eq_self, Bool.false_eq_true, reduceCtorEq, ob_s, ob2_s, od_e, onl_n, onl_s, ι_nat, ι_add, ι_mul, ι_sub, ι_addm, lt_t, lt_f, le_t, le_f, eq_t, eq_f, inb_t, inb_f, neq_f, neq_f2, neq_nf, nlt_t, nlt_f, nle_t, nle_f, ms_at, ms_off, up_at, up_off, L0, L1, L2, L3, L4, L5, L6, L7, L8, L9, L10, L11, L12, L13, L14, L15, L16, L17, L18, L19, L20, L21, L22, L23, L24, L30, L31, L32, L40, L41, L42, L43, L45, L47, L48, L52, L57, L59, L60, L61, L63, L64, L72, L97, L99, L100, L122, L160, L161, L200, L255, L999, L1200, L1998, L99999, L100000, L1000005]
      · simp (disch := omega) only [↓reduceIte, eq_self, Bool.false_eq_true, reduceCtorEq, ob_s, ob2_s, od_e, onl_n, onl_s, ι_nat, ι_add, ι_mul, ι_sub, ι_addm, lt_t, lt_f, le_t, le_f, eq_t, eq_f, inb_t, inb_f, neq_f, neq_f2, neq_nf, nlt_t, nlt_f, nle_t, nle_f, ms_at, ms_off, up_at, up_off, L0, L1, L2, L3, L4, L5, L6, L7, L8, L9, L10, L11, L12, L13, L14, L15, L16, L17, L18, L19, L20, L21, L22, L23, L24, L30, L31, L32, L40, L41, L42, L43, L45, L47, L48, L52, L57, L59, L60, L61, L63, L64, L72, L97, L99, L100, L122, L160, L161, L200, L255, L999, L1200, L1998, L99999, L100000, L1000005]
    · simp (disch := omega) only [outN_in (n := 99999) (by omega) g1, ↓reduceIte, eq_self, Bool.false_eq_true, reduceCtorEq, ob_s, ob2_s, od_e, onl_n, onl_s, ι_nat, ι_add, ι_mul, ι_sub, ι_addm, lt_t, lt_f, le_t, le_f, eq_t, eq_f, inb_t, inb_f, neq_f, neq_f2, neq_nf, nlt_t, nlt_f, nle_t, nle_f, ms_at, ms_off, up_at, up_off, L0, L1, L2, L3, L4, L5, L6, L7, L8, L9, L10, L11, L12, L13, L14, L15, L16, L17, L18, L19, L20, L21, L22, L23, L24, L30, L31, L32, L40, L41, L42, L43, L45, L47, L48, L52, L57, L59, L60, L61, L63, L64, L72, L97, L99, L100, L122, L160, L161, L200, L255, L999, L1200, L1998, L99999, L100000, L1000005]
def endC (g s p : Int32) : Option Int64 := ob (f_X8_commonDivisor g s) (fun r11 => if r11 = 0 then some (-4611686018427387904 : Int64) else if p = 0 then (if r11 ≠ 0 then some ((g / r11).toInt64) else none) else (if r11 ≠ 0 then some ((s / r11).toInt64) else none))
def endT (g s p : Nat) : Bool := decide (endC (ι g) (ι s) (ι p) = f_X9_lowest (ℓ g) ((ι s).toInt64) (ι p)) && (endC (ι g) (ι s) (ι p)).isSome
theorem end_all : ∀ g, g < 21 → ∀ s, s < 21 → (g ≤ s && Nat.ble 1 s) = true → (endT g s 0 && endT g s 1) = true := by decide +kernel
theorem end_eq {g s p : Nat} (h1 : g ≤ s) (h2 : 0 < s) (h3 : s < 21) (hp : p < 2) : ∃ x, endC (ι g) (ι s) (ι p) = some x ∧ f_X9_lowest (ℓ g) ((ι s).toInt64) (ι p) = some x := by
  have h := end_all g (by omega) s h3 (by simp [h1]; exact h2)
  rw [Bool.and_eq_true] at h
  have hT : endT g s p = true := by
    have : p = 0 ∨ p = 1 := by omega
    rcases this with c | c <;> subst c
    · exact h.1
    · exact h.2
  unfold endT at hT
  rw [Bool.and_eq_true, decide_eq_true_eq] at hT
  obtain ⟨x, hx⟩ := Option.isSome_iff_exists.mp hT.2
  exact ⟨x, hx, by rw [← hT.1, hx]⟩
theorem endC_at {g s p : Int32} {σ : Mem} : ob (f_X8_commonDivisor g s) (fun r11 => (if r11 = 0 then some ((-4611686018427387904 : Int64), σ) else (if p = 0 then (if r11 ≠ 0 then some (((g / r11).toInt64), σ) else none) else (if r11 ≠ 0 then some (((s / r11).toInt64), σ) else none)))) = ob (endC g s p) (fun x => some (x, σ)) := by
  unfold endC
  cases f_X8_commonDivisor g s with
  | none => rfl
  | some r =>
    simp only [ob_s]
    by_cases h : r = 0
    · rw [if_pos h, if_pos h]
      rfl
    · rw [if_neg h, if_neg h]
      by_cases h2 : p = 0
      · rw [if_pos h2, if_pos h2, if_pos h, if_pos h]
        rfl
      · rw [if_neg h2, if_neg h2, if_pos h, if_pos h]
        rfl
def goodN (f : Nat → Nat) : Nat → Nat → Nat → Nat
  | 0, _, g => g
  | d + 1, k, g => goodN f d (k + 1) (if f k = 0 then g + 1 else g)
theorem goodN_le {f : Nat → Nat} : ∀ d k g, goodN f d k g ≤ g + d
  | 0, _, _ => Nat.le_refl _
  | d + 1, k, g => by
    have := goodN_le (f := f) d (k + 1) (if f k = 0 then g + 1 else g)
    show goodN f d (k + 1) (if f k = 0 then g + 1 else g) ≤ g + (d + 1)
    split at this <;> (rename_i c; simp only [c, if_true, if_false]; omega)
theorem SH_sc {σ σ' : Mem} (h : eqC σ σ') (hS : SH 15 σ) : SH 15 σ' := by
  intro i hi
  rw [h _ _ (by unfold sC; omega)]
  exact hS i hi
theorem CXT_sc {T : Nat} {X : XT} {σ σ' : Mem} (h : eqC σ σ') (hX : CXT T X σ) : CXT T X σ' := CXT_fr (fun k j q => h k j (by unfold sC; omega)) hX
theorem FXT_sc {T : Nat} {X : XT} {τ τ' : Mem} (h : eqR τ τ') (hX : FXT T X τ) : FXT T X τ' := FXT_fr (fun k j q => h k j (by unfold sR; omega)) hX
theorem op_odds : OP_odds RR := by
  intro σ τ v1 v2 v3 v4 hR
  obtain ⟨M, V, w, y, A, B, T, X, h0, hA, hB, hOX, hC, hS, hS9, hF, hCX, hFX, hI, hSh, hD⟩ := id hR
  obtain ⟨hM, hV, hw, hy⟩ := id h0
  obtain ⟨hB, hBs⟩ := id hB
  obtain ⟨a1, a2, a3, a4, a5, a6⟩ := id hC
  obtain ⟨b1, b2, b3, b4, b5, b6⟩ := id hF
  have hT := hOX.2.1
  have c1 := hCX.1
  have f1 := hFX.1
  by_cases hg : ∃ sd s nn p, sd < 100000 ∧ 1 ≤ s ∧ s ≤ 20 ∧ nn ≤ 60 ∧ p < 2 ∧ v1 = ι sd ∧ v2 = ι s ∧ v3 = ι nn ∧ v4 = ι p
  · obtain ⟨sd, s, nn, p, g1, g2, g3, g4, g5, rfl, rfl, rfl, rfl⟩ := hg
    let f := fun k => seasN X y M V w A B (sd + k) nn 0
    have Lc : ∀ d k n g (σ : Mem), k + d = s → d < n → g ≤ k → CT 15 M V w y A B σ → SH 15 σ → CXT T X σ → ∃ σ', f_X8_odds_b57 (ι sd) (ι s) (ι nn) (ι p) n σ (ι g) (ι k) = ob (endC (ι (goodN f d k g)) (ι s) (ι p)) (fun x => some (x, σ')) ∧ eqC σ σ' := by
      intro d
      induction d with
      | zero =>
        intro k n g σ hk hn hg hC hS hCX
        obtain ⟨n, rfl⟩ : ∃ k, n = k + 1 := ⟨n - 1, by omega⟩
        refine ⟨σ, ?_, eqC.rfl⟩
        rw [f_X8_odds_b57, if_pos (by rw [le_t (by omega) (by omega)]; trivial), endC_at]
        rfl
      | succ d ih =>
        intro k n g σ hk hn hg hC hS hCX
        obtain ⟨n, rfl⟩ : ∃ k, n = k + 1 := ⟨n - 1, by omega⟩
        obtain ⟨σ1, s1, ⟨s2, s3, s4, s5, s6⟩, s7, s8⟩ := c_lots hM hV hw hy hA hB hOX hC hS hCX (seed := sd + k) (nn := nn) (by omega) g4
        obtain ⟨σ', b1, b2⟩ := ih (k + 1) n (if f k = 0 then g + 1 else g) σ1 (by omega) (by omega) (by split <;> omega) (CT_sc hM hV s8 hC) (SH_sc s8 hS) (CXT_sc s8 hCX)
        refine ⟨σ', ?_, s8.tr b2⟩
        show _ = ob (endC (ι (goodN f d (k + 1) (if f k = 0 then g + 1 else g))) (ι s) (ι p)) (fun x => some (x, σ'))
        rw [← b1, f_X8_odds_b57, if_neg (by rw [le_f (by omega) (by omega)]; exact id), ι_add, s1, ob_s]
        by_cases c : seasN X y M V w A B (sd + k) nn 0 = 0
        · have c' : f k = 0 := c
          simp (disch := omega) only [s2, c, f_X8_odds_b85, c', ↓reduceIte, eq_self, Bool.false_eq_true, reduceCtorEq, ob_s, ob2_s, od_e, onl_n, onl_s, ι_nat, ι_add, ι_mul, ι_sub, ι_addm, lt_t, lt_f, le_t, le_f, eq_t, eq_f, inb_t, inb_f, neq_f, neq_f2, neq_nf, nlt_t, nlt_f, nle_t, nle_f, ms_at, ms_off, up_at, up_off, L0, L1, L2, L3, L4, L5, L6, L7, L8, L9, L10, L11, L12, L13, L14, L15, L16, L17, L18, L19, L20, L21, L22, L23, L24, L30, L31, L32, L40, L41, L42, L43, L45, L47, L48, L52, L57, L59, L60, L61, L63, L64, L72, L97, L99, L100, L122, L160, L161, L200, L255, L999, L1200, L1998, L99999, L100000, L1000005]
        · have c' : ¬ f k = 0 := c
          simp (disch := omega) only [s2, f_X8_odds_b85, c', ↓reduceIte, eq_self, Bool.false_eq_true, reduceCtorEq, ob_s, ob2_s, od_e, onl_n, onl_s, ι_nat, ι_add, ι_mul, ι_sub, ι_addm, lt_t, lt_f, le_t, le_f, eq_t, eq_f, inb_t, inb_f, neq_f, neq_f2, neq_nf, nlt_t, nlt_f, nle_t, nle_f, ms_at, ms_off, up_at, up_off, L0, L1, L2, L3, L4, L5, L6, L7, L8, L9, L10, L11, L12, L13, L14, L15, L16, L17, L18, L19, L20, L21, L22, L23, L24, L30, L31, L32, L40, L41, L42, L43, L45, L47, L48, L52, L57, L59, L60, L61, L63, L64, L72, L97, L99, L100, L122, L160, L161, L200, L255, L999, L1200, L1998, L99999, L100000, L1000005]
    have Lr : ∀ d k n g (τ : Mem), k + d = s → d < n → g ≤ k → FT M V w y A B τ → FXT T X τ → ∃ τ', f_X9_odds_b51 (ι sd) (ι s) (ι nn) (ι p) n τ (ℓ g) (ι k) = ob (f_X9_lowest (ℓ (goodN f d k g)) ((ι s).toInt64) (ι p)) (fun x => some (x, τ')) ∧ eqR τ τ' := by
      intro d
      induction d with
      | zero =>
        intro k n g τ hk hn hg hF hFX
        obtain ⟨n, rfl⟩ : ∃ k, n = k + 1 := ⟨n - 1, by omega⟩
        refine ⟨τ, ?_, eqR.rfl⟩
        rw [f_X9_odds_b51, if_pos (by rw [le_t (by omega) (by omega)]; trivial)]
        rfl
      | succ d ih =>
        intro k n g τ hk hn hg hF hFX
        obtain ⟨n, rfl⟩ : ∃ k, n = k + 1 := ⟨n - 1, by omega⟩
        obtain ⟨τ1, s1, ⟨s2, s3, s4, s5, s6⟩, s8⟩ := r_lots hM hV hw hy hA hB hOX hF hFX (seed := sd + k) (nn := nn) (by omega) g4
        have s7 : seasN X y M V w A B (sd + k) nn 0 ≤ 480 := by
          obtain ⟨_, _, _, h, _⟩ := c_lots hM hV hw hy hA hB hOX hC hS hCX (seed := sd + k) (nn := nn) (by omega) g4
          exact h
        obtain ⟨τ', b1, b2⟩ := ih (k + 1) n (if f k = 0 then g + 1 else g) τ1 (by omega) (by omega) (by split <;> omega) (FT_sc hM hV s8 hF) (FXT_sc s8 hFX)
        refine ⟨τ', ?_, s8.tr b2⟩
        show _ = ob (f_X9_lowest (ℓ (goodN f d (k + 1) (if f k = 0 then g + 1 else g))) ((ι s).toInt64) (ι p)) (fun x => some (x, τ'))
        rw [← b1, f_X9_odds_b51, if_neg (by rw [le_f (by omega) (by omega)]; exact id), ι_add, s1, ob_s]
        by_cases c : seasN X y M V w A B (sd + k) nn 0 = 0
        · have c' : f k = 0 := c
          simp (disch := omega) only [s2, c, f_X9_odds_b80, c', show (1 : Int64) = ℓ 1 from rfl, ℓ_add, ↓reduceIte, eq_self, Bool.false_eq_true, reduceCtorEq, ob_s, ob2_s, od_e, onl_n, onl_s, ι_nat, ι_add, ι_mul, ι_sub, ι_addm, lt_t, lt_f, le_t, le_f, eq_t, eq_f, inb_t, inb_f, neq_f, neq_f2, neq_nf, nlt_t, nlt_f, nle_t, nle_f, ms_at, ms_off, up_at, up_off, L0, L1, L2, L3, L4, L5, L6, L7, L8, L9, L10, L11, L12, L13, L14, L15, L16, L17, L18, L19, L20, L21, L22, L23, L24, L30, L31, L32, L40, L41, L42, L43, L45, L47, L48, L52, L57, L59, L60, L61, L63, L64, L72, L97, L99, L100, L122, L160, L161, L200, L255, L999, L1200, L1998, L99999, L100000, L1000005]
        · have c' : ¬ f k = 0 := c
          simp (disch := omega) only [s2, f_X9_odds_b80, c', show (0 : Int64) = ℓ 0 from rfl, ℓ_add, Nat.add_zero, ↓reduceIte, eq_self, Bool.false_eq_true, reduceCtorEq, ob_s, ob2_s, od_e, onl_n, onl_s, ι_nat, ι_add, ι_mul, ι_sub, ι_addm, lt_t, lt_f, le_t, le_f, eq_t, eq_f, inb_t, inb_f, neq_f, neq_f2, neq_nf, nlt_t, nlt_f, nle_t, nle_f, ms_at, ms_off, up_at, up_off, L0, L1, L2, L3, L4, L5, L6, L7, L8, L9, L10, L11, L12, L13, L14, L15, L16, L17, L18, L19, L20, L21, L22, L23, L24, L30, L31, L32, L40, L41, L42, L43, L45, L47, L48, L52, L57, L59, L60, L61, L63, L64, L72, L97, L99, L100, L122, L160, L161, L200, L255, L999, L1200, L1998, L99999, L100000, L1000005]
    obtain ⟨σ', c1', c2'⟩ := Lc s 0 FU 0 σ (by omega) (by unfold FU; omega) (by omega) hC hS hCX
    obtain ⟨τ', r1, r2⟩ := Lr s 0 FU 0 τ (by omega) (by unfold FU; omega) (by omega) hF hFX
    have gl := goodN_le (f := f) s 0 0
    obtain ⟨x, x1, x2⟩ := end_eq (g := goodN f s 0 0) (s := s) (p := p) (by omega) (by omega) (by omega) g5
    rw [x1, ob_s] at c1'
    rw [x2, ob_s] at r1
    refine ⟨x, σ', τ', ?_, ?_, RR_eq hR c2' r2⟩
    · unfold f_X8_odds
      simp (disch := omega) only [c1', ↓reduceIte, eq_self, Bool.false_eq_true, reduceCtorEq, ob_s, ob2_s, od_e, onl_n, onl_s, ι_nat, ι_add, ι_mul, ι_sub, ι_addm, lt_t, lt_f, le_t, le_f, eq_t, eq_f, inb_t, inb_f, neq_f, neq_f2, neq_nf, nlt_t, nlt_f, nle_t, nle_f, ms_at, ms_off, up_at, up_off, L0, L1, L2, L3, L4, L5, L6, L7, L8, L9, L10, L11, L12, L13, L14, L15, L16, L17, L18, L19, L20, L21, L22, L23, L24, L30, L31, L32, L40, L41, L42, L43, L45, L47, L48, L52, L57, L59, L60, L61, L63, L64, L72, L97, L99, L100, L122, L160, L161, L200, L255, L999, L1200, L1998, L99999, L100000, L1000005]
    · unfold f_X9_odds
      simp (disch := omega) only [r_in, show (0 : Int64) = ℓ 0 from rfl, r1, ↓reduceIte, eq_self, Bool.false_eq_true, reduceCtorEq, ob_s, ob2_s, od_e, onl_n, onl_s, ι_nat, ι_add, ι_mul, ι_sub, ι_addm, lt_t, lt_f, le_t, le_f, eq_t, eq_f, inb_t, inb_f, neq_f, neq_f2, neq_nf, nlt_t, nlt_f, nle_t, nle_f, ms_at, ms_off, up_at, up_off, L0, L1, L2, L3, L4, L5, L6, L7, L8, L9, L10, L11, L12, L13, L14, L15, L16, L17, L18, L19, L20, L21, L22, L23, L24, L30, L31, L32, L40, L41, L42, L43, L45, L47, L48, L52, L57, L59, L60, L61, L63, L64, L72, L97, L99, L100, L122, L160, L161, L200, L255, L999, L1200, L1998, L99999, L100000, L1000005]
  · have bc : f_X8_odds σ v1 v2 v3 v4 = some ((-4611686018427387904 : Int64), σ) := by
      unfold f_X8_odds
      rcases argN 100000 v1 with ⟨sd, d1, d2, rfl⟩ | ⟨g | ⟨k, k1, k2, rfl⟩⟩
      · rcases argN 21 v2 with ⟨s, d1', d2', rfl⟩ | ⟨g | ⟨k, k1, k2, rfl⟩⟩
        · by_cases hs : s = 0
          · subst hs
            simp (disch := omega) only [↓reduceIte, eq_self, Bool.false_eq_true, reduceCtorEq, ob_s, ob2_s, od_e, onl_n, onl_s, ι_nat, ι_add, ι_mul, ι_sub, ι_addm, lt_t, lt_f, le_t, le_f, eq_t, eq_f, inb_t, inb_f, neq_f, neq_f2, neq_nf, nlt_t, nlt_f, nle_t, nle_f, ms_at, ms_off, up_at, up_off, L0, L1, L2, L3, L4, L5, L6, L7, L8, L9, L10, L11, L12, L13, L14, L15, L16, L17, L18, L19, L20, L21, L22, L23, L24, L30, L31, L32, L40, L41, L42, L43, L45, L47, L48, L52, L57, L59, L60, L61, L63, L64, L72, L97, L99, L100, L122, L160, L161, L200, L255, L999, L1200, L1998, L99999, L100000, L1000005]
          · rcases argN 61 v3 with ⟨nn, e1, e2, rfl⟩ | ⟨g | ⟨k, k1, k2, rfl⟩⟩
            · rcases argN 2 v4 with ⟨p, p1, p2, rfl⟩ | ⟨g | ⟨k, k1, k2, rfl⟩⟩
              · exact absurd ⟨sd, s, nn, p, d1, by omega, by omega, by omega, p1, rfl, rfl, rfl, rfl⟩ hg
              · simp (disch := omega) only [ng_lt g, ng_le g, ng_gt g, ng_ge g, ng_eq g, ng_eq2 g, ng_inb g, ↓reduceIte, eq_self, Bool.false_eq_true, reduceCtorEq, ob_s, ob2_s, od_e, onl_n, onl_s, ι_nat, ι_add, ι_mul, ι_sub, ι_addm, lt_t, lt_f, le_t, le_f, eq_t, eq_f, inb_t, inb_f, neq_f, neq_f2, neq_nf, nlt_t, nlt_f, nle_t, nle_f, ms_at, ms_off, up_at, up_off, L0, L1, L2, L3, L4, L5, L6, L7, L8, L9, L10, L11, L12, L13, L14, L15, L16, L17, L18, L19, L20, L21, L22, L23, L24, L30, L31, L32, L40, L41, L42, L43, L45, L47, L48, L52, L57, L59, L60, L61, L63, L64, L72, L97, L99, L100, L122, L160, L161, L200, L255, L999, L1200, L1998, L99999, L100000, L1000005]
              · simp (disch := omega) only [↓reduceIte, eq_self, Bool.false_eq_true, reduceCtorEq, ob_s, ob2_s, od_e, onl_n, onl_s, ι_nat, ι_add, ι_mul, ι_sub, ι_addm, lt_t, lt_f, le_t, le_f, eq_t, eq_f, inb_t, inb_f, neq_f, neq_f2, neq_nf, nlt_t, nlt_f, nle_t, nle_f, ms_at, ms_off, up_at, up_off, L0, L1, L2, L3, L4, L5, L6, L7, L8, L9, L10, L11, L12, L13, L14, L15, L16, L17, L18, L19, L20, L21, L22, L23, L24, L30, L31, L32, L40, L41, L42, L43, L45, L47, L48, L52, L57, L59, L60, L61, L63, L64, L72, L97, L99, L100, L122, L160, L161, L200, L255, L999, L1200, L1998, L99999, L100000, L1000005]
            · simp (disch := omega) only [ng_lt g, ng_le g, ng_gt g, ng_ge g, ng_eq g, ng_eq2 g, ng_inb g, ↓reduceIte, eq_self, Bool.false_eq_true, reduceCtorEq, ob_s, ob2_s, od_e, onl_n, onl_s, ι_nat, ι_add, ι_mul, ι_sub, ι_addm, lt_t, lt_f, le_t, le_f, eq_t, eq_f, inb_t, inb_f, neq_f, neq_f2, neq_nf, nlt_t, nlt_f, nle_t, nle_f, ms_at, ms_off, up_at, up_off, L0, L1, L2, L3, L4, L5, L6, L7, L8, L9, L10, L11, L12, L13, L14, L15, L16, L17, L18, L19, L20, L21, L22, L23, L24, L30, L31, L32, L40, L41, L42, L43, L45, L47, L48, L52, L57, L59, L60, L61, L63, L64, L72, L97, L99, L100, L122, L160, L161, L200, L255, L999, L1200, L1998, L99999, L100000, L1000005]
            · simp (disch := omega) only [↓reduceIte, eq_self, Bool.false_eq_true, reduceCtorEq, ob_s, ob2_s, od_e, onl_n, onl_s, ι_nat, ι_add, ι_mul, ι_sub, ι_addm, lt_t, lt_f, le_t, le_f, eq_t, eq_f, inb_t, inb_f, neq_f, neq_f2, neq_nf, nlt_t, nlt_f, nle_t, nle_f, ms_at, ms_off, up_at, up_off, L0, L1, L2, L3, L4, L5, L6, L7, L8, L9, L10, L11, L12, L13, L14, L15, L16, L17, L18, L19, L20, L21, L22, L23, L24, L30, L31, L32, L40, L41, L42, L43, L45, L47, L48, L52, L57, L59, L60, L61, L63, L64, L72, L97, L99, L100, L122, L160, L161, L200, L255, L999, L1200, L1998, L99999, L100000, L1000005]
        · simp (disch := omega) only [ng_lt g, ng_le g, ng_gt g, ng_ge g, ng_eq g, ng_eq2 g, ng_inb g, ↓reduceIte, eq_self, Bool.false_eq_true, reduceCtorEq, ob_s, ob2_s, od_e, onl_n, onl_s, ι_nat, ι_add, ι_mul, ι_sub, ι_addm, lt_t, lt_f, le_t, le_f, eq_t, eq_f, inb_t, inb_f, neq_f, neq_f2, neq_nf, nlt_t, nlt_f, nle_t, nle_f, ms_at, ms_off, up_at, up_off, L0, L1, L2, L3, L4, L5, L6, L7, L8, L9, L10, L11, L12, L13, L14, L15, L16, L17, L18, L19, L20, L21, L22, L23, L24, L30, L31, L32, L40, L41, L42, L43, L45, L47, L48, L52, L57, L59, L60, L61, L63, L64, L72, L97, L99, L100, L122, L160, L161, L200, L255, L999, L1200, L1998, L99999, L100000, L1000005]
        · simp (disch := omega) only [↓reduceIte, eq_self, Bool.false_eq_true, reduceCtorEq, ob_s, ob2_s, od_e, onl_n, onl_s, ι_nat, ι_add, ι_mul, ι_sub, ι_addm, lt_t, lt_f, le_t, le_f, eq_t, eq_f, inb_t, inb_f, neq_f, neq_f2, neq_nf, nlt_t, nlt_f, nle_t, nle_f, ms_at, ms_off, up_at, up_off, L0, L1, L2, L3, L4, L5, L6, L7, L8, L9, L10, L11, L12, L13, L14, L15, L16, L17, L18, L19, L20, L21, L22, L23, L24, L30, L31, L32, L40, L41, L42, L43, L45, L47, L48, L52, L57, L59, L60, L61, L63, L64, L72, L97, L99, L100, L122, L160, L161, L200, L255, L999, L1200, L1998, L99999, L100000, L1000005]
      · simp (disch := omega) only [ng_lt g, ng_le g, ng_gt g, ng_ge g, ng_eq g, ng_eq2 g, ng_inb g, ↓reduceIte, eq_self, Bool.false_eq_true, reduceCtorEq, ob_s, ob2_s, od_e, onl_n, onl_s, ι_nat, ι_add, ι_mul, ι_sub, ι_addm, lt_t, lt_f, le_t, le_f, eq_t, eq_f, inb_t, inb_f, neq_f, neq_f2, neq_nf, nlt_t, nlt_f, nle_t, nle_f, ms_at, ms_off, up_at, up_off, L0, L1, L2, L3, L4, L5, L6, L7, L8, L9, L10, L11, L12, L13, L14, L15, L16, L17, L18, L19, L20, L21, L22, L23, L24, L30, L31, L32, L40, L41, L42, L43, L45, L47, L48, L52, L57, L59, L60, L61, L63, L64, L72, L97, L99, L100, L122, L160, L161, L200, L255, L999, L1200, L1998, L99999, L100000, L1000005]
      · simp (disch := omega) only [↓reduceIte, eq_self, Bool.false_eq_true, reduceCtorEq, ob_s, ob2_s, od_e, onl_n, onl_s, ι_nat, ι_add, ι_mul, ι_sub, ι_addm, lt_t, lt_f, le_t, le_f, eq_t, eq_f, inb_t, inb_f, neq_f, neq_f2, neq_nf, nlt_t, nlt_f, nle_t, nle_f, ms_at, ms_off, up_at, up_off, L0, L1, L2, L3, L4, L5, L6, L7, L8, L9, L10, L11, L12, L13, L14, L15, L16, L17, L18, L19, L20, L21, L22, L23, L24, L30, L31, L32, L40, L41, L42, L43, L45, L47, L48, L52, L57, L59, L60, L61, L63, L64, L72, L97, L99, L100, L122, L160, L161, L200, L255, L999, L1200, L1998, L99999, L100000, L1000005]
    have br : f_X9_odds τ v1 v2 v3 v4 = some ((-4611686018427387904 : Int64), τ) := by
      unfold f_X9_odds
      rcases argN 100000 v1 with ⟨sd, d1, d2, rfl⟩ | g1
      · rcases argN 21 v2 with ⟨s, d1', d2', rfl⟩ | g2
        · by_cases hs : s = 0
          · subst hs
            simp (disch := omega) only [r_in, r_inNo (x := ι 0) (a := 1) (b := 20) (Or.inr ⟨0, rfl, by omega, by omega⟩) (by omega) (by omega), ↓reduceIte, eq_self, Bool.false_eq_true, reduceCtorEq, ob_s, ob2_s, od_e, onl_n, onl_s, ι_nat, ι_add, ι_mul, ι_sub, ι_addm, lt_t, lt_f, le_t, le_f, eq_t, eq_f, inb_t, inb_f, neq_f, neq_f2, neq_nf, nlt_t, nlt_f, nle_t, nle_f, ms_at, ms_off, up_at, up_off, L0, L1, L2, L3, L4, L5, L6, L7, L8, L9, L10, L11, L12, L13, L14, L15, L16, L17, L18, L19, L20, L21, L22, L23, L24, L30, L31, L32, L40, L41, L42, L43, L45, L47, L48, L52, L57, L59, L60, L61, L63, L64, L72, L97, L99, L100, L122, L160, L161, L200, L255, L999, L1200, L1998, L99999, L100000, L1000005]
          · rcases argN 61 v3 with ⟨nn, e1, e2, rfl⟩ | g3
            · rcases argN 2 v4 with ⟨p, p1, p2, rfl⟩ | g4
              · exact absurd ⟨sd, s, nn, p, d1, by omega, by omega, by omega, p1, rfl, rfl, rfl, rfl⟩ hg
              · simp (disch := omega) only [r_in, outN_in (n := 1) (by omega) g4, ↓reduceIte, eq_self, Bool.false_eq_true, reduceCtorEq, ob_s, ob2_s, od_e, onl_n, onl_s, ι_nat, ι_add, ι_mul, ι_sub, ι_addm, lt_t, lt_f, le_t, le_f, eq_t, eq_f, inb_t, inb_f, neq_f, neq_f2, neq_nf, nlt_t, nlt_f, nle_t, nle_f, ms_at, ms_off, up_at, up_off, L0, L1, L2, L3, L4, L5, L6, L7, L8, L9, L10, L11, L12, L13, L14, L15, L16, L17, L18, L19, L20, L21, L22, L23, L24, L30, L31, L32, L40, L41, L42, L43, L45, L47, L48, L52, L57, L59, L60, L61, L63, L64, L72, L97, L99, L100, L122, L160, L161, L200, L255, L999, L1200, L1998, L99999, L100000, L1000005]
            · simp (disch := omega) only [r_in, outN_in (n := 60) (by omega) g3, ↓reduceIte, eq_self, Bool.false_eq_true, reduceCtorEq, ob_s, ob2_s, od_e, onl_n, onl_s, ι_nat, ι_add, ι_mul, ι_sub, ι_addm, lt_t, lt_f, le_t, le_f, eq_t, eq_f, inb_t, inb_f, neq_f, neq_f2, neq_nf, nlt_t, nlt_f, nle_t, nle_f, ms_at, ms_off, up_at, up_off, L0, L1, L2, L3, L4, L5, L6, L7, L8, L9, L10, L11, L12, L13, L14, L15, L16, L17, L18, L19, L20, L21, L22, L23, L24, L30, L31, L32, L40, L41, L42, L43, L45, L47, L48, L52, L57, L59, L60, L61, L63, L64, L72, L97, L99, L100, L122, L160, L161, L200, L255, L999, L1200, L1998, L99999, L100000, L1000005]
        · have q : f_X9_in v2 (ι 1) (ι 20) = ι 0 := r_inNo (by
            rcases g2 with g | ⟨k, k1, k2, rfl⟩
            · exact Or.inl g
            · exact Or.inr ⟨k, rfl, k2, by omega⟩) (by omega) (by omega)
          simp (disch := omega) only [r_in, q, ↓reduceIte, eq_self, Bool.false_eq_true, reduceCtorEq, ob_s, ob2_s, od_e, onl_n, onl_s, ι_nat, ι_add, ι_mul, ι_sub, ι_addm, lt_t, lt_f, le_t, le_f, eq_t, eq_f, inb_t, inb_f, neq_f, neq_f2, neq_nf, nlt_t, nlt_f, nle_t, nle_f, ms_at, ms_off, up_at, up_off, L0, L1, L2, L3, L4, L5, L6, L7, L8, L9, L10, L11, L12, L13, L14, L15, L16, L17, L18, L19, L20, L21, L22, L23, L24, L30, L31, L32, L40, L41, L42, L43, L45, L47, L48, L52, L57, L59, L60, L61, L63, L64, L72, L97, L99, L100, L122, L160, L161, L200, L255, L999, L1200, L1998, L99999, L100000, L1000005]
      · simp (disch := omega) only [outN_in (n := 99999) (by omega) g1, ↓reduceIte, eq_self, Bool.false_eq_true, reduceCtorEq, ob_s, ob2_s, od_e, onl_n, onl_s, ι_nat, ι_add, ι_mul, ι_sub, ι_addm, lt_t, lt_f, le_t, le_f, eq_t, eq_f, inb_t, inb_f, neq_f, neq_f2, neq_nf, nlt_t, nlt_f, nle_t, nle_f, ms_at, ms_off, up_at, up_off, L0, L1, L2, L3, L4, L5, L6, L7, L8, L9, L10, L11, L12, L13, L14, L15, L16, L17, L18, L19, L20, L21, L22, L23, L24, L30, L31, L32, L40, L41, L42, L43, L45, L47, L48, L52, L57, L59, L60, L61, L63, L64, L72, L97, L99, L100, L122, L160, L161, L200, L255, L999, L1200, L1998, L99999, L100000, L1000005]
    exact ⟨_, σ, τ, bc, br, hR, rfl⟩
