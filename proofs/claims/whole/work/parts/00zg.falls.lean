/-! THE PURE PART: falling -/
theorem shl_c {m : Nat} (h : m < 8) : ((1 : Int32) <<< (ι m &&& 31)) = ι (2 ^ m) := by
  have : ∀ m, m < 8 → ((1 : Int32) <<< (ι m &&& 31)) = ι (2 ^ m) := by decide +kernel
  exact this m h
theorem or_c {a m : Nat} (ha : a < 256) (hm : m < 8) : (ι a ||| ι (2 ^ m)) = ι (a ||| 2 ^ m) := by
  have : ∀ a, a < 256 → ∀ m, m < 8 → (ι a ||| ι (2 ^ m)) = ι (a ||| 2 ^ m) := by decide +kernel
  exact this a ha m hm
theorem or_lt6 {a m : Nat} (ha : a < 64) (hm : m < 6) : a ||| 2 ^ m < 64 := by
  have : ∀ a, a < 64 → ∀ m, m < 6 → a ||| 2 ^ m < 64 := by decide +kernel
  exact this a ha m hm
def pcN (z : Nat) : Nat := bitN z 0 + bitN z 1 + bitN z 2 + bitN z 3 + bitN z 4 + bitN z 5
theorem pc_mono {z g : Nat} (hz : z < 64) (hg : g < 64) (h : z ||| g = g) (hne : g ≠ z) : pcN z < pcN g ∧ pcN g ≤ 6 := by
  have : ∀ z, z < 64 → ∀ g, g < 64 → (z ||| g == g && !(g == z)) = true → (decide (pcN z < pcN g) && decide (pcN g ≤ 6)) = true := by decide +kernel
  have := this z hz g hg (by simp [h, hne])
  simpa using this
theorem ones_c {z : Nat} (hz : z < 64) : f_X9_ones (ι z) = some (ι (pcN z)) := by
  have : ∀ z, z < 64 → decide (f_X9_ones (ι z) = some (ι (pcN z))) = true := by decide +kernel
  exact of_decide_eq_true (this z hz)
theorem bits_c {z : Nat} (hz : z < 64) : f_J6_bitCount_0f7a4 (ι z) = ι (pcN z) := by
  have : ∀ z, z < 64 → decide (f_J6_bitCount_0f7a4 (ι z) = ι (pcN z)) = true := by decide +kernel
  exact of_decide_eq_true (this z hz)
def fallN (V : Nat) (A B : TB2) (z : Nat) : Nat → Nat → Nat → Nat
  | 0, _, acc => acc
  | d + 1, m, acc => fallN V A B z d (m + 1) (if owedN V B m ≤ cntA (A m) + toN V B m z then acc else acc ||| 2 ^ m)
theorem fallN_lt {V z : Nat} {A B : TB2} : ∀ d m acc, m + d ≤ 6 → acc < 64 → fallN V A B z d m acc < 64 := by
  intro d
  induction d with
  | zero => intro m acc _ h; exact h
  | succ d ih =>
    intro m acc hm h
    refine ih (m + 1) _ (by omega) ?_
    split
    · exact h
    · exact or_lt6 h (by omega)
theorem fallN_sup {V z y : Nat} {A B : TB2} : ∀ d m acc, y ||| acc = acc → y ||| fallN V A B z d m acc = fallN V A B z d m acc := by
  intro d
  induction d with
  | zero => intro m acc h; exact h
  | succ d ih =>
    intro m acc h
    refine ih (m + 1) _ ?_
    split
    · exact h
    · rw [← Nat.or_assoc, h]
theorem c_fallNext {M V w y z : Nat} {A B : TB2} {σ : Mem} (hM : M ≤ 6) (hV : V ≤ 8) (hA : OKA M A) (hB : OKB M V B) (hC : CT 15 M V w y A B σ) (hz : z < 64) : f_X6_fallenNext σ 15 (ι z) = some (ι (fallN V A B z M 0 z)) := by
  obtain ⟨a1, a2, a3, a4, a5, a6⟩ := hC
  have L : ∀ d m n acc, m + d = M → d < n → acc < 64 → f_X6_fallenNext_b4 σ 15 (ι z) n (ι acc) (ι m) = some (ι (fallN V A B z d m acc)) := by
    intro d
    induction d with
    | zero =>
      intro m n acc hm hn ha
      obtain ⟨n, rfl⟩ : ∃ k, n = k + 1 := ⟨n - 1, by omega⟩
      rw [f_X6_fallenNext_b4, a1, if_pos (by rw [le_t (by omega) (by omega)]; trivial)]
      rfl
    | succ d ih =>
      intro m n acc hm hn ha
      obtain ⟨n, rfl⟩ : ∃ k, n = k + 1 := ⟨n - 1, by omega⟩
      have hm' : m < M := by omega
      obtain ⟨e0, e1, e2, -⟩ := a5 m hm'
      obtain ⟨o0, o1, o2, -⟩ := hA m hm'
      have cc := c_counts e0 e1 e2 o0 o1 o2
      have cl := cntN_le (kd := A m 0) (m := A m 1) o2
      have ol := owedN_le (m := m) hV hB
      have tl : toN V B m z ≤ 1600 := by
        have h : ∀ d i, i + d ≤ V → sumF (fun v => if B v 4 = 0 ∧ B v 1 = m ∧ bitN z (B v 0) = 0 then B v 2 else 0) i d ≤ 200 * d := by
          intro d
          induction d with
          | zero => intro i _; exact Nat.zero_le _
          | succ d ih =>
            intro i hi
            have b := hB i (by omega)
            have := ih (i + 1) (by omega)
            show (if B i 4 = 0 ∧ B i 1 = m ∧ bitN z (B i 0) = 0 then B i 2 else 0) + _ ≤ _
            split <;> omega
        have := h V 0 (by omega)
        unfold toN
        omega
      have ot := c_owedTo (m := m) (left := z) a2 hV a6 hB hM (by omega) (by omega)
      have ow := c_owed (m := m) a2 hV a6 hB hM (by omega)
      show _ = some (ι (fallN V A B z d (m + 1) (if owedN V B m ≤ cntN (A m 0) (A m 1) (A m 2) + toN V B m z then acc else acc ||| 2 ^ m)))
      rw [f_X6_fallenNext_b4, a1, if_neg (by rw [le_f (by omega) (by omega)]; exact id), L6, if_neg (by rw [le_f (by omega) (by omega)]; exact id), if_pos (inb_t (by omega) (by omega)), ot, ob_s, ow, ob_s, ι_nat (by omega), cc, ι_add]
      unfold f_X6_fallenNext_b51
      by_cases c : owedN V B m ≤ cntN (A m 0) (A m 1) (A m 2) + toN V B m z
      · rw [if_pos (by rw [le_t c (by omega)]; trivial), if_pos c, L1, ι_add, ih _ _ _ (by omega) (by omega) ha]
      · rw [if_neg (by rw [le_f (by omega) (by omega)]; exact id), if_neg c, shl_c (by omega), or_c (by omega) (by omega), L1, ι_add, ih _ _ _ (by omega) (by omega) (or_lt6 ha (by omega))]
  unfold f_X6_fallenNext
  rw [L0, L M 0 FU z (by omega) (by unfold FU; omega) hz]
theorem r_fallStep {M V w y z : Nat} {A B : TB2} {τ : Mem} (hM : M ≤ 6) (hV : V ≤ 8) (hA : OKA M A) (hB : OKB M V B) (hF : FT M V w y A B τ) (hz : z < 64) : f_X9_fallStep τ (ι z) = some (ι (fallN V A B z M 0 z)) := by
  obtain ⟨b1, b2, b3, b4, b5, b6⟩ := hF
  have Lv : ∀ (s4 : Int32 → Int32 → Option Int32) (now : Int32) (m : Nat), m < 6 → ∀ d i n has, i + d = V → d < n → has + 200 * d < 100000 → f_X9_fallStep_b30 s4 τ (ι z) now (ι m) n (ι has) (ι i) = f_X9_fallStep_b138 s4 τ (ι z) (ι m) now (if owedN V B m ≤ has + sumF (fun v => if B v 4 = 0 ∧ B v 1 = m ∧ bitN z (B v 0) = 0 then B v 2 else 0) i d then 0 else ((1 : Int32) <<< (ι m &&& 31))) := by
    intro s4 now m hm d
    induction d with
    | zero =>
      intro i n has hi hn hb
      obtain ⟨n, rfl⟩ : ∃ k, n = k + 1 := ⟨n - 1, by omega⟩
      have ol := owedN_le (m := m) hV hB
      rw [f_X9_fallStep_b30, b2, if_pos (by rw [le_t (by omega) (by omega)]; trivial), r_owed b2 hV b6 hB hM (by omega), ob_s]
      show _ = f_X9_fallStep_b138 s4 τ (ι z) (ι m) now (if owedN V B m ≤ has + 0 then 0 else ((1 : Int32) <<< (ι m &&& 31)))
      by_cases c : owedN V B m ≤ has
      · rw [if_pos (by rw [le_t c (by omega)]; trivial), if_pos (by omega)]
      · rw [if_neg (by rw [le_f (by omega) (by omega)]; exact id), if_neg (by omega)]
    | succ d ih =>
      intro i n has hi hn hb
      obtain ⟨n, rfl⟩ : ∃ k, n = k + 1 := ⟨n - 1, by omega⟩
      have b := hB i (by omega)
      have bl := bitN_le (s := z) (f := B i 0)
      have bc := bit_c (s := z) (f := B i 0) (by omega) (by omega)
      have st := r_stands hV b6 hB (show i < V by omega)
      show _ = f_X9_fallStep_b138 s4 τ (ι z) (ι m) now (if owedN V B m ≤ has + ((if B i 4 = 0 ∧ B i 1 = m ∧ bitN z (B i 0) = 0 then B i 2 else 0) + sumF (fun v => if B v 4 = 0 ∧ B v 1 = m ∧ bitN z (B v 0) = 0 then B v 2 else 0) (i + 1) d) then 0 else ((1 : Int32) <<< (ι m &&& 31)))
      have go : ∀ x, x ≤ 200 → f_X9_fallStep_b30 s4 τ (ι z) now (ι m) n (ι (has + x)) (ι (i + 1)) = f_X9_fallStep_b138 s4 τ (ι z) (ι m) now (if owedN V B m ≤ has + (x + sumF (fun v => if B v 4 = 0 ∧ B v 1 = m ∧ bitN z (B v 0) = 0 then B v 2 else 0) (i + 1) d) then 0 else ((1 : Int32) <<< (ι m &&& 31))) := by
        intro x hx
        rw [ih (i + 1) n (has + x) (by omega) (by omega) (by omega), Nat.add_assoc]
      rw [f_X9_fallStep_b30, b2, if_neg (by rw [le_f (by omega) (by omega)]; exact id)]
      unfold f_X9_fallStep_b85 f_X9_fallStep_b86 f_X9_fallStep_b111
      by_cases h1 : B i 1 = m
      · by_cases h2 : B i 4 = 0
        · rw [if_pos h2] at st
          by_cases h3 : bitN z (B i 0) = 0
          · rw [h3] at bc
            rw [show (if B i 4 = 0 ∧ B i 1 = m ∧ bitN z (B i 0) = 0 then B i 2 else 0) = B i 2 from if_pos ⟨h2, h1, h3⟩, ← go _ b.2.2.2.1]
            simp (disch := omega) only [fb_0 b6, fb_1 b6, fb_2 b6, st, bc, h1, show (31 : Int32) = ι 31 from rfl, ↓reduceIte, eq_self, Bool.false_eq_true, reduceCtorEq, ob_s, ob2_s, od_e, onl_n, onl_s, ι_nat, ι_add, ι_mul, ι_sub, ι_addm, lt_t, lt_f, le_t, le_f, eq_t, eq_f, inb_t, inb_f, neq_f, neq_f2, neq_nf, nlt_t, nlt_f, nle_t, nle_f, ms_at, ms_off, up_at, up_off, L0, L1, L2, L3, L4, L5, L6, L7, L8, L9, L10, L11, L12, L13, L14, L15, L16, L17, L18, L19, L20, L21, L22, L23, L24, L30, L31, L32, L40, L41, L42, L43, L45, L47, L48, L52, L57, L59, L60, L61, L63, L64, L72, L97, L99, L100, L122, L160, L161, L200, L255, L999, L1200, L1998, L99999, L100000, L1000005]
          · rw [show (if B i 4 = 0 ∧ B i 1 = m ∧ bitN z (B i 0) = 0 then B i 2 else 0) = 0 from if_neg (fun h => h3 h.2.2), ← go 0 (by omega)]
            simp (disch := omega) only [fb_0 b6, fb_1 b6, fb_2 b6, st, bc, h1, show (31 : Int32) = ι 31 from rfl, ↓reduceIte, eq_self, Bool.false_eq_true, reduceCtorEq, ob_s, ob2_s, od_e, onl_n, onl_s, ι_nat, ι_add, ι_mul, ι_sub, ι_addm, lt_t, lt_f, le_t, le_f, eq_t, eq_f, inb_t, inb_f, neq_f, neq_f2, neq_nf, nlt_t, nlt_f, nle_t, nle_f, ms_at, ms_off, up_at, up_off, L0, L1, L2, L3, L4, L5, L6, L7, L8, L9, L10, L11, L12, L13, L14, L15, L16, L17, L18, L19, L20, L21, L22, L23, L24, L30, L31, L32, L40, L41, L42, L43, L45, L47, L48, L52, L57, L59, L60, L61, L63, L64, L72, L97, L99, L100, L122, L160, L161, L200, L255, L999, L1200, L1998, L99999, L100000, L1000005]
        · rw [if_neg h2] at st
          rw [show (if B i 4 = 0 ∧ B i 1 = m ∧ bitN z (B i 0) = 0 then B i 2 else 0) = 0 from if_neg (fun h => h2 h.1), ← go 0 (by omega)]
          simp (disch := omega) only [fb_0 b6, fb_1 b6, fb_2 b6, st, h1, ↓reduceIte, eq_self, Bool.false_eq_true, reduceCtorEq, ob_s, ob2_s, od_e, onl_n, onl_s, ι_nat, ι_add, ι_mul, ι_sub, ι_addm, lt_t, lt_f, le_t, le_f, eq_t, eq_f, inb_t, inb_f, neq_f, neq_f2, neq_nf, nlt_t, nlt_f, nle_t, nle_f, ms_at, ms_off, up_at, up_off, L0, L1, L2, L3, L4, L5, L6, L7, L8, L9, L10, L11, L12, L13, L14, L15, L16, L17, L18, L19, L20, L21, L22, L23, L24, L30, L31, L32, L40, L41, L42, L43, L45, L47, L48, L52, L57, L59, L60, L61, L63, L64, L72, L97, L99, L100, L122, L160, L161, L200, L255, L999, L1200, L1998, L99999, L100000, L1000005]
      · rw [show (if B i 4 = 0 ∧ B i 1 = m ∧ bitN z (B i 0) = 0 then B i 2 else 0) = 0 from if_neg (fun h => h1 h.2.1), ← go 0 (by omega)]
        simp (disch := omega) only [fb_0 b6, fb_1 b6, fb_2 b6, st, ↓reduceIte, eq_self, Bool.false_eq_true, reduceCtorEq, ob_s, ob2_s, od_e, onl_n, onl_s, ι_nat, ι_add, ι_mul, ι_sub, ι_addm, lt_t, lt_f, le_t, le_f, eq_t, eq_f, inb_t, inb_f, neq_f, neq_f2, neq_nf, nlt_t, nlt_f, nle_t, nle_f, ms_at, ms_off, up_at, up_off, L0, L1, L2, L3, L4, L5, L6, L7, L8, L9, L10, L11, L12, L13, L14, L15, L16, L17, L18, L19, L20, L21, L22, L23, L24, L30, L31, L32, L40, L41, L42, L43, L45, L47, L48, L52, L57, L59, L60, L61, L63, L64, L72, L97, L99, L100, L122, L160, L161, L200, L255, L999, L1200, L1998, L99999, L100000, L1000005]
  have L : ∀ d m n acc, m + d = M → d < n → acc < 64 → f_X9_fallStep_b4 τ (ι z) n (ι acc) (ι m) = some (ι (fallN V A B z d m acc)) := by
    intro d
    induction d with
    | zero =>
      intro m n acc hm hn ha
      obtain ⟨n, rfl⟩ : ∃ k, n = k + 1 := ⟨n - 1, by omega⟩
      rw [f_X9_fallStep_b4, b1, if_pos (by rw [le_t (by omega) (by omega)]; trivial)]
      rfl
    | succ d ih =>
      intro m n acc hm hn ha
      obtain ⟨n, rfl⟩ : ∃ k, n = k + 1 := ⟨n - 1, by omega⟩
      have hm' : m < M := by omega
      obtain ⟨e0, e1, e2, -⟩ := b5 m hm'
      obtain ⟨o0, o1, o2, -⟩ := hA m hm'
      have cc := r_counts (b := A m 2) e0 e1 (show m < 6 by omega) o0 o1 o2
      have cl := cntN_le (kd := A m 0) (m := A m 1) o2
      show _ = some (ι (fallN V A B z d (m + 1) (if owedN V B m ≤ cntN (A m 0) (A m 1) (A m 2) + sumF (fun v => if B v 4 = 0 ∧ B v 1 = m ∧ bitN z (B v 0) = 0 then B v 2 else 0) 0 V then acc else acc ||| 2 ^ m)))
      rw [f_X9_fallStep_b4, b1, if_neg (by rw [le_f (by omega) (by omega)]; exact id), L4, ι_mul, if_pos (inb_t (by omega) (by omega)), ι_nat (by omega), e2, cc, ob_s, L0, Lv _ _ m (by omega) V 0 FU _ (by omega) (by unfold FU; omega) (by omega)]
      unfold f_X9_fallStep_b138
      by_cases c : owedN V B m ≤ cntN (A m 0) (A m 1) (A m 2) + sumF (fun v => if B v 4 = 0 ∧ B v 1 = m ∧ bitN z (B v 0) = 0 then B v 2 else 0) 0 V
      · rw [if_pos c, if_pos c, L0, or_z, L1, ι_add, ih _ _ _ (by omega) (by omega) ha]
      · rw [if_neg c, if_neg c, shl_c (by omega), or_c (by omega) (by omega), L1, ι_add, ih _ _ _ (by omega) (by omega) (or_lt6 ha (by omega))]
  unfold f_X9_fallStep
  rw [L0, L M 0 FU z (by omega) (by unfold FU; omega) hz]
/-- step by step till nobody comes to it: who has fallen, behind how many steps -/
def fallD (G : Nat → Nat) : Nat → Nat → Nat → Nat × Nat
  | 0, z, n => (z, n)
  | d + 1, z, n => if G z = z then (z, n) else fallD G d (G z) (n + 1)
theorem fallD_more {G : Nat → Nat} (h1 : ∀ z, z < 64 → G z < 64) (h2 : ∀ z, z ||| G z = G z) : ∀ k e z n, z < 64 → 6 - pcN z ≤ k → fallD G (k + e) z n = fallD G k z n := by
  intro k
  induction k with
  | zero =>
    intro e z n hz hp
    by_cases c : G z = z
    · cases e with
      | zero => rfl
      | succ e =>
        show fallD G (0 + (e + 1)) z n = (z, n)
        rw [Nat.zero_add]
        show (if G z = z then (z, n) else fallD G e (G z) (n + 1)) = (z, n)
        rw [if_pos c]
    · have := pc_mono hz (h1 z hz) (h2 z) c
      omega
  | succ k ih =>
    intro e z n hz hp
    rw [show k + 1 + e = k + e + 1 by omega]
    show (if G z = z then (z, n) else fallD G (k + e) (G z) (n + 1)) = (if G z = z then (z, n) else fallD G k (G z) (n + 1))
    by_cases c : G z = z
    · rw [if_pos c, if_pos c]
    · have := pc_mono hz (h1 z hz) (h2 z) c
      rw [if_neg c, if_neg c, ih e (G z) (n + 1) (h1 z hz) (by omega)]
theorem fallD_lt {G : Nat → Nat} (h1 : ∀ z, z < 64 → G z < 64) : ∀ d z n, z < 64 → (fallD G d z n).1 < 64 ∧ (fallD G d z n).2 ≤ n + d := by
  intro d
  induction d with
  | zero => intro z n hz; exact ⟨hz, Nat.le_refl _⟩
  | succ d ih =>
    intro z n hz
    show (if G z = z then (z, n) else fallD G d (G z) (n + 1)).1 < 64 ∧ (if G z = z then (z, n) else fallD G d (G z) (n + 1)).2 ≤ n + (d + 1)
    by_cases c : G z = z
    · rw [if_pos c]
      exact ⟨hz, by show n ≤ _; omega⟩
    · rw [if_neg c]
      have := ih (G z) (n + 1) (h1 z hz)
      exact ⟨this.1, by omega⟩
def fallG (M V : Nat) (A B : TB2) (z : Nat) : Nat := fallN V A B z M 0 z
theorem fallG_lt {M V : Nat} {A B : TB2} (hM : M ≤ 6) : ∀ z, z < 64 → fallG M V A B z < 64 := fun z hz => fallN_lt M 0 z (by omega) hz
theorem fallG_sup {M V : Nat} {A B : TB2} : ∀ z, z ||| fallG M V A B z = fallG M V A B z := fun z => fallN_sup M 0 z (Nat.or_self z)
theorem c_falling {M V w y : Nat} {A B : TB2} {σ : Mem} (hM : M ≤ 6) (hV : V ≤ 8) (hA : OKA M A) (hB : OKB M V B) (hC : CT 15 M V w y A B σ) {z q : Nat} (hz : z < 64) (hq : q < 2) : f_X8_falling σ (ι z) (ι q) = some (ι (if q = 0 then (fallD (fallG M V A B) 6 z 0).1 else (fallD (fallG M V A B) 6 z 0).2)) := by
  have L : ∀ d i n z s, i + d = 6 → d < n → z < 64 → s + d < 1000 → f_X8_falling_b8 σ (ι q) n (ι z) (ι s) (ι i) = some (ι (if q = 0 then (fallD (fallG M V A B) d z s).1 else (fallD (fallG M V A B) d z s).2)) := by
    intro d
    induction d with
    | zero =>
      intro i n z s hi hn hz hs
      obtain ⟨n, rfl⟩ : ∃ k, n = k + 1 := ⟨n - 1, by omega⟩
      rw [f_X8_falling_b8, L6, if_pos (by rw [le_t (by omega) (by omega)]; trivial)]
      unfold f_X8_falling_b46
      by_cases c : q = 0
      · rw [if_pos (by rw [c]; rfl), if_pos c]
        rfl
      · rw [if_neg (by rw [L0, eq_f c (by omega) (by omega)]; exact id), if_neg c]
        rfl
    | succ d ih =>
      intro i n z s hi hn hz hs
      obtain ⟨n, rfl⟩ : ∃ k, n = k + 1 := ⟨n - 1, by omega⟩
      have hg := fallG_lt (V := V) (A := A) (B := B) hM z hz
      have hn1 := c_fallNext hM hV hA hB hC hz
      rw [f_X8_falling_b8, L6, if_neg (by rw [le_f (by omega) (by omega)]; exact id), hn1, ob_s]
      show (if ι (fallG M V A B z) = ι z then _ else _) = some (ι (if q = 0 then (if fallG M V A B z = z then (z, s) else fallD (fallG M V A B) d (fallG M V A B z) (s + 1)).1 else (if fallG M V A B z = z then (z, s) else fallD (fallG M V A B) d (fallG M V A B z) (s + 1)).2))
      by_cases c : fallG M V A B z = z
      · rw [if_pos (by rw [c]), if_pos c]
        unfold f_X8_falling_b46
        by_cases c : q = 0
        · rw [if_pos (by rw [c]; rfl), if_pos c]
        · rw [if_neg (by rw [L0, eq_f c (by omega) (by omega)]; exact id), if_neg c]
      · rw [if_neg (by rw [eq_f c (by omega) (by omega)]; exact id), if_neg c, L1, ι_add, ι_add]
        exact ih (i + 1) n _ (s + 1) (by omega) (by omega) hg (by omega)
  unfold f_X8_falling
  rw [L0]
  exact L 6 0 FU z 0 (by omega) (by unfold FU; omega) hz (by omega)
theorem r_fallen {M V w y : Nat} {A B : TB2} {τ : Mem} (hM : M ≤ 6) (hV : V ≤ 8) (hA : OKA M A) (hB : OKB M V B) (hF : FT M V w y A B τ) {z : Nat} (hz : z < 64) : ∃ τ', f_X9_fallen τ (ι z) = some (ι (fallD (fallG M V A B) 6 z 0).1, τ') ∧ τ' 0 44 = ι (fallD (fallG M V A B) 6 z 0).2 ∧ eqR τ τ' := by
  have L : ∀ d n z s (τ : Mem), d < n → z < 64 → s + d < 1000 → 6 - pcN z < d → FT M V w y A B τ → τ 0 44 = ι s → ∃ τ', f_X9_fallen_b13 n τ (ι z) (ι (fallG M V A B z)) = some (ι (fallD (fallG M V A B) d z s).1, τ') ∧ τ' 0 44 = ι (fallD (fallG M V A B) d z s).2 ∧ eqR τ τ' := by
    intro d
    induction d with
    | zero => intro n z s τ hn hz hs hp hF h44; omega
    | succ d ih =>
      intro n z s τ hn hz hs hp hF h44
      obtain ⟨n, rfl⟩ : ∃ k, n = k + 1 := ⟨n - 1, by omega⟩
      have hg := fallG_lt (V := V) (A := A) (B := B) hM z hz
      show ∃ τ', _ = some (ι (if fallG M V A B z = z then (z, s) else fallD (fallG M V A B) d (fallG M V A B z) (s + 1)).1, τ') ∧ τ' 0 44 = ι (if fallG M V A B z = z then (z, s) else fallD (fallG M V A B) d (fallG M V A B z) (s + 1)).2 ∧ eqR τ τ'
      by_cases c : fallG M V A B z = z
      · refine ⟨τ, ?_, ?_, eqR.rfl⟩
        · rw [f_X9_fallen_b13, if_pos (by rw [c]), if_pos c]
        · rw [if_pos c]
          exact h44
      · have hpm := pc_mono hz hg (fallG_sup z) c
        have e1 : eqR τ (ms τ 0 44 (ι (s + 1))) := fun k j h => ms_off (by unfold sR at h; omega)
        have hF1 := FT_sc hM hV e1 hF
        obtain ⟨τ', g1, g2, g3⟩ := ih n (fallG M V A B z) (s + 1) (ms τ 0 44 (ι (s + 1))) (by omega) hg (by omega) (by omega) hF1 (ms_at rfl rfl)
        refine ⟨τ', ?_, ?_, e1.tr g3⟩
        · rw [f_X9_fallen_b13, if_neg (by rw [eq_f c (by omega) (by omega)]; exact id), h44, L1, ι_add, r_fallStep hM hV hA hB hF1 hg, ob_s, if_neg c]
          exact g1
        · rw [if_neg c]
          exact g2
  have e0 : eqR τ (ms τ 0 44 (ι 0)) := fun k j h => ms_off (by unfold sR at h; omega)
  obtain ⟨τ', g1, g2, g3⟩ := L 7 FU z 0 (ms τ 0 44 (ι 0)) (by unfold FU; omega) hz (by omega) (by omega) (FT_sc hM hV e0 hF) (ms_at rfl rfl)
  rw [show (7 : Nat) = 6 + 1 from rfl, fallD_more (fallG_lt hM) fallG_sup 6 1 z 0 hz (by omega)] at g1 g2
  refine ⟨τ', ?_, g2, e0.tr g3⟩
  unfold f_X9_fallen
  rw [r_fallStep hM hV hA hB hF hz, ob_s, L0]
  exact g1
theorem pow_le6 {M : Nat} (h : M ≤ 6) : 2 ^ M ≤ 64 ∧ 1 ≤ 2 ^ M := by
  have : ∀ M, M ≤ 6 → 2 ^ M ≤ 64 ∧ 1 ≤ 2 ^ M := by decide
  exact this M h
theorem op_falls : OP_falls RR := by
  intro σ τ v1 v2 hR
  obtain ⟨M, V, w, y, A, B, T, X, h0, hA, hB, hOX, hC, hS, hS9, hF, hCX, hFX, hI, hSh, hD⟩ := id hR
  obtain ⟨hM, hV, hw, hy⟩ := id h0
  obtain ⟨hB, hBs⟩ := id hB
  obtain ⟨a1, a2, a3, a4, a5, a6⟩ := id hC
  obtain ⟨b1, b2, b3, b4, b5, b6⟩ := id hF
  have hT := hOX.2.1
  have c1 := hCX.1
  have f1 := hFX.1
  have hp := pow_le6 hM
  unfold f_X8_falls f_X9_falls
  rw [a1, b1, shl_c (by omega), L0, L1]
  rcases argN (2 ^ M) v1 with ⟨z, z1, z2, rfl⟩ | g1
  · have e1 := r_inM z1 (by omega)
    rcases argN 2 v2 with ⟨q, q1, q2, rfl⟩ | g2
    · obtain ⟨τ', t1, t2, t3⟩ := r_fallen hM hV hA hB hF (z := z) (by omega)
      refine ⟨ι (if q = 0 then (fallD (fallG M V A B) 6 z 0).1 else (fallD (fallG M V A B) 6 z 0).2), τ', ?_, ?_, (RR_eq hR eqC.rfl t3).1⟩
      · rw [if_neg (by rw [lt_f (by omega) (by omega)]; exact id), if_neg (by rw [le_f z1 (by omega)]; exact id), if_neg (by rw [lt_f (by omega) (by omega)]; exact id), if_pos (by rw [le_t (by omega) (by omega)]; trivial), c_falling hM hV hA hB hC (by omega) q1, ob_s]
      · rw [e1, if_neg (by decide), r_in (by omega) (by omega) (by omega), if_neg (by decide), t1, ob2_s, t2]
        by_cases c : q = 0
        · rw [if_pos (by rw [c]), if_pos c]
        · rw [if_neg (by rw [eq_f c (by omega) (by omega)]; exact id), if_neg c]
    · refine ⟨-ι 2, τ, ?_, ?_, hR⟩
      · rw [if_neg (by rw [lt_f (by omega) (by omega)]; exact id), if_neg (by rw [le_f z1 (by omega)]; exact id)]
        rcases g2 with g | ⟨k, k1, k2, rfl⟩
        · rw [if_pos (by rw [ng_lt g (by omega)]; trivial)]
          rfl
        · rw [if_neg (by rw [lt_f (by omega) (by omega)]; exact id), if_neg (by rw [le_f (by omega) (by omega)]; exact id)]
          rfl
      · rw [e1, if_neg (by decide), outN_in (n := 1) (by omega) g2, if_pos rfl]
        rfl
  · refine ⟨-ι 2, τ, ?_, ?_, hR⟩
    · rcases g1 with g | ⟨k, k1, k2, rfl⟩
      · rw [if_pos (by rw [ng_lt g (by omega)]; trivial)]
        rfl
      · rw [if_neg (by rw [lt_f (by omega) (by omega)]; exact id), if_pos (by rw [le_t k1 (by omega)]; trivial)]
        rfl
    · rw [r_inMNo (by omega) g1, if_pos rfl]
      rfl
theorem op_pillar : OP_pillar RR := by
  intro σ τ v1 hR
  obtain ⟨M, V, w, y, A, B, T, X, h0, hA, hB, hOX, hC, hS, hS9, hF, hCX, hFX, hI, hSh, hD⟩ := id hR
  obtain ⟨hM, hV, hw, hy⟩ := id h0
  obtain ⟨hB, hBs⟩ := id hB
  obtain ⟨a1, a2, a3, a4, a5, a6⟩ := id hC
  obtain ⟨b1, b2, b3, b4, b5, b6⟩ := id hF
  have hT := hOX.2.1
  have c1 := hCX.1
  have f1 := hFX.1
  unfold f_X8_pillar f_X9_pillar
  rcases argN 2 v1 with ⟨q, q1, q2, rfl⟩ | g1
  · have L : ∀ d m n (bb mm : Nat) (τ : Mem), m + d = M → d < n → bb < 100 → mm < 100 → FT M V w y A B τ → ∃ r τ', f_X8_pillar_b19 σ (ι q) n (pl bb) (pl mm) (ι m) = some r ∧ f_X9_pillar_b19 (ι q) n τ (pl bb) (pl mm) (ι m) = some (r, τ') ∧ eqR τ τ' := by
      intro d
      induction d with
      | zero =>
        intro m n bb mm τ hm hn hb hmm hF
        obtain ⟨n, rfl⟩ : ∃ k, n = k + 1 := ⟨n - 1, by omega⟩
        have b1 := hF.1
        have hle : ι M ≤ ι m := by
          rw [le_t (by omega) (by omega)]
          trivial
        rw [f_X8_pillar_b19, f_X9_pillar_b19, a1, b1, if_pos hle, if_pos hle]
        by_cases c : ι q = (0 : Int32)
        · rw [if_pos c, if_pos c]
          exact ⟨_, _, rfl, rfl, eqR.rfl⟩
        · rw [if_neg c, if_neg c]
          exact ⟨_, _, rfl, rfl, eqR.rfl⟩
      | succ d ih =>
        intro m n bb mm τ hm hn hb hmm hF
        obtain ⟨n, rfl⟩ : ∃ k, n = k + 1 := ⟨n - 1, by omega⟩
        have b1 := hF.1
        have hz : 2 ^ m < 64 := by
          have : ∀ m, m < 6 → 2 ^ m < 64 := by decide
          exact this m (by omega)
        obtain ⟨τ1, t1, t2, t3⟩ := r_fallen hM hV hA hB hF hz
        have hc := c_falling (q := 0) hM hV hA hB hC hz (by decide)
        rw [if_pos rfl] at hc
        have hl := (fallD_lt (fallG_lt (V := V) (A := A) (B := B) hM) 6 (2 ^ m) 0 hz).1
        have hpc : pcN (fallD (fallG M V A B) 6 (2 ^ m) 0).1 ≤ 6 := by
          have : ∀ z, z < 64 → pcN z ≤ 6 := by decide +kernel
          exact this _ hl
        have hF1 := FT_sc hM hV t3 hF
        have hnle : ¬ ι M ≤ ι m := by
          rw [le_f (by omega) (by omega)]
          exact id
        rw [f_X8_pillar_b19, f_X9_pillar_b19, a1, b1, if_neg hnle, if_neg hnle, shl_c (by omega), L0, hc, ob_s, t1, ob2_s, bits_c hl, ones_c hl, ob_s]
        unfold f_X8_pillar_b57 f_X9_pillar_b53 f_X9_pillar_b66
        by_cases c : pcN (fallD (fallG M V A B) 6 (2 ^ m) 0).1 + 1 ≤ mm
        · have hle : ι (pcN (fallD (fallG M V A B) 6 (2 ^ m) 0).1) ≤ pl mm := by
            rw [pl_s (by omega), le_t (by omega) (by omega)]; trivial
          rw [if_pos hle, if_pos hle, if_pos hle, L1, ι_add]
          obtain ⟨r, τ', g1, g2, g3⟩ := ih (m + 1) n bb mm τ1 (by omega) (by omega) hb hmm hF1
          exact ⟨r, τ', g1, g2, t3.tr g3⟩
        · have hle : ¬ ι (pcN (fallD (fallG M V A B) 6 (2 ^ m) 0).1) ≤ pl mm := by
            by_cases z : mm = 0
            · rw [pl_0 z, nle_f (by omega) (by omega) (by omega)]; exact id
            · rw [pl_s (by omega), le_f (by omega) (by omega)]; exact id
          rw [if_neg hle, if_neg hle, if_neg hle, L1, ι_add]
          obtain ⟨r, τ', g1, g2, g3⟩ := ih (m + 1) n (m + 1) (pcN (fallD (fallG M V A B) 6 (2 ^ m) 0).1 + 1) τ1 (by omega) (by omega) (by omega) (by omega) hF1
          rw [pl_s (by omega), pl_s (by omega), Nat.add_sub_cancel, Nat.add_sub_cancel] at g1 g2
          exact ⟨r, τ', g1, g2, t3.tr g3⟩
    obtain ⟨r, τ', g1, g2, g3⟩ := L M 0 FU 0 0 τ (by omega) (by unfold FU; omega) (by omega) (by omega) hF
    refine ⟨r, τ', ?_, ?_, (RR_eq hR eqC.rfl g3).1⟩
    · rw [L0, if_neg (by rw [lt_f (by omega) (by omega)]; exact id), L1, if_pos (by rw [le_t (by omega) (by omega)]; trivial)]
      exact g1
    · rw [L0, L1, r_in (by omega) (by omega) (by omega), if_neg (by decide)]
      exact g2
  · refine ⟨-ι 2, τ, ?_, ?_, hR⟩
    · rcases g1 with g | ⟨k, k1, k2, rfl⟩
      · rw [L0, if_pos (by rw [ng_lt g (by omega)]; trivial)]
        rfl
      · rw [L0, if_neg (by rw [lt_f (by omega) (by omega)]; exact id), L1, if_neg (by rw [le_f (by omega) (by omega)]; exact id)]
        rfl
    · rw [L0, L1, outN_in (n := 1) (by omega) g1, if_pos rfl]
      rfl
