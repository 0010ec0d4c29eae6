/-! THE PURE PART: the reference's next token -/
def kdv (t : Nat) : Int32 := if t < 20000 then 1 else if t < 20007 then 2 else if t = 20010 then 4 else if t = 20011 then 5 else if t = 20012 then 60 else if t = 20013 then 61 else if t = 20014 then 43 else if t = 20015 then 45 else if t = 20016 then 42 else if t = 20017 then 6 else if t = 20020 then 3 else if t = 20021 then 3 else if t = 20022 then 3 else if t = 20030 then 40 else if t = 20031 then 41 else if t = 20032 then 59 else if t = 20041 then 0 else -1
def maR (b : Nat → Nat) (k p e : Nat) : Nat → Nat → Bool
  | 0, _ => true
  | d + 1, c => decide (wtab (8 * k + c) = if p + c < e then ι (b (p + c)) else ι 32) && maR b k p e d (c + 1)
theorem maR_iff {b : Nat → Nat} {k p e : Nat} : ∀ d j, maR b k p e d j = true ↔ ∀ i, j ≤ i → i < j + d → wtab (8 * k + i) = if p + i < e then ι (b (p + i)) else ι 32
  | 0, j => ⟨fun _ i h1 h2 => absurd h2 (by omega), fun _ => rfl⟩
  | d + 1, j => by
    show (decide (wtab (8 * k + j) = if p + j < e then ι (b (p + j)) else ι 32) && maR b k p e d (j + 1)) = true ↔ _
    rw [Bool.and_eq_true, decide_eq_true_iff, maR_iff d (j + 1)]
    constructor
    · intro ⟨h1, h2⟩ i hi hj
      by_cases e : i = j
      · rw [e]; exact h1
      · exact h2 i (by omega) (by omega)
    · intro h
      exact ⟨h j (Nat.le_refl j) (by omega), fun i h1 h2 => h i (by omega) (by omega)⟩
theorem wtab_c : ∀ k, k < 12 → wLn k ≤ 6 ∧ ∀ c, c < 8 → wtab (8 * k + c) = (if c < wLn k then ι (wLt k c) else ι 32) ∧ (c < wLn k → 97 ≤ wLt k c ∧ wLt k c ≤ 122) := by decide +kernel
theorem maR_wd {b : Nat → Nat} {k p e : Nat} (hk : k < 12) (hpe : p ≤ e) (h8 : e - p ≤ 8) (hl : ∀ j, p ≤ j → j < e → 97 ≤ b j ∧ b j ≤ 122) : maR b k p e 8 0 = wdB b p e k := by
  obtain ⟨w1, w2⟩ := wtab_c k hk
  refine Bool.eq_iff_iff.mpr ?_
  rw [maR_iff, wdB_iff]
  constructor
  · intro h
    have h' : ∀ i, i < 8 → (if i < wLn k then ι (wLt k i) else ι 32) = if p + i < e then ι (b (p + i)) else ι 32 := fun i hi => by rw [← (w2 i hi).1]; exact h i (Nat.zero_le i) (by omega)
    have hlen : e - p = wLn k := by
      by_cases c1 : e - p < wLn k
      · exfalso
        have := h' (e - p) (by omega)
        have w3 := (w2 (e - p) (by omega)).2 c1
        rw [if_pos c1, if_neg (by omega), eq_f (by omega) (by omega) (by omega)] at this
        exact this
      · by_cases c2 : wLn k < e - p
        · exfalso
          have := h' (wLn k) (by omega)
          have w3 := hl (p + wLn k) (by omega) (by omega)
          rw [if_neg (Nat.lt_irrefl _), if_pos (by omega), eq_f (by omega) (by omega) (by omega)] at this
          exact this
        · omega
    refine ⟨hlen, fun i hi => ?_⟩
    have := h' i (by omega)
    have w3 := (w2 i (by omega)).2 hi
    have w4 := hl (p + i) (by omega) (by omega)
    rw [if_pos hi, if_pos (by omega)] at this
    exact ι_inj (by omega) (by omega) this
  · intro ⟨h1, h2⟩ i _ hi
    rw [(w2 i (by omega)).1]
    by_cases c : i < wLn k
    · rw [if_pos c, if_pos (by omega), h2 i c]
    · rw [if_neg c, if_neg (by omega)]
theorem r_b26z {s2 : Int32 → Option Int32} {σ : Mem} {v1 v2 : Int32} {k c m : Nat} (hm : 0 < m) : f_X9_wordFrom_b26 s2 σ v1 v2 (ι k) m (ι 0) (ι c) = s2 (ι (k + 1)) := by
  obtain ⟨m, rfl⟩ : ∃ q, m = q + 1 := ⟨m - 1, by omega⟩
  rw [f_X9_wordFrom_b26]
  have e : f_X9_wordFrom_b88 s2 σ v1 v2 (ι k) (ι 0) = s2 (ι (k + 1)) := by
    unfold f_X9_wordFrom_b88
    rw [if_pos (show ι 0 = (0 : Int32) from rfl), L1, ι_add]
  rw [e, if_pos (show ι 0 = (0 : Int32) from rfl), ite_self]
theorem r_b26 {n p e k : Nat} {b : Nat → Nat} {τ : Mem} {s2 : Int32 → Option Int32} (h : TF n b τ) (hn : n ≤ 160) (hpe : p ≤ e) (he : e ≤ n) (hk : k < 12) : ∀ d c m, c + d = 8 → d < m → f_X9_wordFrom_b26 s2 τ (ι p) (ι e) (ι k) m (ι 1) (ι c) = if maR b k p e d c = true then some (ι k) else s2 (ι (k + 1)) := by
  intro d
  induction d with
  | zero =>
    intro c m hc hm
    obtain ⟨m, rfl⟩ : ∃ q, m = q + 1 := ⟨m - 1, by omega⟩
    rw [f_X9_wordFrom_b26, if_pos (show (8 : Int32) ≤ ι c by rw [L8, le_t (by omega) (by omega)]; trivial)]
    rfl
  | succ d ih =>
    intro c m hc hm
    obtain ⟨m, rfl⟩ : ∃ q, m = q + 1 := ⟨m - 1, by omega⟩
    have hw := h.2 (8 * k + c) (by omega)
    show _ = if (decide (wtab (8 * k + c) = if p + c < e then ι (b (p + c)) else ι 32) && maR b k p e d (c + 1)) = true then some (ι k) else s2 (ι (k + 1))
    have step : ∀ x : Int32, f_X9_wordFrom_b72 s2 (f_X9_wordFrom_b26 s2 τ (ι p) (ι e) (ι k) m) τ (ι p) (ι e) (ι k) (ι c) (wtab (8 * k + c)) x = if (decide (wtab (8 * k + c) = x) && maR b k p e d (c + 1)) = true then some (ι k) else s2 (ι (k + 1)) := by
      intro x
      unfold f_X9_wordFrom_b72 f_X9_wordFrom_b80
      rw [L1, ι_add]
      by_cases g : wtab (8 * k + c) = x
      · rw [if_pos g, decide_eq_true g, Bool.true_and]
        exact ih (c + 1) m (by omega) (by omega)
      · rw [if_neg g, decide_eq_false g, Bool.false_and, L0, r_b26z (by omega)]
        rfl
    rw [f_X9_wordFrom_b26, if_neg (show ¬ (8 : Int32) ≤ ι c by rw [L8, le_f (by omega) (by omega)]; exact id), if_neg (show ¬ ι 1 = (0 : Int32) by decide), L8, ι_mul, ι_add, if_pos (inb_t (show 8 * k + c < 96 by omega) (by omega)), ι_nat (show 8 * k + c < 2147483648 by omega), hw, ι_add]
    by_cases g : p + c < e
    · rw [if_neg (show ¬ ι e ≤ ι (p + c) by rw [le_f (by omega) (by omega)]; exact id), if_pos (inb_t (show p + c < 160 by omega) (by omega)), ι_nat (by omega), h.1.2 (p + c) (by omega), step, if_pos g]
    · rw [if_pos (show ι e ≤ ι (p + c) by rw [le_t (by omega) (by omega)]; trivial), L32, step, if_neg g]
theorem r_word {n p e : Nat} {b : Nat → Nat} {τ : Mem} (h : TF n b τ) (hn : n ≤ 160) (hpe : p ≤ e) (he : e ≤ n) (hl : ∀ j, p ≤ j → j < e → 97 ≤ b j ∧ b j ≤ 122) : f_X9_wordFrom τ (ι p) (ι e) = some (ι (wkN b p e)) := by
  have go : ∀ d k m, k + d = 12 → d < m → f_X9_wordFrom_b2 τ (ι p) (ι e) m (ι k) = some (ι (fkN b p e d k)) := by
    intro d
    induction d with
    | zero =>
      intro k m hk hm
      obtain ⟨m, rfl⟩ : ∃ q, m = q + 1 := ⟨m - 1, by omega⟩
      rw [f_X9_wordFrom_b2, show (12 : Int32) = ι 12 from rfl, if_pos (show ι 12 ≤ ι k by rw [le_t (by omega) (by omega)]; trivial)]
      rfl
    | succ d ih =>
      intro k m hk hm
      obtain ⟨m, rfl⟩ : ∃ q, m = q + 1 := ⟨m - 1, by omega⟩
      have hi := ih (k + 1) m (by omega) (by omega)
      rw [f_X9_wordFrom_b2, show (12 : Int32) = ι 12 from rfl, if_neg (show ¬ ι 12 ≤ ι k by rw [le_f (by omega) (by omega)]; exact id), ι_sub hpe (by omega)]
      show _ = some (ι (if wdB b p e k = true then k else fkN b p e d (k + 1)))
      unfold f_X9_wordFrom_b21
      by_cases g : 8 < e - p
      · have w : ¬ wdB b p e k = true := by
          intro hh
          have h1 := (wdB_iff.mp hh).1
          have h2 := (wtab_c k (by omega)).1
          omega
        rw [if_pos (show (8 : Int32) < ι (e - p) by rw [L8, lt_t g (by omega)]; trivial), if_neg w, L0, r_b26z (by unfold FU; omega)]
        exact hi
      · rw [if_neg (show ¬ (8 : Int32) < ι (e - p) by rw [L8, lt_f (by omega) (by omega)]; exact id), L1, L0, r_b26 h hn hpe he (by omega) 8 0 FU (by omega) (by unfold FU; omega), maR_wd (by omega) hpe (by omega) hl]
        by_cases w : wdB b p e k = true
        · rw [if_pos w, if_pos w]
        · rw [if_neg w, if_neg w]
          exact hi
  exact go 12 0 FU (by omega) (by unfold FU; omega)
/-- what the next token is, as the reference keeps it -/
def NXT (n : Nat) (b : Nat → Nat) (p t : Nat) (τ : Mem) : Prop := τ 0 24 = ι p ∧ τ 0 23 = ι (tE b n p) ∧ τ 0 25 = kdv t ∧ (t < 20000 → τ 0 26 = ι t) ∧ (20001 ≤ t → t ≤ 20006 → τ 0 26 = ι (t - 20001)) ∧ (20020 ≤ t → t ≤ 20022 → τ 0 26 = ι (t - 20020))
def frN (τ τ' : Mem) : Prop := ∀ a j, ¬ (a = 0 ∧ 23 ≤ j ∧ j ≤ 26) → τ' a j = τ a j
theorem TF_fr {n : Nat} {b : Nat → Nat} {τ τ' : Mem} (h : TF n b τ) (hf : frN τ τ') : TF n b τ' :=
  ⟨⟨by rw [hf 0 8 (by omega)]; exact h.1.1, fun j hj => by rw [hf 5 j (by omega)]; exact h.1.2 j hj⟩, fun j hj => by rw [hf 13 j (by omega)]; exact h.2 j hj⟩
theorem r_b146 {n p : Nat} {b : Nat → Nat} {τ : Mem} (h : TF n b τ) (hn : n ≤ 160) (hp : p < n) (c : ltr (b p) = true) (h24 : τ 0 24 = ι p) (h23 : τ 0 23 = ι (tE b n p)) : ∃ τ', f_X9_next_b146 τ = some τ' ∧ NXT n b p (tC b n p) τ' ∧ frN τ τ' := by
  obtain ⟨e1, e2⟩ := tE_b (b := b) hp
  have hw := r_word h hn (show p ≤ tE b n p by omega) e2 (fun j h1 h2 => by
    rw [tE_ltr hp c] at h2
    exact of_decide_eq_true (run_all _ _ j h1 h2))
  have hk := wk_le (b := b) (p := p) (e := tE b n p)
  rw [tC_ltr hp c]
  unfold f_X9_next_b146 f_X9_next_b195
  rw [h24, h23, hw, ob_s]
  generalize wkN b p (tE b n p) = k at hk
  have fr : ∀ x y : Int32, frN τ (ms (ms τ 0 25 x) 0 26 y) := fun x y a j hj => by rw [ms_off (by omega), ms_off (by omega)]
  have g24 : ∀ x y : Int32, (ms (ms τ 0 25 x) 0 26 y) 0 24 = ι p := fun x y => by rw [ms_off (by omega), ms_off (by omega)]; exact h24
  have g23 : ∀ x y : Int32, (ms (ms τ 0 25 x) 0 26 y) 0 23 = ι (tE b n p) := fun x y => by rw [ms_off (by omega), ms_off (by omega)]; exact h23
  have g25 : ∀ x y : Int32, (ms (ms τ 0 25 x) 0 26 y) 0 25 = x := fun x y => by rw [ms_off (by omega), ms_at rfl rfl]
  have g26 : ∀ x y : Int32, (ms (ms τ 0 25 x) 0 26 y) 0 26 = y := fun x y => ms_at rfl rfl
  have d0 : ∀ k, k < 13 → 20000 ≤ wcd k := by decide +kernel
  have d0 := d0 k (by omega)
  have d1 : ∀ k, k < 3 → wcd k = 20020 + k ∧ kdv (wcd k) = 3 := by decide +kernel
  have d1 := d1 k
  have d2 : ∀ k, k < 9 → 3 ≤ k → wcd k = 19998 + k ∧ kdv (wcd k) = 2 := by decide +kernel
  have d2 := d2 k
  have d3 : ∀ k, k < 12 → 9 ≤ k → kdv (wcd k) = 4 + ι k - 9 ∧ wcd k < 20020 ∧ 20006 < wcd k := by decide +kernel
  have d3 := d3 k
  have d4 : kdv (wcd 12) = -1 ∧ wcd 12 = 20040 := by decide +kernel
  by_cases c3 : k < 3
  · obtain ⟨x1, x2⟩ := d1 c3
    rw [if_neg (show ¬ (3 : Int32) ≤ ι k by rw [L3, le_f (by omega) (by omega)]; exact id)]
    rw [if_neg (show ¬ (3 : Int32) ≤ ι k by rw [L3, le_f (by omega) (by omega)]; exact id)]
    refine ⟨_, rfl, ?_, fr _ _⟩
    refine ⟨g24 _ _, g23 _ _, by rw [g25, x2], fun h => by omega, fun h1 h2 => by omega, fun h1 h2 => ?_⟩
    rw [g26, x1, show 20020 + k - 20020 = k by omega]
  · rw [if_pos (show (3 : Int32) ≤ ι k by rw [L3, le_t (by omega) (by omega)]; trivial)]
    by_cases c9 : k < 9
    · obtain ⟨x1, x2⟩ := d2 c9 (by omega)
      rw [if_neg (show ¬ (9 : Int32) ≤ ι k by rw [L9, le_f (by omega) (by omega)]; exact id)]
      rw [if_pos (show (3 : Int32) ≤ ι k by rw [L3, le_t (by omega) (by omega)]; trivial)]
      refine ⟨_, rfl, ?_, fr _ _⟩
      refine ⟨g24 _ _, g23 _ _, by rw [g25, x2], fun h => by omega, fun h1 h2 => ?_, fun h1 h2 => by omega⟩
      rw [g26, x1, L3, ι_sub (by omega) (by omega), show 19998 + k - 20001 = k - 3 by omega]
    · rw [if_pos (show (9 : Int32) ≤ ι k by rw [L9, le_t (by omega) (by omega)]; trivial)]
      by_cases c12 : k = 12
      · subst c12
        obtain ⟨x1, x2⟩ := d4
        rw [if_pos (show ι 12 = (12 : Int32) from rfl)]
        rw [if_pos (show (3 : Int32) ≤ ι 12 by rw [L3, le_t (by omega) (by omega)]; trivial)]
        refine ⟨_, rfl, ?_, fr _ _⟩
        exact ⟨g24 _ _, g23 _ _, by rw [g25, x1], fun h => by omega, fun h1 h2 => by omega, fun h1 h2 => by omega⟩
      · obtain ⟨x1, x2, x3⟩ := d3 (by omega) (by omega)
        rw [if_neg (show ¬ ι k = (12 : Int32) by rw [show (12 : Int32) = ι 12 from rfl, eq_f c12 (by omega) (by omega)]; exact id)]
        rw [if_pos (show (3 : Int32) ≤ ι k by rw [L3, le_t (by omega) (by omega)]; trivial)]
        refine ⟨_, rfl, ?_, fr _ _⟩
        exact ⟨g24 _ _, g23 _ _, by rw [g25, x1], fun h => by omega, fun h1 h2 => by omega, fun h1 h2 => by omega⟩
theorem r_b103 {n : Nat} {b : Nat → Nat} (hn : n ≤ 160) (hb : ∀ j, j < n → b j ≤ 255) : ∀ d p m τ, p + d = n → d < m → TF n b τ → τ 0 23 = ι p → ∃ τ1, f_X9_next_b103 m τ = f_X9_next_b146 τ1 ∧ τ1 0 23 = ι (runN ltr b d p) ∧ ∀ a j, ¬ (a = 0 ∧ j = 23) → τ1 a j = τ a j := by
  intro d
  induction d with
  | zero =>
    intro p m τ hp hm h h23
    obtain ⟨m, rfl⟩ : ∃ q, m = q + 1 := ⟨m - 1, by omega⟩
    rw [f_X9_next_b103, h.1.1, h23, if_pos (show ι n ≤ ι p by rw [le_t (by omega) (by omega)]; trivial)]
    exact ⟨τ, rfl, h23, fun _ _ _ => rfl⟩
  | succ d ih =>
    intro p m τ hp hm h h23
    obtain ⟨m, rfl⟩ : ∃ q, m = q + 1 := ⟨m - 1, by omega⟩
    rw [f_X9_next_b103, h.1.1, h23, if_neg (show ¬ ι n ≤ ι p by rw [le_f (by omega) (by omega)]; exact id), if_pos (inb_t (show p < 160 by omega) (by omega)), ι_nat (by omega), h.1.2 p (by omega), ltr_r (hb p (by omega))]
    show ∃ τ1 : Mem, _ ∧ τ1 0 23 = ι (if ltr (b p) = true then runN ltr b d (p + 1) else p) ∧ _
    by_cases c : ltr (b p) = true
    · rw [if_pos c, if_pos c, if_neg (show ¬ ι 1 = (0 : Int32) by decide), L1, ι_add]
      obtain ⟨τ1, q1, q2, q3⟩ := ih (p + 1) m (ms τ 0 23 (ι (p + 1))) (by omega) (by omega) (TF_fr h (fun a j hj => ms_off (by omega))) (ms_at rfl rfl)
      exact ⟨τ1, q1, q2, fun a j hj => by rw [q3 a j hj, ms_off (by omega)]⟩
    · rw [if_neg c, if_neg c, if_pos (show ι 0 = (0 : Int32) from rfl)]
      exact ⟨τ, rfl, h23, fun _ _ _ => rfl⟩
theorem r_b230 {n : Nat} {b : Nat → Nat} (hn : n ≤ 160) (hb : ∀ j, j < n → b j ≤ 255) : ∀ d p c x m τ, p + d = n → c ≤ p → d < m → TF n b τ → τ 0 23 = ι p → τ 0 26 = ι x → ∃ τ', f_X9_next_b230 m τ (ι c) = some τ' ∧ τ' 0 23 = ι (runN dgt b d p) ∧ (c + (runN dgt b d p - p) ≤ 4 → τ' 0 25 = 1 ∧ τ' 0 26 = ι (numN b (runN dgt b d p - p) p x)) ∧ (¬ c + (runN dgt b d p - p) ≤ 4 → τ' 0 25 = -1) ∧ τ' 0 24 = τ 0 24 ∧ frN τ τ' := by
  have stop : ∀ p c x τ, c ≤ 160 → τ 0 23 = ι p → τ 0 26 = ι x → ∃ τ', f_X9_next_b309 τ (ι c) = some τ' ∧ τ' 0 23 = ι p ∧ (c + (p - p) ≤ 4 → τ' 0 25 = 1 ∧ τ' 0 26 = ι (numN b (p - p) p x)) ∧ (¬ c + (p - p) ≤ 4 → τ' 0 25 = -1) ∧ τ' 0 24 = τ 0 24 ∧ frN τ τ' := by
    intro p c x τ hc h23 h26
    unfold f_X9_next_b309
    rw [show (4 : Int32) = ι 4 from rfl]
    by_cases g : c ≤ 4
    · rw [if_pos (show ι c ≤ ι 4 by rw [le_t g (by omega)]; trivial)]
      refine ⟨_, rfl, by rw [ms_off (by omega)]; exact h23, fun _ => ⟨ms_at rfl rfl, ?_⟩, fun h => absurd h (by omega), ms_off (by omega), fun a j hj => ms_off (by omega)⟩
      rw [ms_off (by omega), h26, Nat.sub_self]
      rfl
    · rw [if_neg (show ¬ ι c ≤ ι 4 by rw [le_f (by omega) (by omega)]; exact id)]
      exact ⟨_, rfl, by rw [ms_off (by omega)]; exact h23, fun h => absurd h (by omega), fun _ => ms_at rfl rfl, ms_off (by omega), fun a j hj => ms_off (by omega)⟩
  intro d
  induction d with
  | zero =>
    intro p c x m τ hp hc hm h h23 h26
    obtain ⟨m, rfl⟩ : ∃ q, m = q + 1 := ⟨m - 1, by omega⟩
    rw [f_X9_next_b230, h.1.1, h23, if_pos (show ι n ≤ ι p by rw [le_t (by omega) (by omega)]; trivial)]
    exact stop p c x τ (by omega) h23 h26
  | succ d ih =>
    intro p c x m τ hp hc hm h h23 h26
    obtain ⟨m, rfl⟩ : ∃ q, m = q + 1 := ⟨m - 1, by omega⟩
    rw [f_X9_next_b230, h.1.1, h23, if_neg (show ¬ ι n ≤ ι p by rw [le_f (by omega) (by omega)]; exact id), if_pos (inb_t (show p < 160 by omega) (by omega)), ι_nat (by omega), h.1.2 p (by omega), dgt_r (hb p (by omega))]
    have er : runN dgt b (d + 1) p = if dgt (b p) = true then runN dgt b d (p + 1) else p := rfl
    rw [er]
    by_cases g : dgt (b p) = true
    · have gd : 48 ≤ b p ∧ b p ≤ 57 := of_decide_eq_true g
      have hge := (run_le (P := dgt) (b := b) d (p + 1)).1
      rw [if_pos g, if_pos g, if_neg (show ¬ ι 1 = (0 : Int32) by decide)]
      have nx : ∀ y, ∃ τ', f_X9_next_b290 (f_X9_next_b230 m) τ (ι c) (ι y) = some τ' ∧ τ' 0 23 = ι (runN dgt b d (p + 1)) ∧ (c + 1 + (runN dgt b d (p + 1) - (p + 1)) ≤ 4 → τ' 0 25 = 1 ∧ τ' 0 26 = ι (numN b (runN dgt b d (p + 1) - (p + 1)) (p + 1) y)) ∧ (¬ c + 1 + (runN dgt b d (p + 1) - (p + 1)) ≤ 4 → τ' 0 25 = -1) ∧ τ' 0 24 = τ 0 24 ∧ frN τ τ' := by
        intro y
        unfold f_X9_next_b290
        rw [od_e, ms_off (show (0 : Nat) ≠ 0 ∨ (23 : Nat) ≠ 26 by omega), h23, L1, ι_add, ι_add]
        obtain ⟨τ', q1, q2, q3, q4, q5, q6⟩ := ih (p + 1) (c + 1) y m (ms (ms τ 0 26 (ι y)) 0 23 (ι (p + 1))) (by omega) (by omega) (by omega) (TF_fr h (fun a j hj => by rw [ms_off (by omega), ms_off (by omega)])) (ms_at rfl rfl) (by rw [ms_off (by omega), ms_at rfl rfl])
        exact ⟨τ', q1, q2, q3, q4, by rw [q5, ms_off (by omega), ms_off (by omega)], fun a j hj => by rw [q6 a j hj, ms_off (by omega), ms_off (by omega)]⟩
      by_cases c4 : 4 ≤ c
      · rw [if_pos (show (4 : Int32) ≤ ι c by rw [show (4 : Int32) = ι 4 from rfl, le_t c4 (by omega)]; trivial), L0]
        obtain ⟨τ', q1, q2, q3, q4, q5, q6⟩ := nx 0
        exact ⟨τ', q1, q2, fun h => absurd h (by omega), fun _ => q4 (by omega), q5, q6⟩
      · rw [if_neg (show ¬ (4 : Int32) ≤ ι c by rw [show (4 : Int32) = ι 4 from rfl, le_f (by omega) (by omega)]; exact id), if_pos (inb_t (show p < 160 by omega) (by omega)), h26, show (10 : Int32) = ι 10 from rfl, ι_mul, ι_add, show (48 : Int32) = ι 48 from rfl, show ι (10 * x + b p) - ι 48 = ι (x * 10 + (b p - 48)) by
          rw [show 10 * x + b p = (x * 10 + (b p - 48)) + 48 by omega, ← ι_add, Int32.add_sub_cancel]]
        obtain ⟨τ', q1, q2, q3, q4, q5, q6⟩ := nx (x * 10 + (b p - 48))
        refine ⟨τ', q1, q2, fun h => ?_, fun h => q4 (by omega), q5, q6⟩
        obtain ⟨y1, y2⟩ := q3 (by omega)
        refine ⟨y1, ?_⟩
        rw [y2, show runN dgt b d (p + 1) - p = (runN dgt b d (p + 1) - (p + 1)) + 1 by omega]
        rfl
    · rw [if_neg g, if_neg g, if_pos (show ι 0 = (0 : Int32) from rfl)]
      exact stop p c x τ (by omega) h23 h26
theorem r_b52 {n p : Nat} {b : Nat → Nat} {τ : Mem} (h : TF n b τ) (hn : n ≤ 160) (hb : ∀ j, j < n → b j ≤ 255) (hp : p ≤ n) (h23 : τ 0 23 = ι p) : ∃ τ', f_X9_next_b52 τ = some τ' ∧ NXT n b p (tC b n p) τ' ∧ frN τ τ' := by
  unfold f_X9_next_b52
  rw [od_e, h23]
  have f6 : frN τ (ms (ms (ms τ 0 24 (ι p)) 0 25 (0 : Int32)) 0 26 (0 : Int32)) := fun a j hj => by rw [ms_off (by omega), ms_off (by omega), ms_off (by omega)]
  have g23 : (ms (ms (ms τ 0 24 (ι p)) 0 25 (0 : Int32)) 0 26 (0 : Int32)) 0 23 = ι p := by rw [ms_off (by omega), ms_off (by omega), ms_off (by omega)]; exact h23
  have g24 : (ms (ms (ms τ 0 24 (ι p)) 0 25 (0 : Int32)) 0 26 (0 : Int32)) 0 24 = ι p := by rw [ms_off (by omega), ms_off (by omega), ms_at rfl rfl]
  have g25 : (ms (ms (ms τ 0 24 (ι p)) 0 25 (0 : Int32)) 0 26 (0 : Int32)) 0 25 = 0 := by rw [ms_off (by omega), ms_at rfl rfl]
  have g26 : (ms (ms (ms τ 0 24 (ι p)) 0 25 (0 : Int32)) 0 26 (0 : Int32)) 0 26 = ι 0 := ms_at rfl rfl
  have h6 := TF_fr h f6
  generalize ms (ms (ms τ 0 24 (ι p)) 0 25 (0 : Int32)) 0 26 (0 : Int32) = σ at f6 g23 g24 g25 g26 h6
  rw [g23, h6.1.1]
  by_cases e : p = n
  · rw [if_pos (by rw [e])]
    have ht : tC b n p = 20041 := by unfold tC; rw [if_pos (by omega)]
    rw [ht]
    exact ⟨σ, rfl, ⟨g24, by rw [g23, e, tE_n], g25, fun h => by omega, fun _ h => by omega, fun _ h => by omega⟩, f6⟩
  · have hpn : p < n := by omega
    have hbp := hb p hpn
    rw [if_neg (show ¬ ι p = ι n by rw [eq_f e (by omega) (by omega)]; exact id), if_pos (inb_t (show p < 160 by omega) (by omega)), ι_nat (show p < 2147483648 by omega), h6.1.2 p hpn, ltr_r hbp, dgt_r hbp]
    by_cases c : ltr (b p) = true
    · rw [if_pos c, if_neg (show ¬ ι 1 = (0 : Int32) by decide)]
      obtain ⟨τ1, q1, q2, q3⟩ := r_b103 hn hb (n - p) p FU σ (by omega) (by unfold FU; omega) h6 g23
      obtain ⟨τ', w1, w2, w3⟩ := r_b146 (TF_fr h6 (fun a j hj => q3 a j (by omega))) hn hpn c (by rw [q3 0 24 (by omega)]; exact g24) (by rw [q2, tE_ltr hpn c])
      exact ⟨τ', by rw [q1, w1], w2, fun a j hj => by rw [w3 a j hj, q3 a j (by omega), f6 a j hj]⟩
    · rw [if_neg c, if_pos (show ι 0 = (0 : Int32) from rfl)]
      by_cases g : dgt (b p) = true
      · rw [if_pos g, if_neg (show ¬ ι 1 = (0 : Int32) by decide), L0]
        obtain ⟨τ', q1, q2, q3, q4, q5, q6⟩ := r_b230 hn hb (n - p) p 0 0 FU σ (by omega) (by omega) (by unfold FU; omega) h6 g23 g26
        refine ⟨τ', q1, ?_, fun a j hj => by rw [q6 a j hj, f6 a j hj]⟩
        rw [← tE_dgt hpn c g] at q2 q3 q4
        have e1 := (tE_b (b := b) hpn).1
        have hall : ∀ j, p ≤ j → j < tE b n p → dgt (b j) = true := by
          intro j h1 h2
          rw [tE_dgt hpn c g] at h2
          exact run_all _ _ j h1 h2
        rw [tC_dgt hpn c g]
        by_cases w : tE b n p - p ≤ 4
        · obtain ⟨y1, y2⟩ := q3 (by omega)
          have := num_4 (b := b) w (fun j h1 h2 => hall j h1 (by omega))
          rw [if_pos w]
          refine ⟨by rw [q5]; exact g24, q2, ?_, fun _ => y2, fun h => by omega, fun h => by omega⟩
          rw [y1]
          unfold kdv
          rw [if_pos (by omega)]
        · rw [if_neg w]
          exact ⟨by rw [q5]; exact g24, q2, q4 (by omega), fun h => by omega, fun _ h => by omega, fun _ h => by omega⟩
      · rw [if_neg g, if_pos (show ι 0 = (0 : Int32) from rfl), tC_sg hpn c g]
        have eE := tE_sg hpn c g
        have D : ∀ x, x < 256 → 20010 ≤ sg x ∧ (sg x < 20020 ∨ 20030 ≤ sg x) := by decide +kernel
        obtain ⟨d1, d2⟩ := D (b p) (by omega)
        have fin : ∀ x : Int32, x = kdv (sg (b p)) → ∃ τ', some (ms (ms σ 0 25 x) 0 23 (((ms σ 0 25 x) 0 23) + (1 : Int32))) = some τ' ∧ NXT n b p (sg (b p)) τ' ∧ frN τ τ' := by
          intro x hx
          refine ⟨_, rfl, ⟨by rw [ms_off (by omega), ms_off (by omega)]; exact g24, ?_, by rw [ms_off (by omega), ms_at rfl rfl]; exact hx, fun h => by omega, fun _ h => by omega, fun _ h => by omega⟩, fun a j hj => by rw [ms_off (by omega), ms_off (by omega), f6 a j hj]⟩
          rw [ms_at rfl rfl, ms_off (by omega), g23, L1, ι_add, eE]
        have pos : ι (b p) = kdv (sg (b p)) → ∃ τ', f_X9_next_b374 σ (ι (b p)) = some τ' ∧ NXT n b p (sg (b p)) τ' ∧ frN τ τ' := by
          intro hx
          unfold f_X9_next_b374 f_X9_next_b379
          rw [if_neg (show ¬ (1 : Int32) = 0 by decide), od_e]
          exact fin _ hx
        have neg : kdv (sg (b p)) = -1 → ∃ τ', f_X9_next_b379 σ (ι (b p)) (0 : Int32) = some τ' ∧ NXT n b p (sg (b p)) τ' ∧ frN τ τ' := by
          intro hx
          unfold f_X9_next_b379
          rw [if_pos (show (0 : Int32) = 0 from rfl), od_e]
          exact fin _ hx.symm
        have K : ∀ x y : Nat, x < 256 → ι x = ι y → y < 256 → x = y := fun x y h1 h2 h3 => ι_inj (by omega) (by omega) h2
        generalize f_X9_next_b374 σ (ι (b p)) = P at pos
        generalize f_X9_next_b379 σ (ι (b p)) (0 : Int32) = Q at neg
        have split : ∀ y : Nat, y < 256 → ι y = kdv (sg y) → ∀ R : Option Mem, (b p ≠ y → ∃ τ', R = some τ' ∧ NXT n b p (sg (b p)) τ' ∧ frN τ τ') → ∃ τ', (if ι (b p) = ι y then P else R) = some τ' ∧ NXT n b p (sg (b p)) τ' ∧ frN τ τ' := by
          intro y hy hk R hR
          by_cases w : b p = y
          · rw [if_pos (by rw [w])]
            exact pos (by rw [w]; exact hk)
          · rw [if_neg (show ¬ ι (b p) = ι y by rw [eq_f w (by omega) (by omega)]; exact id)]
            exact hR w
        refine split 40 (by decide) (by decide +kernel) _ (fun n1 => ?_)
        refine split 41 (by decide) (by decide +kernel) _ (fun n2 => ?_)
        refine split 59 (by decide) (by decide +kernel) _ (fun n3 => ?_)
        refine split 43 (by decide) (by decide +kernel) _ (fun n4 => ?_)
        refine split 45 (by decide) (by decide +kernel) _ (fun n5 => ?_)
        refine split 42 (by decide) (by decide +kernel) _ (fun n6 => ?_)
        refine split 60 (by decide) (by decide +kernel) _ (fun n7 => ?_)
        refine split 61 (by decide) (by decide +kernel) _ (fun n8 => ?_)
        refine neg ?_
        unfold sg
        rw [if_neg n1, if_neg n2, if_neg n6, if_neg n4, if_neg n5, if_neg n3, if_neg n7, if_neg n8]
        decide +kernel
theorem r_next {n : Nat} {b : Nat → Nat} (hn : n ≤ 160) (hb : ∀ j, j < n → b j ≤ 255) {p : Nat} {τ : Mem} (hp : p ≤ n) (h : TF n b τ) (h23 : τ 0 23 = ι p) : ∃ τ', f_X9_next τ = some τ' ∧ NXT n b (skB b n p) (tC b n (skB b n p)) τ' ∧ frN τ τ' := by
  have go : ∀ d p m τ, p + d = n → d < m → TF n b τ → τ 0 23 = ι p → ∃ τ', f_X9_next_b0 m τ = some τ' ∧ NXT n b (skB b n p) (tC b n (skB b n p)) τ' ∧ frN τ τ' := by
    intro d
    induction d with
    | zero =>
      intro p m τ hp hm h h23
      obtain ⟨m, rfl⟩ : ∃ q, m = q + 1 := ⟨m - 1, by omega⟩
      rw [f_X9_next_b0, h.1.1, h23, if_pos (show ι n ≤ ι p by rw [le_t (by omega) (by omega)]; trivial), show skB b n p = p by rw [show p = n by omega, skB_n]]
      exact r_b52 h hn hb (by omega) h23
    | succ d ih =>
      intro p m τ hp hm h h23
      obtain ⟨m, rfl⟩ : ∃ q, m = q + 1 := ⟨m - 1, by omega⟩
      have hbp := hb p (by omega)
      rw [f_X9_next_b0, h.1.1, h23, if_neg (show ¬ ι n ≤ ι p by rw [le_f (by omega) (by omega)]; exact id), if_pos (inb_t (show p < 160 by omega) (by omega)), ι_nat (by omega), h.1.2 p (by omega), L32, if_pos (inb_t (show p < 160 by omega) (by omega)), show (10 : Int32) = ι 10 from rfl]
      have bl : blk (b p) = true → ∃ τ', f_X9_next_b39 (f_X9_next_b0 m) τ = some τ' ∧ NXT n b (skB b n p) (tC b n (skB b n p)) τ' ∧ frN τ τ' := by
        intro w
        unfold f_X9_next_b39
        rw [h23, L1, ι_add, skB_s (by omega) w]
        obtain ⟨τ', q1, q2, q3⟩ := ih (p + 1) m (ms τ 0 23 (ι (p + 1))) (by omega) (by omega) (TF_fr h (fun a j hj => ms_off (by omega))) (ms_at rfl rfl)
        exact ⟨τ', q1, q2, fun a j hj => by rw [q3 a j hj, ms_off (by omega)]⟩
      by_cases b1 : b p = 32
      · rw [if_pos (show ι (b p) = ι 32 by rw [b1])]
        exact bl (decide_eq_true (Or.inl b1))
      · rw [if_neg (show ¬ ι (b p) = ι 32 by rw [eq_f b1 (by omega) (by omega)]; exact id)]
        by_cases b2 : b p = 10
        · rw [if_pos (show ι (b p) = ι 10 by rw [b2])]
          exact bl (decide_eq_true (Or.inr b2))
        · rw [if_neg (show ¬ ι (b p) = ι 10 by rw [eq_f b2 (by omega) (by omega)]; exact id), skB_e (by omega) (by unfold blk; intro h; have := of_decide_eq_true h; omega)]
          exact r_b52 h hn hb (by omega) h23
  exact go (n - p) p FU τ (by omega) (by unfold FU; omega) h h23
