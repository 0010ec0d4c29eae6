/-! THE PURE PART: the best order of the day, the reference's side -/
theorem within_at {a b x : Nat} (h1 : a ≤ x) (h2 : x ≤ b) (h : b < 2147483648) : f_X9_within (ι x) (ι a) (ι b) = ι x := by
  unfold f_X9_within
  rw [if_pos (show ι a ≤ ι x by rw [le_t (by omega) (by omega)]; trivial), if_pos (show ι x ≤ ι b by rw [le_t (by omega) (by omega)]; trivial)]
theorem shl_cM {m : Nat} (h : m < 8) : (ι 1 <<< (ι m &&& ι 31)) = ι (2 ^ m) := shl_c h
theorem r_tellsD {m : Nat} (hm : m ≤ 6) : ∀ j n (τ : Mem) (r u : Nat) (P : Nat → Prop), j ≤ m → j < n → r < 2147483648 → mkB u P → (∀ v, P v → v < m) → τ 0 46 = ι m →
    ∃ u' τ', f_X9_tells_b12 n τ (ι r) (ι u) (pl j) = some (ι (if u' = 2 ^ m - 1 then 1 else 0), τ') ∧ mkB u' (fun f => P f ∨ usD m j r f = true) ∧ (∀ i, i < j → τ' 21 i = ι (r / m ^ (j - 1 - i) % m)) ∧ ∀ k i, ¬ (k = 21 ∧ i < j) → τ' k i = τ k i := by
  intro j
  induction j with
  | zero =>
    intro n τ r u P hj hn hr hu hP h46
    obtain ⟨n, rfl⟩ : ∃ q, n = q + 1 := ⟨n - 1, by omega⟩
    refine ⟨u, τ, ?_, ?_, fun i hi => absurd hi (Nat.not_lt_zero i), fun _ _ _ => rfl⟩
    · have u64 := hu.1
      have p6 := pow_le6 hm
      rw [f_X9_tells_b12, pl_0 rfl, if_pos (show -ι 1 < (0 : Int32) by decide), h46, L31, L1, shl_cM (by omega), ι_sub p6.2 (by omega)]
      by_cases c : u = 2 ^ m - 1
      · rw [if_pos (show ι u = ι (2 ^ m - 1) by rw [c]), if_pos c]
      · rw [if_neg (show ¬ ι u = ι (2 ^ m - 1) by rw [eq_f c (by omega) (by omega)]; exact id), if_neg c]
        rfl
    · refine ⟨hu.1, fun v hv => ?_⟩
      rw [hu.2 v hv]
      exact ⟨Or.inl, fun h => h.elim id (fun e => by cases e)⟩
  | succ j ih =>
    intro n τ r u P hj hn hr hu hP h46
    obtain ⟨n, rfl⟩ : ∃ q, n = q + 1 := ⟨n - 1, by omega⟩
    have rm : r % m < m := Nat.mod_lt _ (by omega)
    have rd : r / m ≤ r := Nat.div_le_self r m
    have u64 := hu.1
    have hw : f_X9_within (ι m) (ι 1) (ι 6) = ι m := within_at (by omega) hm (by omega)
    obtain ⟨u', τ', g1, g2, g3, g4⟩ := ih n (ms τ 21 j (ι (r % m))) (r / m) (u ||| 2 ^ (r % m)) (fun v => P v ∨ v = r % m) (by omega) (by omega) (by omega) (mkB_or hu (by omega) (fun v hv => Iff.rfl)) (fun v h => h.elim (hP v) (fun e => by omega)) (by rw [ms_off (by omega)]; exact h46)
    refine ⟨u', τ', ?_, ?_, ?_, fun k i h => ?_⟩
    · have e46 : (ms τ 21 j (ι (r % m))) 0 46 = ι m := by rw [ms_off (by omega)]; exact h46
      have e21 : (ms τ 21 j (ι (r % m))) 21 j = ι (r % m) := ms_at rfl rfl
      have epl : ι j + -ι 1 = pl j := by
        by_cases c : j = 0
        · rw [c]; rfl
        · rw [pl_s (by omega)]
          exact ι_addm (show 1 ≤ j by omega) (by omega)
      rw [f_X9_tells_b12, pl_s (by omega), Nat.add_sub_cancel, L0, if_neg (show ¬ ι j < ι 0 by rw [lt_f (by omega) (by omega)]; exact id), h46, L1, L6, hw, if_pos (show ι m ≠ ι 0 by rw [Ne, eq_f (by omega) (by omega) (by omega)]; exact id), if_pos (inb_t (by omega) (by omega)), od_e, ι_nat (by omega), ι_irm (by omega) (by omega) (by omega), e46, hw, if_pos (show ι m ≠ ι 0 by rw [Ne, eq_f (by omega) (by omega) (by omega)]; exact id), od_e, ι_div (by omega) (by omega) (by omega), if_pos (inb_t (by omega) (by omega)), od_e, e21, L31, shl_cM (by omega), or_c (by omega) (by omega), epl, g1]
    · refine ⟨g2.1, fun v hv => ?_⟩
      rw [g2.2 v hv]
      show ((P v ∨ v = r % m) ∨ usD m j (r / m) v = true) ↔ (P v ∨ (usD m j (r / m) v || decide (v = r % m)) = true)
      rw [Bool.or_eq_true, decide_eq_true_eq]
      constructor
      · rintro ((a | a) | a)
        · exact Or.inl a
        · exact Or.inr (Or.inr a)
        · exact Or.inr (Or.inl a)
      · rintro (a | a | a)
        · exact Or.inl (Or.inl a)
        · exact Or.inr a
        · exact Or.inl (Or.inr a)
    · intro i hi
      by_cases c : i = j
      · rw [c, g4 21 j (by omega), ms_at rfl rfl, show j + 1 - 1 - j = 0 by omega, Nat.pow_zero, Nat.div_one]
      · rw [g3 i (by omega), Nat.div_div_eq_div_mul, ← Nat.pow_succ', show (j - 1 - i).succ = j + 1 - 1 - i by omega]
    · rw [g4 k i (by omega), ms_off (by omega)]
theorem r_tellsX {m x : Nat} {τ : Mem} (hm : m ≤ 6) (hx : x < 2147483648) (h46 : τ 0 46 = ι m) :
    ∃ τ', f_X9_tells τ (ι x) = some (ι (if cuD m m x = m then 1 else 0), τ') ∧ (∀ i, i < m → τ' 21 i = ι (x / m ^ (m - 1 - i) % m)) ∧ ∀ k i, ¬ (k = 21 ∧ i < m) → τ' k i = τ k i := by
  obtain ⟨u', τ', g1, g2, g3, g4⟩ := r_tellsD hm m FU τ x 0 (fun _ => False) (Nat.le_refl m) (by unfold FU; omega) hx ⟨by omega, fun v hv => ⟨fun h => h (by unfold bitN; rw [Nat.zero_div]), False.elim⟩⟩ (fun _ h => h.elim) h46
  refine ⟨τ', ?_, g3, g4⟩
  have epl : ι m - (1 : Int32) = pl m := by
    by_cases c : m = 0
    · rw [c]; rfl
    · rw [pl_s (by omega)]
      exact ι_sub (show 1 ≤ m by omega) (by omega)
  unfold f_X9_tells
  rw [h46, epl]
  show f_X9_tells_b12 FU τ (ι x) (ι 0) (pl m) = _
  rw [g1]
  have full : ∀ m, m < 7 → ∀ v, v < 6 → (bitN (2 ^ m - 1) v ≠ 0 ↔ v < m) := by decide +kernel
  have p6 := pow_le6 hm
  have us_lt : ∀ k p v, usD m k p v = true → 0 < m → v < m := by
    intro k
    induction k with
    | zero => intro p v h _; cases h
    | succ k ih =>
      intro p v h h0
      have h : (usD m k (p / m) v || decide (v = p % m)) = true := h
      rw [Bool.or_eq_true, decide_eq_true_eq] at h
      rcases h with h | h
      · exact ih _ _ h h0
      · rw [h]; exact Nat.mod_lt _ h0
  have key : u' = 2 ^ m - 1 ↔ cuD m m x = m := by
    unfold cuD
    rw [(sum_full (P := usD m m x) m 0).2]
    constructor
    · intro h f f1 f2
      have := (g2.2 f (by omega)).1 (by rw [h]; exact (full m (by omega) f (by omega)).2 (by omega))
      exact this.elim False.elim id
    · intro h
      refine bits_eq u' g2.1 _ (by omega) (fun v hv => ?_)
      rw [g2.2 v hv, full m (by omega) v hv]
      constructor
      · rintro (a | a)
        · exact a.elim
        · by_cases c : 0 < m
          · exact us_lt _ _ _ a c
          · have : m = 0 := by omega
            subst this
            cases a
      · intro a
        exact Or.inr (h v (by omega) (by omega))
  by_cases c : u' = 2 ^ m - 1
  · rw [if_pos c, if_pos (key.1 c)]
  · rw [if_neg c, if_neg (fun h => c (key.2 h))]
def frWt (τ τ' : Mem) : Prop := ∀ k j, k ≠ 15 → k ≠ 16 → τ' k j = τ k j
theorem r_waits {T M V w y q : Nat} {X : XT} {A B : TB2} {m x : Nat} {me : Nat → Nat} {e om : Nat → Nat} (hOX : OKX T X) (hOB : OKB M V B) (hM : M ≤ 6) (hV : V ≤ 8) (hy : y < T) (hm : m ≤ 6) (hme : ∀ f, f < m → me f < M) (he : ∀ i, i < M → e i = sayN X y 1 (A i 2) (A i 3) (A i 1) w (owedN V B i) (A i 4) + 1) (hq : q ≤ 1) (ho : ∀ i, i < M → om i = if q = 0 then 1 else A i 4) : ∀ d i n (τ : Mem), i + d = m → d < n → FXT T X τ → FT M V w y A B τ → τ 0 46 = ι m → (∀ i, i < m → τ 21 i = ι (x / m ^ (m - 1 - i) % m)) → (∀ f, f < m → τ 20 f = ι (me f)) →
    ∃ τ', f_X9_waits_b7 (ι q) n τ (ι (tmD m (fun f => e (me f)) i (x / m ^ (m - i)))) (ι (coD m (fun f => e (me f)) (fun f => om (me f)) i (x / m ^ (m - i)))) (ι i) = some (ι (coD m (fun f => e (me f)) (fun f => om (me f)) m x), τ') ∧ frWt τ τ' := by
  intro d
  induction d with
  | zero =>
    intro i n τ hi hn hX hF h46 h21 h20
    obtain ⟨n, rfl⟩ : ∃ q, n = q + 1 := ⟨n - 1, by omega⟩
    have ei : i = m := by omega
    subst ei
    refine ⟨τ, ?_, fun _ _ _ _ => rfl⟩
    rw [f_X9_waits_b7, h46, if_pos (show ι i ≤ ι i by rw [le_t (by omega) (by omega)]; trivial), Nat.sub_self, Nat.pow_zero, Nat.div_one]
  | succ d ih =>
    intro i n τ hi hn hX hF h46 h21 h20
    obtain ⟨n, rfl⟩ : ∃ q, n = q + 1 := ⟨n - 1, by omega⟩
    have hmi : m - i = (m - 1 - i) + 1 := by omega
    have hdv : x / m ^ (m - i) = x / m ^ (m - 1 - i) / m := by rw [hmi, Nat.pow_succ, Nat.div_div_eq_div_mul]
    have hsub : m - (i + 1) = m - 1 - i := by omega
    have hd : x / m ^ (m - 1 - i) % m < m := Nat.mod_lt _ (by omega)
    have hi0 := hme _ hd
    obtain ⟨b1, b2, b3, b4, b5, b6⟩ := id hF
    obtain ⟨τ1, t1, t2⟩ := r_asks hX hOX b2 b4 b5 b6 hOB hM hV (w := w) (q := 1) hy (by omega) hi0
    have hf : eqR τ τ1 := fun k j h => t2 k j (by unfold sR at h; omega) (by unfold sR at h; omega)
    obtain ⟨τ', p1, p2⟩ := ih (i + 1) n τ1 (by omega) (by omega) (FXT_sc hf hX) (FT_sc hM hV hf hF) (by rw [t2 _ _ (by omega) (by omega)]; exact h46) (fun i hi => by rw [t2 _ _ (by omega) (by omega)]; exact h21 i hi) (fun i hi => by rw [t2 _ _ (by omega) (by omega)]; exact h20 i hi)
    refine ⟨τ', ?_, fun k j a b => by rw [p2 k j a b, t2 k j a b]⟩
    rw [hsub] at p1
    have tt : tmD m (fun f => e (me f)) (i + 1) (x / m ^ (m - 1 - i)) = tmD m (fun f => e (me f)) i (x / m ^ (m - i)) + e (me (x / m ^ (m - 1 - i) % m)) := by
      rw [hdv]; rfl
    have tc : coD m (fun f => e (me f)) (fun f => om (me f)) (i + 1) (x / m ^ (m - 1 - i)) = coD m (fun f => e (me f)) (fun f => om (me f)) i (x / m ^ (m - i)) + tmD m (fun f => e (me f)) i (x / m ^ (m - i)) * om (me (x / m ^ (m - 1 - i) % m)) := by
      rw [hdv]; rfl
    rw [tt, tc] at p1
    rw [f_X9_waits_b7, h46, if_neg (show ¬ ι m ≤ ι i by rw [le_f (by omega) (by omega)]; exact id), if_pos (inb_t (show i < 6 by omega) (by omega)), ι_nat (show i < 2147483648 by omega), h21 i (by omega), if_pos (inb_t (show x / m ^ (m - 1 - i) % m < 6 by omega) (by omega)), ι_nat (show x / m ^ (m - 1 - i) % m < 2147483648 by omega), h20 _ hd, od_e]
    have hee := he _ hi0
    have hoo := ho _ hi0
    by_cases c : q = 0
    · rw [if_pos (show ι q = 0 by rw [c]; rfl)]
      rw [if_pos c] at hoo
      rw [hoo, hee, Nat.mul_one] at p1
      unfold f_X9_waits_b52
      rw [b3, L1, t1, ob2_s, ι_add, ι_add, ι_add, ι_add]
      exact p1
    · rw [if_neg (show ¬ ι q = 0 by rw [L0, eq_f c (by omega) (by omega)]; exact id), L4, L2, ι_mul, ι_add, if_pos (inb_t (show 4 * me (x / m ^ (m - 1 - i) % m) + 2 < 24 by omega) (by omega)), ι_nat (show 4 * me (x / m ^ (m - 1 - i) % m) + 2 < 2147483648 by omega), fa_4 b5 hi0, ι_mul]
      rw [if_neg c] at hoo
      rw [hoo, hee] at p1
      unfold f_X9_waits_b52
      rw [b3, L1, t1, ob2_s, ι_add, ι_add, ι_add, ι_add]
      exact p1
theorem r_digits {m x : Nat} {me : Nat → Nat} {τ : Mem} (hm : m ≤ 6) (h46 : τ 0 46 = ι m) (h21 : ∀ i, i < m → τ 21 i = ι (x / m ^ (m - 1 - i) % m)) (h20 : ∀ f, f < m → τ 20 f = ι (me f)) : ∀ d i n, i + d = m → d < n → f_X9_digitsNow_b4 τ n (ι (dgD m me i (x / m ^ (m - i)))) (ι i) = some (ι (dgD m me m x)) := by
  intro d
  induction d with
  | zero =>
    intro i n hi hn
    obtain ⟨n, rfl⟩ : ∃ q, n = q + 1 := ⟨n - 1, by omega⟩
    have ei : i = m := by omega
    subst ei
    rw [f_X9_digitsNow_b4, h46, if_pos (show ι i ≤ ι i by rw [le_t (by omega) (by omega)]; trivial), Nat.sub_self, Nat.pow_zero, Nat.div_one]
  | succ d ih =>
    intro i n hi hn
    obtain ⟨n, rfl⟩ : ∃ q, n = q + 1 := ⟨n - 1, by omega⟩
    have hmi : m - i = (m - 1 - i) + 1 := by omega
    have hdv : x / m ^ (m - i) = x / m ^ (m - 1 - i) / m := by rw [hmi, Nat.pow_succ, Nat.div_div_eq_div_mul]
    have hd : x / m ^ (m - 1 - i) % m < m := Nat.mod_lt _ (by omega)
    have p1 := ih (i + 1) n (by omega) (by omega)
    rw [show m - (i + 1) = m - 1 - i by omega] at p1
    have tt : dgD m me (i + 1) (x / m ^ (m - 1 - i)) = 10 * dgD m me i (x / m ^ (m - i)) + me (x / m ^ (m - 1 - i) % m) + 1 := by
      rw [hdv, Nat.mul_comm]; rfl
    rw [tt] at p1
    rw [f_X9_digitsNow_b4, h46, if_neg (show ¬ ι m ≤ ι i by rw [le_f (by omega) (by omega)]; exact id), if_pos (inb_t (show i < 6 by omega) (by omega)), ι_nat (show i < 2147483648 by omega), h21 i (by omega), if_pos (inb_t (show x / m ^ (m - 1 - i) % m < 6 by omega) (by omega)), ι_nat (show x / m ^ (m - 1 - i) % m < 2147483648 by omega), h20 _ hd, od_e, L10, L1, ι_mul, ι_add, ι_add, ι_add]
    exact p1
