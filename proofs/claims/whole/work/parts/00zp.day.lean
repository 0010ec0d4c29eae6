/-! THE PURE PART: the best order of the day, its enumeration -/
def cwN (wt : Nat → Bool) : Nat → Nat
  | 0 => 0
  | i + 1 => cwN wt i + (if wt i = true then 1 else 0)
def meN (wt : Nat → Bool) : Nat → Nat → Nat
  | 0, _ => 0
  | i + 1, f => if wt i = true ∧ cwN wt i = f then i else meN wt i f
theorem cw_mono {wt : Nat → Bool} {i : Nat} : ∀ d, cwN wt i ≤ cwN wt (i + d) ∧ cwN wt (i + d) ≤ cwN wt i + d
  | 0 => ⟨Nat.le_refl _, Nat.le_refl _⟩
  | d + 1 => by
    have h := cw_mono (wt := wt) (i := i) d
    show cwN wt i ≤ cwN wt (i + d) + (if wt (i + d) = true then 1 else 0) ∧ cwN wt (i + d) + (if wt (i + d) = true then 1 else 0) ≤ cwN wt i + (d + 1)
    split <;> omega
theorem cw_s {wt : Nat → Bool} {i : Nat} (h : wt i = true) : cwN wt (i + 1) = cwN wt i + 1 := by
  show cwN wt i + (if wt i = true then 1 else 0) = _
  rw [if_pos h]
theorem cw_n {wt : Nat → Bool} {i : Nat} (h : wt i = false) : cwN wt (i + 1) = cwN wt i := by
  show cwN wt i + (if wt i = true then 1 else 0) = _
  rw [h, if_neg (by decide), Nat.add_zero]
theorem cw_lt {wt : Nat → Bool} {i n : Nat} (h : wt i = true) (hn : i < n) : cwN wt i < cwN wt n := by
  have h1 := cw_s h
  have h2 := (cw_mono (wt := wt) (i := i + 1) (n - (i + 1))).1
  rw [show i + 1 + (n - (i + 1)) = n by omega] at h2
  omega
theorem me_cw {wt : Nat → Bool} {i : Nat} (h : wt i = true) : ∀ n, i < n → meN wt n (cwN wt i) = i
  | 0, hn => absurd hn (Nat.not_lt_zero _)
  | n + 1, hn => by
    show (if wt n = true ∧ cwN wt n = cwN wt i then n else meN wt n (cwN wt i)) = i
    by_cases c : i = n
    · rw [c] at h ⊢
      rw [if_pos ⟨h, rfl⟩]
    · have := cw_lt (n := n) h (by omega)
      rw [if_neg (fun e => by omega)]
      exact me_cw h n (by omega)
theorem me_ok {wt : Nat → Bool} {f : Nat} : ∀ n, f < cwN wt n → meN wt n f < n ∧ wt (meN wt n f) = true ∧ cwN wt (meN wt n f) = f
  | 0, h => absurd h (Nat.not_lt_zero _)
  | n + 1, h => by
    show (if wt n = true ∧ cwN wt n = f then n else meN wt n f) < n + 1 ∧ wt (if wt n = true ∧ cwN wt n = f then n else meN wt n f) = true ∧ cwN wt (if wt n = true ∧ cwN wt n = f then n else meN wt n f) = f
    by_cases c : wt n = true ∧ cwN wt n = f
    · rw [if_pos c]
      exact ⟨Nat.lt_succ_self n, c.1, c.2⟩
    · rw [if_neg c]
      have hf : f < cwN wt n := by
        by_cases w : wt n = true
        · rw [cw_s w] at h
          have : cwN wt n ≠ f := fun e => c ⟨w, e⟩
          omega
        · rw [cw_n (by rw [Bool.not_eq_true] at w; exact w)] at h
          exact h
      have := me_ok n hf
      exact ⟨by omega, this.2.1, this.2.2⟩
/-- an order of the day as a number: time, worth, digits, who stands in it -/
def tmD (m : Nat) (e : Nat → Nat) : Nat → Nat → Nat
  | 0, _ => 0
  | k + 1, p => tmD m e k (p / m) + e (p % m)
def coD (m : Nat) (e om : Nat → Nat) : Nat → Nat → Nat
  | 0, _ => 0
  | k + 1, p => coD m e om k (p / m) + tmD m e k (p / m) * om (p % m)
def dgD (m : Nat) (me : Nat → Nat) : Nat → Nat → Nat
  | 0, _ => 0
  | k + 1, p => dgD m me k (p / m) * 10 + me (p % m) + 1
def usD (m : Nat) : Nat → Nat → Nat → Bool
  | 0, _, _ => false
  | k + 1, p, f => usD m k (p / m) f || decide (f = p % m)
def cuD (m k p : Nat) : Nat := sumF (fun f => if usD m k p f = true then 1 else 0) 0 m
theorem sum_full {P : Nat → Bool} : ∀ d i, sumF (fun f => if P f = true then 1 else 0) i d ≤ d ∧ (sumF (fun f => if P f = true then 1 else 0) i d = d ↔ ∀ f, i ≤ f → f < i + d → P f = true) := by
  intro d
  induction d with
  | zero => intro i; exact ⟨Nat.le_refl _, fun _ f h1 h2 => by omega, fun _ => rfl⟩
  | succ d ih =>
    intro i
    obtain ⟨h1, h2⟩ := ih (i + 1)
    show (if P i = true then 1 else 0) + sumF (fun f => if P f = true then 1 else 0) (i + 1) d ≤ d + 1 ∧ ((if P i = true then 1 else 0) + sumF (fun f => if P f = true then 1 else 0) (i + 1) d = d + 1 ↔ _)
    by_cases c : P i = true
    · rw [if_pos c]
      refine ⟨by omega, fun h f f1 f2 => ?_, fun h => ?_⟩
      · by_cases e : f = i
        · rw [e]; exact c
        · exact h2.1 (by omega) f (by omega) (by omega)
      · rw [h2.2 (fun f f1 f2 => h f (by omega) (by omega))]
        omega
    · rw [if_neg c]
      refine ⟨by omega, fun h => by omega, fun h => absurd (h i (by omega) (by omega)) c⟩
theorem cu_step {m k p : Nat} : cuD m (k + 1) p ≤ cuD m k (p / m) + 1 := by
  unfold cuD
  have e := sumF_add (f := fun f => if usD m k (p / m) f = true then 1 else 0) (g := fun f => if usD m k (p / m) f = true then 0 else if f = p % m then 1 else 0) (h := fun f => if usD m (k + 1) p f = true then 1 else 0) m 0 (fun j g1 g2 => by
    show (if (usD m k (p / m) j || decide (j = p % m)) = true then 1 else 0) = (if usD m k (p / m) j = true then 1 else 0) + (if usD m k (p / m) j = true then 0 else if j = p % m then 1 else 0)
    by_cases a : usD m k (p / m) j = true
    · rw [a, Bool.true_or, if_pos rfl, if_pos rfl]
    · by_cases b : j = p % m
      · rw [if_pos (by rw [decide_eq_true b, Bool.or_true]), if_neg a, if_neg a, if_pos b]
      · rw [if_neg (by rw [decide_eq_false b, Bool.or_false]; exact a), if_neg a, if_neg a, if_neg b])
  have l : sumF (fun f => if usD m k (p / m) f = true then 0 else if f = p % m then 1 else 0) 0 m ≤ 1 := by
    have G : ∀ d i, sumF (fun f => if usD m k (p / m) f = true then 0 else if f = p % m then 1 else 0) i d ≤ 1 ∧ (p % m < i → sumF (fun f => if usD m k (p / m) f = true then 0 else if f = p % m then 1 else 0) i d = 0) := by
      intro d
      induction d with
      | zero => intro i; exact ⟨Nat.zero_le _, fun _ => rfl⟩
      | succ d ih =>
        intro i
        obtain ⟨h1, h2⟩ := ih (i + 1)
        show (if usD m k (p / m) i = true then 0 else if i = p % m then 1 else 0) + sumF (fun f => if usD m k (p / m) f = true then 0 else if f = p % m then 1 else 0) (i + 1) d ≤ 1 ∧ (p % m < i → (if usD m k (p / m) i = true then 0 else if i = p % m then 1 else 0) + sumF (fun f => if usD m k (p / m) f = true then 0 else if f = p % m then 1 else 0) (i + 1) d = 0)
        refine ⟨?_, fun h => ?_⟩
        · by_cases c : i = p % m
          · have := h2 (by omega)
            rw [this, if_pos c]
            split <;> omega
          · rw [if_neg c]
            split <;> omega
        · rw [h2 (by omega), if_neg (show ¬ i = p % m by omega)]
          split <;> rfl
    exact (G m 0).1
  omega
theorem cu_new {m k p f : Nat} (hf : f < m) (h : usD m k p f = false) : cuD m (k + 1) (p * m + f) = cuD m k p + 1 := by
  have e1 : (p * m + f) / m = p := by
    rw [Nat.mul_comm, Nat.mul_add_div (by omega), Nat.div_eq_of_lt hf, Nat.add_zero]
  have e2 : (p * m + f) % m = f := by
    rw [Nat.mul_comm, Nat.mul_add_mod, Nat.mod_eq_of_lt hf]
  unfold cuD
  have e := sumF_add (f := fun g => if usD m k p g = true then 1 else 0) (g := fun g => if g = f then 1 else 0) (h := fun g => if usD m (k + 1) (p * m + f) g = true then 1 else 0) m 0 (fun j g1 g2 => by
    show (if (usD m k ((p * m + f) / m) j || decide (j = (p * m + f) % m)) = true then 1 else 0) = (if usD m k p j = true then 1 else 0) + (if j = f then 1 else 0)
    rw [e1, e2]
    by_cases b : j = f
    · rw [if_pos (by rw [decide_eq_true b, Bool.or_true]), b, if_pos rfl, h, if_neg (by decide)]
    · rw [decide_eq_false b, Bool.or_false, if_neg b, Nat.add_zero])
  rw [e, sumF_ind m 0 (by omega) (by omega)]
theorem cu_up {m : Nat} : ∀ j k x, cuD m (k + j) x ≤ cuD m k (x / m ^ j) + j
  | 0, k, x => by
    rw [Nat.pow_zero, Nat.div_one]
    exact Nat.le_refl _
  | j + 1, k, x => by
    have h1 := cu_step (m := m) (k := k + j) (p := x)
    have h2 := cu_up (m := m) j k (x / m)
    have h3 : x / m / m ^ j = x / m ^ (j + 1) := by rw [Nat.div_div_eq_div_mul, Nat.pow_succ, Nat.mul_comm]
    rw [h3] at h2
    show cuD m (k + j + 1) x ≤ cuD m k (x / m ^ (j + 1)) + (j + 1)
    omega
def stD (m : Nat) (e om me : Nat → Nat) (b : Nat × Nat) (x : Nat) : Nat × Nat := if cuD m m x = m ∧ (b.1 = 0 ∨ coD m e om m x + 1 < b.1) then (coD m e om m x + 1, dgD m me m x) else b
def foD (m : Nat) (e om me : Nat → Nat) : Nat → Nat → Nat × Nat → Nat × Nat
  | 0, _, b => b
  | n + 1, x, b => foD m e om me n (x + 1) (stD m e om me b x)
theorem fo_add {m : Nat} {e om me : Nat → Nat} : ∀ a c x b, foD m e om me (a + c) x b = foD m e om me c (x + a) (foD m e om me a x b)
  | 0, c, x, b => by
    rw [Nat.zero_add, Nat.add_zero]
    rfl
  | a + 1, c, x, b => by
    rw [show a + 1 + c = (a + c) + 1 by omega]
    show foD m e om me (a + c) (x + 1) (stD m e om me b x) = foD m e om me c (x + (a + 1)) (foD m e om me a (x + 1) (stD m e om me b x))
    rw [fo_add a c, show x + 1 + a = x + (a + 1) by omega]
theorem fo_none {m : Nat} {e om me : Nat → Nat} : ∀ n x b, (∀ y, x ≤ y → y < x + n → cuD m m y ≠ m) → foD m e om me n x b = b
  | 0, _, _, _ => rfl
  | n + 1, x, b, h => by
    show foD m e om me n (x + 1) (stD m e om me b x) = b
    unfold stD
    rw [if_neg (fun q => h x (by omega) (by omega) q.1)]
    exact fo_none n (x + 1) b (fun y h1 h2 => h y (by omega) (by omega))
theorem fo_skip {m k j p : Nat} {e om me : Nat → Nat} {b : Nat × Nat} (hk : k + j = m) (hm : 0 < m) (h : cuD m k p < k) : foD m e om me (m ^ j) (p * m ^ j) b = b := by
  refine fo_none _ _ b (fun y h1 h2 => ?_)
  have hp : 0 < m ^ j := Nat.pow_pos hm
  have : y / m ^ j = p := by
    refine Nat.div_eq_of_lt_le h1 ?_
    rw [Nat.add_mul, Nat.one_mul]
    exact h2
  have := cu_up (m := m) j k y
  rw [hk] at this
  simp only [*] at this
  omega
theorem tm_le {m : Nat} {e : Nat → Nat} (he : ∀ f, e f ≤ 100) : ∀ k p, tmD m e k p ≤ 100 * k
  | 0, _ => Nat.le_refl _
  | k + 1, p => by
    have := tm_le he k (p / m) (m := m)
    have := he (p % m)
    show tmD m e k (p / m) + e (p % m) ≤ _
    omega
theorem co_le {m : Nat} {e om : Nat → Nat} (he : ∀ f, e f ≤ 100) (ho : ∀ f, om f ≤ 9) : ∀ k p, k ≤ 6 → coD m e om k p ≤ 5400 * k
  | 0, _, _ => Nat.le_refl _
  | k + 1, p, hk => by
    have h1 := co_le he ho k (p / m) (by omega) (m := m)
    have h2 := tm_le he k (p / m) (m := m)
    have h3 := Nat.mul_le_mul (show tmD m e k (p / m) ≤ 600 by omega) (ho (p % m))
    show coD m e om k (p / m) + tmD m e k (p / m) * om (p % m) ≤ _
    omega
