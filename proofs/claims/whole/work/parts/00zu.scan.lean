/-! THE PURE PART: the scanner -/
def runN (P : Nat → Bool) (b : Nat → Nat) : Nat → Nat → Nat
  | 0, p => p
  | d + 1, p => if P (b p) = true then runN P b d (p + 1) else p
theorem run_le {P : Nat → Bool} {b : Nat → Nat} : ∀ d p, p ≤ runN P b d p ∧ runN P b d p ≤ p + d
  | 0, p => ⟨Nat.le_refl _, Nat.le_refl _⟩
  | d + 1, p => by
    have h := run_le (P := P) (b := b) d (p + 1)
    show p ≤ (if P (b p) = true then runN P b d (p + 1) else p) ∧ (if P (b p) = true then runN P b d (p + 1) else p) ≤ p + (d + 1)
    split <;> omega
def ltr (x : Nat) : Bool := decide (97 ≤ x ∧ x ≤ 122)
def dgt (x : Nat) : Bool := decide (48 ≤ x ∧ x ≤ 57)
def TC (n : Nat) (b : Nat → Nat) (σ : Mem) : Prop := σ 9 1 = ι n ∧ ∀ j, j < n → σ 10 j = ι (b j)
def TF (n : Nat) (b : Nat → Nat) (τ : Mem) : Prop := (τ 0 8 = ι n ∧ ∀ j, j < n → τ 5 j = ι (b j)) ∧ ∀ j, j < 96 → τ 13 j = wtab j
theorem isLetter_c {x : Nat} (h : x ≤ 255) : f_X2_isLetter (ι x) = if ltr x = true then ι 1 else ι 0 := by
  have : ∀ x, x < 256 → f_X2_isLetter (ι x) = if ltr x = true then ι 1 else ι 0 := by decide +kernel
  exact this x (by omega)
theorem isDigit_c {x : Nat} (h : x ≤ 255) : f_X2_isDigit (ι x) = if dgt x = true then ι 1 else ι 0 := by
  have : ∀ x, x < 256 → f_X2_isDigit (ι x) = if dgt x = true then ι 1 else ι 0 := by decide +kernel
  exact this x (by omega)
theorem ltr_r {x : Nat} (h : x ≤ 255) : f_X9_in (ι x) 97 122 = if ltr x = true then ι 1 else ι 0 := by
  have : ∀ x, x < 256 → f_X9_in (ι x) 97 122 = if ltr x = true then ι 1 else ι 0 := by decide +kernel
  exact this x (by omega)
theorem dgt_r {x : Nat} (h : x ≤ 255) : f_X9_in (ι x) 48 57 = if dgt x = true then ι 1 else ι 0 := by
  have : ∀ x, x < 256 → f_X9_in (ι x) 48 57 = if dgt x = true then ι 1 else ι 0 := by decide +kernel
  exact this x (by omega)
theorem c_byteAt {n p : Nat} {b : Nat → Nat} {σ : Mem} (h : TC n b σ) (hn : n ≤ 160) (hp : p < n) : f_X2_byteAt σ (ι p) = some (ι (b p)) := by
  unfold f_X2_byteAt
  rw [L0, if_neg (show ¬ ι p < ι 0 by rw [lt_f (by omega) (by omega)]; exact id), h.1, if_neg (show ¬ ι n ≤ ι p by rw [le_f (by omega) (by omega)]; exact id), L160, if_neg (show ¬ ι 160 ≤ ι p by rw [le_f (by omega) (by omega)]; exact id), if_pos (inb_t (show p < 160 by omega) (by omega)), ι_nat (by omega), h.2 p hp]
theorem c_byteEnd {n p : Nat} {b : Nat → Nat} {σ : Mem} (h : TC n b σ) (hn : n ≤ 160) (hp : n ≤ p) (h2 : p < 2147483648) : f_X2_byteAt σ (ι p) = some (-1) := by
  unfold f_X2_byteAt
  rw [L0, if_neg (show ¬ ι p < ι 0 by rw [lt_f (by omega) (by omega)]; exact id), h.1, if_pos (show ι n ≤ ι p by rw [le_t (by omega) (by omega)]; trivial)]
theorem c_endW {n : Nat} {b : Nat → Nat} {σ : Mem} (h : TC n b σ) (hn : n ≤ 160) (hb : ∀ j, j < n → b j ≤ 255) : ∀ d p k m, p + d = n → k ≤ p → d < m → f_X2_endOfWord_b4 σ m (ι p) (ι k) = some (ι (runN ltr b d p)) := by
  intro d
  induction d with
  | zero =>
    intro p k m hp hk hm
    obtain ⟨m, rfl⟩ : ∃ q, m = q + 1 := ⟨m - 1, by omega⟩
    rw [f_X2_endOfWord_b4, L160]
    by_cases c : 160 ≤ k
    · rw [if_pos (show ι 160 ≤ ι k by rw [le_t (by omega) (by omega)]; trivial)]
      rfl
    · rw [if_neg (show ¬ ι 160 ≤ ι k by rw [le_f (by omega) (by omega)]; exact id), c_byteEnd h hn (by omega) (by omega), ob_s, if_pos (show f_X2_isLetter (-1) = 0 by decide +kernel)]
      rfl
  | succ d ih =>
    intro p k m hp hk hm
    obtain ⟨m, rfl⟩ : ∃ q, m = q + 1 := ⟨m - 1, by omega⟩
    rw [f_X2_endOfWord_b4, L160, if_neg (show ¬ ι 160 ≤ ι k by rw [le_f (by omega) (by omega)]; exact id), c_byteAt h hn (by omega), ob_s, isLetter_c (hb p (by omega))]
    show _ = some (ι (if ltr (b p) = true then runN ltr b d (p + 1) else p))
    by_cases c : ltr (b p) = true
    · rw [if_pos c, if_pos c, if_neg (show ¬ ι 1 = (0 : Int32) by decide), L1, ι_add, ι_add]
      exact ih (p + 1) (k + 1) m (by omega) (by omega) (by omega)
    · rw [if_neg c, if_neg c, if_pos (show ι 0 = (0 : Int32) from rfl)]
theorem c_endN {n : Nat} {b : Nat → Nat} {σ : Mem} (h : TC n b σ) (hn : n ≤ 160) (hb : ∀ j, j < n → b j ≤ 255) : ∀ d p k m, p + d = n → k ≤ p → d < m → f_X2_endOfNumber_b4 σ m (ι p) (ι k) = some (ι (runN dgt b d p)) := by
  intro d
  induction d with
  | zero =>
    intro p k m hp hk hm
    obtain ⟨m, rfl⟩ : ∃ q, m = q + 1 := ⟨m - 1, by omega⟩
    rw [f_X2_endOfNumber_b4, L160]
    by_cases c : 160 ≤ k
    · rw [if_pos (show ι 160 ≤ ι k by rw [le_t (by omega) (by omega)]; trivial)]
      rfl
    · rw [if_neg (show ¬ ι 160 ≤ ι k by rw [le_f (by omega) (by omega)]; exact id), c_byteEnd h hn (by omega) (by omega), ob_s, if_pos (show f_X2_isDigit (-1) = 0 by decide +kernel)]
      rfl
  | succ d ih =>
    intro p k m hp hk hm
    obtain ⟨m, rfl⟩ : ∃ q, m = q + 1 := ⟨m - 1, by omega⟩
    rw [f_X2_endOfNumber_b4, L160, if_neg (show ¬ ι 160 ≤ ι k by rw [le_f (by omega) (by omega)]; exact id), c_byteAt h hn (by omega), ob_s, isDigit_c (hb p (by omega))]
    show _ = some (ι (if dgt (b p) = true then runN dgt b d (p + 1) else p))
    by_cases c : dgt (b p) = true
    · rw [if_pos c, if_pos c, if_neg (show ¬ ι 1 = (0 : Int32) by decide), L1, ι_add, ι_add]
      exact ih (p + 1) (k + 1) m (by omega) (by omega) (by omega)
    · rw [if_neg c, if_neg c, if_pos (show ι 0 = (0 : Int32) from rfl)]
/-- the number that the digits from p to e tell -/
def numN (b : Nat → Nat) : Nat → Nat → Nat → Nat
  | 0, _, x => x
  | d + 1, p, x => numN b d (p + 1) (x * 10 + (b p - 48))
theorem c_num {n : Nat} {b : Nat → Nat} {σ : Mem} (h : TC n b σ) (hn : n ≤ 160) {e : Nat} (he : e ≤ n) : ∀ d p x m, p + d = e → d < m → (∀ j, p ≤ j → j < e → dgt (b j) = true) → f_X2_numberToken_b15 σ (ι e) m (ι x) (ι p) = some (ι (numN b d p x)) := by
  intro d
  induction d with
  | zero =>
    intro p x m hp hm hd
    obtain ⟨m, rfl⟩ : ∃ q, m = q + 1 := ⟨m - 1, by omega⟩
    rw [f_X2_numberToken_b15, if_pos (show ι e ≤ ι p by rw [le_t (by omega) (by omega)]; trivial)]
    rfl
  | succ d ih =>
    intro p x m hp hm hd
    obtain ⟨m, rfl⟩ : ∃ q, m = q + 1 := ⟨m - 1, by omega⟩
    have hdp : 48 ≤ b p ∧ b p ≤ 57 := of_decide_eq_true (hd p (Nat.le_refl p) (by omega))
    rw [f_X2_numberToken_b15, if_neg (show ¬ ι e ≤ ι p by rw [le_f (by omega) (by omega)]; exact id), c_byteAt h hn (by omega), ob_s, show (10 : Int32) = ι 10 from rfl, ι_mul, ι_add, show (48 : Int32) = ι 48 from rfl, show ι (x * 10 + b p) - ι 48 = ι (x * 10 + (b p - 48)) by
      rw [show x * 10 + b p = (x * 10 + (b p - 48)) + 48 by omega, ← ι_add, Int32.add_sub_cancel], od_e, L1, ι_add]
    exact ih (p + 1) _ m (by omega) (by omega) (fun j h1 h2 => hd j (by omega) h2)
