/-! THE PURE PART: tokens, words, and the class's splitting of the tape -/
def cc (t : Nat) : Int32 := if t < 20000 then ι t else -ι (t - 20000)
def blk (x : Nat) : Bool := decide (x = 32 ∨ x = 10)
def skB (b : Nat → Nat) (n p : Nat) : Nat := runN blk b (n - p) p
def wdN : List (List Nat) := [[103, 114, 111, 119, 115], [116, 114, 105, 109, 115], [115, 104, 97, 109, 101, 115], [98, 101, 97, 114, 100], [111, 105, 108], [109, 111, 114, 101], [119, 101, 101, 107], [111, 119, 101, 100], [114, 97, 110, 107], [111, 114], [97, 110, 100], [110, 111, 116]]
def wLn (k : Nat) : Nat := (wdN.getD k []).length
def wLt (k j : Nat) : Nat := (wdN.getD k []).getD j 0
def kc (i : Nat) : Nat := if i < 3 then i else if i < 6 then i + 6 else i - 3
def wma (b : Nat → Nat) (k p : Nat) : Nat → Nat → Bool
  | 0, _ => true
  | d + 1, j => decide (wLt k j = b (p + j)) && wma b k p d (j + 1)
def wdB (b : Nat → Nat) (p e k : Nat) : Bool := decide (e - p = wLn k) && wma b k p (wLn k) 0
theorem wma_iff {b : Nat → Nat} {k p : Nat} : ∀ d j, wma b k p d j = true ↔ ∀ i, j ≤ i → i < j + d → wLt k i = b (p + i)
  | 0, j => ⟨fun _ i h1 h2 => absurd h2 (by omega), fun _ => rfl⟩
  | d + 1, j => by
    show (decide (wLt k j = b (p + j)) && wma b k p d (j + 1)) = true ↔ _
    rw [Bool.and_eq_true, decide_eq_true_iff, wma_iff d (j + 1)]
    constructor
    · intro ⟨h1, h2⟩ i hi hj
      by_cases e : i = j
      · rw [e]; exact h1
      · exact h2 i (by omega) (by omega)
    · intro h
      exact ⟨h j (Nat.le_refl j) (by omega), fun i h1 h2 => h i (by omega) (by omega)⟩
theorem wdB_iff {b : Nat → Nat} {k p e : Nat} : wdB b p e k = true ↔ e - p = wLn k ∧ ∀ i, i < wLn k → wLt k i = b (p + i) := by
  unfold wdB
  rw [Bool.and_eq_true, decide_eq_true_iff, wma_iff]
  exact ⟨fun ⟨h1, h2⟩ => ⟨h1, fun i h => h2 i (Nat.zero_le i) (by omega)⟩, fun ⟨h1, h2⟩ => ⟨h1, fun i _ h => h2 i (by omega)⟩⟩
theorem wd_one {b : Nat → Nat} {p e k k' : Nat} (h : k < 12) (h' : k' < 12) (a : wdB b p e k = true) (a' : wdB b p e k' = true) : k = k' := by
  have D : ∀ k, k < 12 → ∀ k', k' < 12 → wLn k = wLn k' → wLt k 0 = wLt k' 0 → k = k' := by decide +kernel
  have P : ∀ k, k < 12 → 0 < wLn k := by decide +kernel
  obtain ⟨a1, a2⟩ := wdB_iff.mp a
  obtain ⟨b1, b2⟩ := wdB_iff.mp a'
  exact D k h k' h' (a1.symm.trans b1) ((a2 0 (P k h)).trans (b2 0 (P k' h')).symm)
def fkN (b : Nat → Nat) (p e : Nat) : Nat → Nat → Nat
  | 0, _ => 12
  | d + 1, k => if wdB b p e k = true then k else fkN b p e d (k + 1)
def wkN (b : Nat → Nat) (p e : Nat) : Nat := fkN b p e 12 0
theorem fk_ok {b : Nat → Nat} {p e : Nat} : ∀ d k, k + d = 12 → fkN b p e d k ≤ 12 ∧ (fkN b p e d k < 12 → wdB b p e (fkN b p e d k) = true) ∧ ∀ i, k ≤ i → i < 12 → i < fkN b p e d k → wdB b p e i = false
  | 0, k, h => ⟨Nat.le_refl _, fun h => absurd h (Nat.lt_irrefl _), fun i h1 h2 h3 => by omega⟩
  | d + 1, k, h => by
    obtain ⟨i1, i2, i3⟩ := fk_ok (b := b) (p := p) (e := e) d (k + 1) (by omega)
    show (if wdB b p e k = true then k else fkN b p e d (k + 1)) ≤ 12 ∧ ((if wdB b p e k = true then k else fkN b p e d (k + 1)) < 12 → wdB b p e (if wdB b p e k = true then k else fkN b p e d (k + 1)) = true) ∧ ∀ i, k ≤ i → i < 12 → i < (if wdB b p e k = true then k else fkN b p e d (k + 1)) → wdB b p e i = false
    by_cases c : wdB b p e k = true
    · rw [if_pos c]
      exact ⟨by omega, fun _ => c, fun i h1 h2 h3 => by omega⟩
    · rw [if_neg c]
      refine ⟨i1, i2, fun i h1 h2 h3 => ?_⟩
      by_cases e : i = k
      · rw [e]; exact Bool.eq_false_iff.mpr c
      · exact i3 i (by omega) h2 h3
theorem wk_le {b : Nat → Nat} {p e : Nat} : wkN b p e ≤ 12 := (fk_ok 12 0 rfl).1
theorem wk_all {b : Nat → Nat} {p e i : Nat} (h : i < 12) : wdB b p e i = decide (i = wkN b p e) := by
  obtain ⟨h1, h2, h3⟩ := fk_ok (b := b) (p := p) (e := e) 12 0 rfl
  by_cases c : i = wkN b p e
  · rw [decide_eq_true c]
    have := h2 (by unfold wkN at c; omega)
    unfold wkN at c
    rw [c]
    exact this
  · rw [decide_eq_false c]
    by_cases g : wdB b p e i = true
    · exfalso
      unfold wkN at c
      by_cases l : i < fkN b p e 12 0
      · rw [h3 i (Nat.zero_le i) h l] at g; cases g
      · exact c (wd_one h (by omega) g (h2 (by omega)))
    · exact Bool.eq_false_iff.mpr g
def wcd (k : Nat) : Nat := if k < 3 then 20020 + k else if k < 9 then 19998 + k else if k = 9 then 20010 else if k = 10 then 20011 else if k = 11 then 20017 else 20040
theorem c_isWord {n p e i : Nat} {b : Nat → Nat} {σ : Mem} (h : TC n b σ) (hn : n ≤ 160) (hb : ∀ j, j < n → b j ≤ 255) (hp : p ≤ e) (he : e ≤ n) (hi : i < 12) : f_X2_isWord σ i (ι p) (ι e) = some (if wdB b p e (kc i) = true then ι 1 else ι 0) := by
  have D1 : ∀ i, i < 12 → wlen i = wLn (kc i) ∧ wLn (kc i) ≤ 6 := by decide +kernel
  have D2 : ∀ i, i < 12 → ∀ j, j < 6 → j < wLn (kc i) → wch i j = ι (wLt (kc i) j) ∧ wLt (kc i) j ≤ 255 := by decide +kernel
  obtain ⟨l1, l2⟩ := D1 i hi
  have go : e - p = wLn (kc i) → ∀ d j m, j + d = wLn (kc i) → d < m → f_X2_isWord_b15 σ i (ι p) m (ι j) = some (if wma b (kc i) p d j = true then ι 1 else ι 0) := by
    intro hl d
    induction d with
    | zero =>
      intro j m hj hm
      obtain ⟨m, rfl⟩ : ∃ q, m = q + 1 := ⟨m - 1, by omega⟩
      rw [f_X2_isWord_b15, l1, if_pos (show Int32.ofNat (wLn (kc i)) ≤ ι j by rw [show Int32.ofNat (wLn (kc i)) = ι (wLn (kc i)) from rfl, le_t (by omega) (by omega)]; trivial)]
      rfl
    | succ d ih =>
      intro j m hj hm
      obtain ⟨m, rfl⟩ : ∃ q, m = q + 1 := ⟨m - 1, by omega⟩
      obtain ⟨w1, w2⟩ := D2 i hi j (by omega) (by omega)
      have w3 := hb (p + j) (by omega)
      rw [f_X2_isWord_b15, l1, if_neg (show ¬ Int32.ofNat (wLn (kc i)) ≤ ι j by rw [show Int32.ofNat (wLn (kc i)) = ι (wLn (kc i)) from rfl, le_f (by omega) (by omega)]; exact id), if_pos (inb_t (show j < wLn (kc i) by omega) (by omega)), ι_add, c_byteAt h hn (by omega), ob_s, ι_nat (by omega), w1]
      show _ = some (if (decide (wLt (kc i) j = b (p + j)) && wma b (kc i) p d (j + 1)) = true then ι 1 else ι 0)
      by_cases c : wLt (kc i) j = b (p + j)
      · rw [if_pos (by rw [c]), decide_eq_true c, Bool.true_and, L1, ι_add]
        exact ih (j + 1) m (by omega) (by omega)
      · rw [if_neg (show ¬ ι (wLt (kc i) j) = ι (b (p + j)) by rw [eq_f c (by omega) (by omega)]; exact id), decide_eq_false c, Bool.false_and]
        rfl
  unfold f_X2_isWord wdB
  rw [ι_sub hp (by omega), l1, show Int32.ofNat (wLn (kc i)) = ι (wLn (kc i)) from rfl]
  by_cases c : e - p = wLn (kc i)
  · rw [if_pos (by rw [c]), decide_eq_true c, Bool.true_and]
    exact go c _ 0 FU (by omega) (by unfold FU; omega)
  · rw [if_neg (show ¬ ι (e - p) = ι (wLn (kc i)) by rw [eq_f c (by omega) (by omega)]; exact id), decide_eq_false c, Bool.false_and]
    rfl
theorem c_word {n p e : Nat} {b : Nat → Nat} {σ : Mem} (h : TC n b σ) (hn : n ≤ 160) (hb : ∀ j, j < n → b j ≤ 255) (hp : p ≤ e) (he : e ≤ n) : f_X2_wordToken σ (ι p) (ι e) = some (cc (wcd (wkN b p e))) := by
  have D : ∀ i, i < 12 → kc i < 12 := by decide +kernel
  have W : ∀ i, i < 12 → f_X2_isWord σ i (ι p) (ι e) = some (if kc i = wkN b p e then ι 1 else ι 0) := fun i hi => by
    rw [c_isWord h hn hb hp he hi, wk_all (D i hi)]; simp only [decide_eq_true_eq]
  have hk := wk_le (b := b) (p := p) (e := e)
  unfold f_X2_wordToken f_X2_nameToken
  rw [W 0 (by decide), W 1 (by decide), W 2 (by decide), W 3 (by decide), W 4 (by decide), W 5 (by decide), W 6 (by decide), W 7 (by decide), W 8 (by decide), W 9 (by decide), W 10 (by decide), W 11 (by decide)]
  generalize wkN b p e = k at hk
  have D2 : ∀ k, k ≤ 12 → (ob (some (if kc 0 = k then ι 1 else ι 0)) (fun r2 => (if r2 = 0 then (ob (some (if kc 1 = k then ι 1 else ι 0)) (fun r5 => (if r5 = 0 then (ob (some (if kc 2 = k then ι 1 else ι 0)) (fun r8 => (if r8 = 0 then (ob (some (if kc 3 = k then ι 1 else ι 0)) (fun r11 => (if r11 = 0 then (ob (some (if kc 4 = k then ι 1 else ι 0)) (fun r14 => (if r14 = 0 then (ob (some (if kc 5 = k then ι 1 else ι 0)) (fun r17 => (if r17 = 0 then (ob (ob (some (if kc 6 = k then ι 1 else ι 0)) (fun r2 => (if r2 = 0 then (ob (some (if kc 7 = k then ι 1 else ι 0)) (fun r5 => (if r5 = 0 then (ob (some (if kc 8 = k then ι 1 else ι 0)) (fun r8 => (if r8 = 0 then (ob (some (if kc 9 = k then ι 1 else ι 0)) (fun r11 => (if r11 = 0 then (ob (some (if kc 10 = k then ι 1 else ι 0)) (fun r14 => (if r14 = 0 then (ob (some (if kc 11 = k then ι 1 else ι 0)) (fun r17 => (if r17 = 0 then some (-40 : Int32) else some (-6 : Int32)))) else some (-5 : Int32)))) else some (-4 : Int32)))) else some (-3 : Int32)))) else some (-2 : Int32)))) else some (-1 : Int32)))) (fun r20 => some r20)) else some (-17 : Int32)))) else some (-11 : Int32)))) else some (-10 : Int32)))) else some (-22 : Int32)))) else some (-21 : Int32)))) else some (-20 : Int32)))) = some (cc (wcd k)) := by decide +kernel
  exact D2 k hk
def sg (x : Nat) : Nat := if x = 40 then 20030 else if x = 41 then 20031 else if x = 42 then 20016 else if x = 43 then 20014 else if x = 45 then 20015 else if x = 59 then 20032 else if x = 60 then 20012 else if x = 61 then 20013 else 20040
theorem c_sign {x : Nat} (h : x ≤ 255) : f_X2_signToken (ι x) = cc (sg x) := by
  have : ∀ x, x < 256 → f_X2_signToken (ι x) = cc (sg x) := by decide +kernel
  exact this x (by omega)
theorem num_lt {b : Nat → Nat} : ∀ d p x, (∀ j, p ≤ j → j < p + d → dgt (b j) = true) → numN b d p x < (x + 1) * 10 ^ d
  | 0, p, x, _ => by show x < (x + 1) * 1; omega
  | d + 1, p, x, h => by
    have h1 := of_decide_eq_true (h p (Nat.le_refl p) (by omega))
    have h2 := num_lt d (p + 1) (x * 10 + (b p - 48)) (fun j a c => h j (by omega) (by omega))
    show numN b d (p + 1) (x * 10 + (b p - 48)) < _
    refine Nat.lt_of_lt_of_le h2 ?_
    rw [Nat.pow_succ, Nat.mul_comm (10 ^ d) 10, ← Nat.mul_assoc]
    exact Nat.mul_le_mul_right _ (by omega)
theorem num_4 {b : Nat → Nat} {d p : Nat} (hd : d ≤ 4) (h : ∀ j, p ≤ j → j < p + d → dgt (b j) = true) : numN b d p 0 ≤ 9999 := by
  have h1 := num_lt d p 0 h
  have h2 : 10 ^ d ≤ 10 ^ 4 := Nat.pow_le_pow_right (by decide) hd
  have h3 : (10 : Nat) ^ 4 = 10000 := rfl
  omega
theorem run_all {P : Nat → Bool} {b : Nat → Nat} : ∀ d p j, p ≤ j → j < runN P b d p → P (b j) = true
  | 0, p, j, h1, h2 => by
    have : runN P b 0 p = p := rfl
    omega
  | d + 1, p, j, h1, h2 => by
    have e : runN P b (d + 1) p = if P (b p) = true then runN P b d (p + 1) else p := rfl
    rw [e] at h2
    by_cases c : P (b p) = true
    · rw [if_pos c] at h2
      by_cases g : j = p
      · rw [g]; exact c
      · exact run_all d (p + 1) j (by omega) h2
    · rw [if_neg c] at h2
      omega
/-- the end, and the code, of the token that begins at p -/
def tE (b : Nat → Nat) (n p : Nat) : Nat := if n ≤ p then n else if ltr (b p) = true then runN ltr b (n - p) p else if dgt (b p) = true then runN dgt b (n - p) p else p + 1
def tC (b : Nat → Nat) (n p : Nat) : Nat := if n ≤ p then 20041 else if ltr (b p) = true then wcd (wkN b p (tE b n p)) else if dgt (b p) = true then (if tE b n p - p ≤ 4 then numN b (tE b n p - p) p 0 else 20040) else sg (b p)
/-- where token k begins -/
def pS (b : Nat → Nat) (n : Nat) : Nat → Nat
  | 0 => skB b n 0
  | k + 1 => skB b n (tE b n (pS b n k))
def tk (b : Nat → Nat) (n k : Nat) : Nat := tC b n (pS b n k)
theorem run_first {P : Nat → Bool} {b : Nat → Nat} {d p : Nat} (hd : 0 < d) (h : P (b p) = true) : p < runN P b d p := by
  obtain ⟨d, rfl⟩ : ∃ q, d = q + 1 := ⟨d - 1, by omega⟩
  show p < if P (b p) = true then runN P b d (p + 1) else p
  rw [if_pos h]
  have := (run_le (P := P) (b := b) d (p + 1)).1
  omega
theorem tE_b {b : Nat → Nat} {n p : Nat} (h : p < n) : p < tE b n p ∧ tE b n p ≤ n := by
  unfold tE
  rw [if_neg (by omega)]
  by_cases c : ltr (b p) = true
  · rw [if_pos c]
    have := (run_le (P := ltr) (b := b) (n - p) p).2
    exact ⟨run_first (by omega) c, by omega⟩
  · rw [if_neg c]
    by_cases c : dgt (b p) = true
    · rw [if_pos c]
      have := (run_le (P := dgt) (b := b) (n - p) p).2
      exact ⟨run_first (by omega) c, by omega⟩
    · rw [if_neg c]
      omega
theorem tE_n {b : Nat → Nat} {n : Nat} : tE b n n = n := by unfold tE; rw [if_pos (Nat.le_refl n)]
theorem skB_b {b : Nat → Nat} {n p : Nat} (h : p ≤ n) : p ≤ skB b n p ∧ skB b n p ≤ n := by
  unfold skB
  have := run_le (P := blk) (b := b) (n - p) p
  omega
theorem skB_n {b : Nat → Nat} {n : Nat} : skB b n n = n := by unfold skB; rw [Nat.sub_self]; rfl
theorem skB_s {b : Nat → Nat} {n p : Nat} (h : p < n) (hb : blk (b p) = true) : skB b n p = skB b n (p + 1) := by
  unfold skB
  rw [show n - p = (n - (p + 1)) + 1 by omega]
  show (if blk (b p) = true then runN blk b (n - (p + 1)) (p + 1) else p) = _
  rw [if_pos hb]
theorem skB_e {b : Nat → Nat} {n p : Nat} (h : p < n) (hb : ¬ blk (b p) = true) : skB b n p = p := by
  unfold skB
  rw [show n - p = (n - (p + 1)) + 1 by omega]
  show (if blk (b p) = true then runN blk b (n - (p + 1)) (p + 1) else p) = _
  rw [if_neg hb]
theorem pS_le {b : Nat → Nat} {n : Nat} : ∀ k, pS b n k ≤ n
  | 0 => (skB_b (Nat.zero_le n)).2
  | k + 1 => by
    have := pS_le (b := b) (n := n) k
    by_cases c : pS b n k < n
    · exact (skB_b (tE_b c).2).2
    · show skB b n (tE b n (pS b n k)) ≤ n
      rw [show pS b n k = n by omega, tE_n, skB_n]
      exact Nat.le_refl n
theorem tC_ltr {b : Nat → Nat} {n p : Nat} (h : p < n) (c : ltr (b p) = true) : tC b n p = wcd (wkN b p (tE b n p)) := by
  unfold tC; rw [if_neg (by omega), if_pos c]
theorem tC_dgt {b : Nat → Nat} {n p : Nat} (h : p < n) (c : ¬ ltr (b p) = true) (d : dgt (b p) = true) : tC b n p = if tE b n p - p ≤ 4 then numN b (tE b n p - p) p 0 else 20040 := by
  unfold tC; rw [if_neg (by omega), if_neg c, if_pos d]
theorem tC_sg {b : Nat → Nat} {n p : Nat} (h : p < n) (c : ¬ ltr (b p) = true) (d : ¬ dgt (b p) = true) : tC b n p = sg (b p) := by
  unfold tC; rw [if_neg (by omega), if_neg c, if_neg d]
theorem tE_ltr {b : Nat → Nat} {n p : Nat} (h : p < n) (c : ltr (b p) = true) : tE b n p = runN ltr b (n - p) p := by
  unfold tE; rw [if_neg (by omega), if_pos c]
theorem tE_dgt {b : Nat → Nat} {n p : Nat} (h : p < n) (c : ¬ ltr (b p) = true) (d : dgt (b p) = true) : tE b n p = runN dgt b (n - p) p := by
  unfold tE; rw [if_neg (by omega), if_neg c, if_pos d]
theorem tE_sg {b : Nat → Nat} {n p : Nat} (h : p < n) (c : ¬ ltr (b p) = true) (d : ¬ dgt (b p) = true) : tE b n p = p + 1 := by
  unfold tE; rw [if_neg (by omega), if_neg c, if_neg d]
theorem cz_number {n p : Nat} {b : Nat → Nat} {σ : Mem} (h : TC n b σ) (hn : n ≤ 160) (hp : p < n) (c : ¬ ltr (b p) = true) (d : dgt (b p) = true) : f_X2_numberToken σ (ι p) (ι (tE b n p)) = some (cc (tC b n p)) := by
  obtain ⟨e1, e2⟩ := tE_b (b := b) hp
  rw [tC_dgt hp c d]
  unfold f_X2_numberToken
  rw [ι_sub (by omega) (by omega), show (4 : Int32) = ι 4 from rfl]
  have hall : ∀ j, p ≤ j → j < tE b n p → dgt (b j) = true := by
    intro j h1 h2
    rw [tE_dgt hp c d] at h2
    exact run_all _ _ j h1 h2
  by_cases g : tE b n p - p ≤ 4
  · rw [if_pos (show ι (tE b n p - p) ≤ ι 4 by rw [le_t g (by omega)]; trivial), if_pos g, L0]
    have := num_4 (b := b) g (fun j h1 h2 => hall j h1 (by omega))
    rw [show cc (numN b (tE b n p - p) p 0) = ι (numN b (tE b n p - p) p 0) by unfold cc; rw [if_pos (by omega)]]
    exact c_num h hn e2 _ p 0 FU (by omega) (by unfold FU; omega) hall
  · rw [if_neg (show ¬ ι (tE b n p - p) ≤ ι 4 by rw [le_f (by omega) (by omega)]; exact id), if_neg g]
    rfl
theorem c_addToken {σ : Mem} {k : Nat} {x w : Int32} (h : σ 9 4 = ι k) (hk : k < 161) : f_X2_addToken σ x w = some (ms (ms (ms σ 11 k x) 12 k w) 9 4 (ι (k + 1))) := by
  unfold f_X2_addToken
  simp (disch := omega) only [h, ↓reduceIte, eq_self, Bool.false_eq_true, reduceCtorEq, ob_s, ob2_s, od_e, onl_n, onl_s, ι_nat, ι_add, ι_mul, ι_sub, ι_addm, lt_t, lt_f, le_t, le_f, eq_t, eq_f, inb_t, inb_f, neq_f, neq_f2, neq_nf, nlt_t, nlt_f, nle_t, nle_f, ms_at, ms_off, up_at, up_off, L0, L1, L2, L3, L4, L5, L6, L7, L8, L9, L10, L11, L12, L13, L14, L15, L16, L17, L18, L19, L20, L21, L22, L23, L24, L30, L31, L32, L40, L41, L42, L43, L45, L47, L48, L52, L57, L59, L60, L61, L63, L64, L72, L97, L99, L100, L122, L160, L161, L200, L255, L999, L1200, L1998, L99999, L100000, L1000005]
/-- k tokens lie in the class's rows -/
def SPL (n : Nat) (b : Nat → Nat) (σ0 : Mem) (k : Nat) (σ : Mem) : Prop := σ 9 4 = ι k ∧ (∀ j, j < k → σ 11 j = cc (tk b n j) ∧ σ 12 j = ι (pS b n j)) ∧ ∀ a j, ¬ (a = 11 ∨ a = 12 ∨ (a = 9 ∧ j = 4)) → σ a j = σ0 a j
theorem SPL_TC {n k : Nat} {b : Nat → Nat} {σ0 σ : Mem} (h0 : TC n b σ0) (h : SPL n b σ0 k σ) : TC n b σ := by
  obtain ⟨h1, h2, h3⟩ := h
  exact ⟨by rw [h3 9 1 (by omega)]; exact h0.1, fun j hj => by rw [h3 10 j (by omega)]; exact h0.2 j hj⟩
theorem SPL_add {n k : Nat} {b : Nat → Nat} {σ0 σ : Mem} (h : SPL n b σ0 k σ) (hk : k < 161) : SPL n b σ0 (k + 1) (ms (ms (ms σ 11 k (cc (tk b n k))) 12 k (ι (pS b n k))) 9 4 (ι (k + 1))) := by
  obtain ⟨h1, h2, h3⟩ := h
  refine ⟨ms_at rfl rfl, fun j hj => ?_, fun a j hj => ?_⟩
  · by_cases e : j = k
    · subst e
      simp (disch := omega) only [↓reduceIte, eq_self, Bool.false_eq_true, reduceCtorEq, ob_s, ob2_s, od_e, onl_n, onl_s, ι_nat, ι_add, ι_mul, ι_sub, ι_addm, lt_t, lt_f, le_t, le_f, eq_t, eq_f, inb_t, inb_f, neq_f, neq_f2, neq_nf, nlt_t, nlt_f, nle_t, nle_f, ms_at, ms_off, up_at, up_off, L0, L1, L2, L3, L4, L5, L6, L7, L8, L9, L10, L11, L12, L13, L14, L15, L16, L17, L18, L19, L20, L21, L22, L23, L24, L30, L31, L32, L40, L41, L42, L43, L45, L47, L48, L52, L57, L59, L60, L61, L63, L64, L72, L97, L99, L100, L122, L160, L161, L200, L255, L999, L1200, L1998, L99999, L100000, L1000005]
      exact ⟨trivial, trivial⟩
    · obtain ⟨q1, q2⟩ := h2 j (by omega)
      simp (disch := omega) only [↓reduceIte, eq_self, Bool.false_eq_true, reduceCtorEq, ob_s, ob2_s, od_e, onl_n, onl_s, ι_nat, ι_add, ι_mul, ι_sub, ι_addm, lt_t, lt_f, le_t, le_f, eq_t, eq_f, inb_t, inb_f, neq_f, neq_f2, neq_nf, nlt_t, nlt_f, nle_t, nle_f, ms_at, ms_off, up_at, up_off, L0, L1, L2, L3, L4, L5, L6, L7, L8, L9, L10, L11, L12, L13, L14, L15, L16, L17, L18, L19, L20, L21, L22, L23, L24, L30, L31, L32, L40, L41, L42, L43, L45, L47, L48, L52, L57, L59, L60, L61, L63, L64, L72, L97, L99, L100, L122, L160, L161, L200, L255, L999, L1200, L1998, L99999, L100000, L1000005]
      exact ⟨q1, q2⟩
  · rw [ms_off (by omega), ms_off (by omega), ms_off (by omega)]
    exact h3 a j hj
theorem c_split {n : Nat} {b : Nat → Nat} {σ0 : Mem} (h0 : TC n b σ0) (hn : n ≤ 160) (hb : ∀ j, j < n → b j ≤ 255) : ∀ d p k i m σ, p + d = n → k ≤ p → i ≤ p → d < m → skB b n p = pS b n k → (∀ j, j < k → pS b n j < n) → SPL n b σ0 k σ → ∃ T σ', f_X2_splitTape_b9 m σ (ι p) (ι i) = some σ' ∧ T ≤ n ∧ pS b n T = n ∧ (∀ j, j < T → pS b n j < n) ∧ SPL n b σ0 (T + 1) σ' := by
  intro d
  induction d using Nat.strongRecOn with
  | _ d ih =>
  intro p k i m σ hp hk hi hm hs hl hS
  obtain ⟨m, rfl⟩ : ∃ q, m = q + 1 := ⟨m - 1, by omega⟩
  have hT := SPL_TC h0 hS
  by_cases hd : d = 0
  · have e : p = n := by omega
    subst e
    rw [skB_n] at hs
    have ht : tk b p k = 20041 := by unfold tk tC; rw [← hs, if_pos (Nat.le_refl p)]
    have ha := c_addToken (x := -41) (w := ι p) hS.1 (by omega)
    have hA := SPL_add hS (show k < 161 by omega)
    rw [ht, ← hs, show cc 20041 = -41 from rfl] at hA
    refine ⟨k, _, ?_, by omega, hs.symm, hl, hA⟩
    rw [f_X2_splitTape_b9, hT.1, ha]
    by_cases c : 160 ≤ i
    · rw [if_pos (show (160 : Int32) ≤ ι i by rw [L160, le_t (by omega) (by omega)]; trivial), ob_s]
    · rw [if_neg (show ¬ (160 : Int32) ≤ ι i by rw [L160, le_f (by omega) (by omega)]; exact id), if_pos (show ι p ≤ ι p by rw [le_t (by omega) (by omega)]; trivial), ob_s]
  · have hpn : p < n := by omega
    have hbp := hb p hpn
    rw [f_X2_splitTape_b9, if_neg (show ¬ (160 : Int32) ≤ ι i by rw [L160, le_f (by omega) (by omega)]; exact id), hT.1, if_neg (show ¬ ι n ≤ ι p by rw [le_f (by omega) (by omega)]; exact id), c_byteAt hT hn hpn, ob_s, isLetter_c hbp]
    obtain ⟨e1, e2⟩ := tE_b (b := b) hpn
    have nb : ¬ blk (b p) = true → pS b n k = p := fun h => by rw [← hs, skB_e hpn h]
    have go : ∀ σ1, pS b n k = p → SPL n b σ0 (k + 1) σ1 → ∃ T σ', f_X2_splitTape_b9 m σ1 (ι (tE b n p)) (ι (i + 1)) = some σ' ∧ T ≤ n ∧ pS b n T = n ∧ (∀ j, j < T → pS b n j < n) ∧ SPL n b σ0 (T + 1) σ' := by
      intro σ1 hpk h1
      refine ih (n - tE b n p) (by omega) (tE b n p) (k + 1) (i + 1) m σ1 (by omega) (by omega) (by omega) (by omega) ?_ ?_ h1
      · show _ = skB b n (tE b n (pS b n k))
        rw [hpk]
      · intro j hj
        by_cases e : j = k
        · rw [e, hpk]; exact hpn
        · exact hl j (by omega)
    have hadd : ∀ x, pS b n k = p → x = cc (tC b n p) → ∃ σ1, f_X2_addToken σ x (ι p) = some σ1 ∧ SPL n b σ0 (k + 1) σ1 := by
      intro x hpk hx
      refine ⟨_, c_addToken hS.1 (by omega), ?_⟩
      have := SPL_add hS (show k < 161 by omega)
      unfold tk at this
      rw [hpk, ← hx] at this
      exact this
    by_cases c : ltr (b p) = true
    · have hpk := nb (by unfold ltr at c; unfold blk; have := of_decide_eq_true c; intro h; have := of_decide_eq_true h; omega)
      rw [if_pos c, if_neg (show ¬ ι 1 = (0 : Int32) by decide), show f_X2_endOfWord σ (ι p) = some (ι (tE b n p)) by
        unfold f_X2_endOfWord
        rw [L0, c_endW hT hn hb (n - p) p 0 FU (by omega) (by omega) (by unfold FU; omega), tE_ltr hpn c], ob_s, c_word hT hn hb (by omega) e2, ob_s]
      obtain ⟨σ1, q1, q2⟩ := hadd _ hpk (by rw [tC_ltr hpn c])
      rw [q1, ob_s]
      unfold f_X2_splitTape_b114
      rw [L1, ι_add]
      exact go σ1 hpk q2
    · rw [if_neg c, if_pos (show ι 0 = (0 : Int32) from rfl), isDigit_c hbp]
      by_cases g : dgt (b p) = true
      · have hpk := nb (by unfold dgt at g; unfold blk; have := of_decide_eq_true g; intro h; have := of_decide_eq_true h; omega)
        rw [if_pos g, if_neg (show ¬ ι 1 = (0 : Int32) by decide), show f_X2_endOfNumber σ (ι p) = some (ι (tE b n p)) by
          unfold f_X2_endOfNumber
          rw [L0, c_endN hT hn hb (n - p) p 0 FU (by omega) (by omega) (by unfold FU; omega), tE_dgt hpn c g], ob_s, cz_number hT hn hpn c g, ob_s]
        obtain ⟨σ1, q1, q2⟩ := hadd _ hpk rfl
        rw [q1, ob_s]
        unfold f_X2_splitTape_b114
        rw [L1, ι_add]
        exact go σ1 hpk q2
      · rw [if_neg g, if_pos (show ι 0 = (0 : Int32) from rfl), L32, show (10 : Int32) = ι 10 from rfl]
        have blank : blk (b p) = true → ∃ T σ', f_X2_splitTape_b114 (f_X2_splitTape_b9 m) σ (ι i) (ι p + (1 : Int32)) = some σ' ∧ T ≤ n ∧ pS b n T = n ∧ (∀ j, j < T → pS b n j < n) ∧ SPL n b σ0 (T + 1) σ' := by
          intro hbl
          unfold f_X2_splitTape_b114
          rw [L1, ι_add, ι_add]
          exact ih (d - 1) (by omega) (p + 1) k (i + 1) m σ (by omega) (by omega) (by omega) (by omega) (by rw [← hs, skB_s hpn hbl]) hl hS
        by_cases b1 : b p = 32
        · rw [if_pos (show ι (b p) = ι 32 by rw [b1])]
          exact blank (decide_eq_true (Or.inl b1))
        · rw [if_neg (show ¬ ι (b p) = ι 32 by rw [eq_f b1 (by omega) (by omega)]; exact id)]
          by_cases b2 : b p = 10
          · rw [if_pos (show ι (b p) = ι 10 by rw [b2])]
            exact blank (decide_eq_true (Or.inr b2))
          · rw [if_neg (show ¬ ι (b p) = ι 10 by rw [eq_f b2 (by omega) (by omega)]; exact id)]
            have hpk := nb (by unfold blk; intro h; have := of_decide_eq_true h; omega)
            obtain ⟨σ1, q1, q2⟩ := hadd (f_X2_signToken (ι (b p))) hpk (by rw [c_sign hbp, tC_sg hpn c g])
            rw [q1, ob_s]
            unfold f_X2_splitTape_b114
            rw [L1, ι_add, ι_add, show p + 1 = tE b n p from (tE_sg hpn c g).symm]
            exact go σ1 hpk q2
