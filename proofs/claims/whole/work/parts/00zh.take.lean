/-! THE PURE PART: offers -/
def okB (k : Nat) (x : Int32) : Bool := decide (f_X9_in x (ι (1 - k % 2)) (ι (if k % 2 = 0 then 200 else 59)) = ι 1)
def allOk (ce : Nat → Int32) : Nat → Nat → Bool
  | 0, _ => true
  | d + 1, k => okB k (ce k) && allOk ce d (k + 1)
theorem allOk_at {ce : Nat → Int32} : ∀ d k, allOk ce d k = true → ∀ j, k ≤ j → j < k + d → okB j (ce j) = true
  | 0, _, _, _, _, _ => by omega
  | d + 1, k, h, j, h1, h2 => by
    have h : (okB k (ce k) && allOk ce d (k + 1)) = true := h
    rw [Bool.and_eq_true] at h
    by_cases c : j = k
    · rw [c]; exact h.1
    · exact allOk_at d (k + 1) h.2 j (by omega) (by omega)
theorem in_01 (x a b : Int32) : f_X9_in x a b = ι 0 ∨ f_X9_in x a b = ι 1 := bz_X9_in x a b
theorem okB_of {k : Nat} {x : Int32} (h : okB k x = true) : ∃ n, x = ι n ∧ 1 - k % 2 ≤ n ∧ n ≤ if k % 2 = 0 then 200 else 59 := by
  have h := of_decide_eq_true h
  have hb : (if k % 2 = 0 then 200 else 59) < 1000 := by split <;> omega
  rcases arg x with ⟨n, n1, rfl⟩ | ⟨n, n1, n2, n3⟩
  · refine ⟨n, rfl, ?_, ?_⟩
    · by_cases c : 1 - k % 2 ≤ n
      · exact c
      · rw [r_inNo (Or.inr ⟨n, rfl, n1, by omega⟩) (by omega) (by omega)] at h
        exact absurd h (by decide)
    · by_cases c : n ≤ if k % 2 = 0 then 200 else 59
      · exact c
      · rw [r_inNo (Or.inr ⟨n, rfl, n1, by omega⟩) (by omega) (by omega)] at h
        exact absurd h (by decide)
  · rw [r_inNo (Or.inl (by unfold ng; omega)) (by omega) (by omega)] at h
    exact absurd h (by decide)
theorem c_tells {σ : Mem} {s sz : Nat} {ce : Nat → Int32} (h4 : σ (67 + 2 * s) 2 = ι sz) (hsz : sz ≤ 40) (h7 : ∀ j, j < 40 → σ (68 + 2 * s) j = ce j) : f_X4_tellsOffers σ (67 + 2 * s) = some (ι (if sz % 2 = 0 ∧ sz ≤ 12 ∧ allOk ce sz 0 = true then 1 else 0)) := by
  have L : ∀ e i n, i + 2 * e = sz → i % 2 = 0 → e < n → f_X4_tellsOffers_b22 σ (67 + 2 * s) n (ι i) = some (ι (if allOk ce (2 * e) i = true then 1 else 0)) := by
    intro e
    induction e with
    | zero =>
      intro i n hi h2 hn
      obtain ⟨n, rfl⟩ : ∃ k, n = k + 1 := ⟨n - 1, by omega⟩
      rw [f_X4_tellsOffers_b22, h4, if_pos (by rw [le_t (by omega) (by omega)]; trivial)]
      rfl
    | succ e ih =>
      intro i n hi h2 hn
      obtain ⟨n, rfl⟩ : ∃ k, n = k + 1 := ⟨n - 1, by omega⟩
      have ea : allOk ce (2 * (e + 1)) i = (okB i (ce i) && (okB (i + 1) (ce (i + 1)) && allOk ce (2 * e) (i + 2))) := rfl
      rw [ea, f_X4_tellsOffers_b22, h4, if_neg (by rw [le_f (by omega) (by omega)]; exact id), c_number h4 hsz h7 (by omega), ob_s, L1, ι_add, c_number h4 hsz h7 (by omega), ob_s]
      have k0 : okB i (ce i) = decide (f_X9_in (ce i) (ι 1) (ι 200) = ι 1) := by
        unfold okB
        rw [h2, if_pos rfl]
      have k1 : okB (i + 1) (ce (i + 1)) = decide (f_X9_in (ce (i + 1)) (ι 0) (ι 59) = ι 1) := by
        unfold okB
        rw [show (i + 1) % 2 = 1 by omega, if_neg (by decide)]
      rcases arg (ce i) with ⟨a, a1, ea⟩ | ⟨a, a1, a2, a3⟩
      · rw [ea] at k0 ⊢
        by_cases c : 1 ≤ a ∧ a ≤ 200
        · rw [r_in c.1 c.2 (by omega), decide_eq_true rfl] at k0
          rw [k0, Bool.true_and, if_neg (show ¬ ι a < ι 1 by rw [lt_f (by omega) (by omega)]; exact id), show (200 : Int32) = ι 200 from rfl, if_neg (show ¬ ι 200 < ι a by rw [lt_f (by omega) (by omega)]; exact id)]
          rcases arg (ce (i + 1)) with ⟨b, b1, eb⟩ | ⟨b, b1, b2, b3⟩
          · rw [eb] at k1 ⊢
            by_cases c2 : b ≤ 59
            · rw [r_in (by omega) c2 (by omega), decide_eq_true rfl] at k1
              rw [k1, Bool.true_and, L0, if_neg (show ¬ ι b < ι 0 by rw [lt_f (by omega) (by omega)]; exact id), L60, if_pos (show ι b < ι 60 by rw [lt_t (by omega) (by omega)]; trivial), L2, ι_add]
              exact ih (i + 2) n (by omega) (by omega) (by omega)
            · rw [r_inNo (Or.inr ⟨b, rfl, b1, by omega⟩) (by omega) (by omega), decide_eq_false (by decide)] at k1
              rw [k1, Bool.false_and, L0, if_neg (show ¬ ι b < ι 0 by rw [lt_f (by omega) (by omega)]; exact id), L60, if_neg (show ¬ ι b < ι 60 by rw [lt_f (by omega) (by omega)]; exact id)]
              rfl
          · have hg : ng (ce (i + 1)) := by unfold ng; omega
            rw [r_inNo (Or.inl hg) (by omega) (by omega), decide_eq_false (by decide)] at k1
            rw [k1, Bool.false_and, L0, if_pos (show ce (i + 1) < ι 0 by rw [ng_lt hg (by omega)]; trivial)]
            rfl
        · rw [r_inNo (Or.inr ⟨a, rfl, a1, by omega⟩) (by omega) (by omega), decide_eq_false (by decide)] at k0
          rw [k0, Bool.false_and]
          by_cases c3 : a < 1
          · rw [if_pos (show ι a < ι 1 by rw [lt_t (by omega) (by omega)]; trivial)]
            rfl
          · rw [if_neg (show ¬ ι a < ι 1 by rw [lt_f (by omega) (by omega)]; exact id), show (200 : Int32) = ι 200 from rfl, if_pos (show ι 200 < ι a by rw [lt_t (by omega) (by omega)]; trivial)]
            rfl
      · have hg : ng (ce i) := by unfold ng; omega
        rw [r_inNo (Or.inl hg) (by omega) (by omega), decide_eq_false (by decide)] at k0
        rw [k0, Bool.false_and, if_pos (show ce i < ι 1 by rw [ng_lt hg (by omega)]; trivial)]
        rfl
  unfold f_X4_tellsOffers
  rw [h4, L2, ι_irm (by omega) (by omega) (by omega), L0]
  by_cases c1 : sz % 2 = 0
  · rw [if_pos (by rw [c1]), L12]
    by_cases c2 : sz ≤ 12
    · rw [if_pos (by rw [le_t c2 (by omega)]; trivial)]
      have := L (sz / 2) 0 FU (by omega) (by omega) (by unfold FU; omega)
      rw [this, show 2 * (sz / 2) = sz by omega]
      by_cases c3 : allOk ce sz 0 = true
      · rw [if_pos c3, if_pos ⟨c1, c2, c3⟩]
      · rw [if_neg c3, if_neg (fun h => c3 h.2.2)]
    · rw [if_neg (by rw [le_f (by omega) (by omega)]; exact id), if_neg (fun h => c2 h.2.1)]
  · rw [if_neg (by rw [eq_f c1 (by omega) (by omega)]; exact id), if_neg (fun h => c1 h.1)]
theorem r_wrong_l {τ : Mem} {s sz : Nat} {ce : Nat → Int32} (hs : s < 4) (h6 : τ 10 s = ι sz) (hsz : sz ≤ 40) (h8 : ∀ j, j < 40 → τ 11 (40 * s + j) = ce j) : ∀ d k n g, k + d = sz → d < n → g ≤ 1 → f_X9_offersWrong_b55 τ (ι s) n (ι g) (ι k) = some (if g = 1 ∧ allOk ce d k = true then ι 0 else -ι 2) := by
  intro d
  induction d with
  | zero =>
    intro k n g hk hn hg
    obtain ⟨n, rfl⟩ : ∃ k, n = k + 1 := ⟨n - 1, by omega⟩
    rw [f_X9_offersWrong_b55, if_pos (inb_t hs (by omega)), ι_nat (by omega), h6, if_pos (show ι sz ≤ ι k by rw [le_t (by omega) (by omega)]; trivial)]
    by_cases c : g = 1
    · subst c
      rfl
    · have c0 : g = 0 := by omega
      subst c0
      rfl
  | succ d ih =>
    intro k n g hk hn hg
    obtain ⟨n, rfl⟩ : ∃ k, n = k + 1 := ⟨n - 1, by omega⟩
    have ea : allOk ce (d + 1) k = (okB k (ce k) && allOk ce d (k + 1)) := rfl
    have stp : f_X9_offersWrong_b55 τ (ι s) (n + 1) (ι g) (ι k) = f_X9_offersWrong_b55 τ (ι s) n (ι g &&& f_X9_in (ce k) (ι (1 - k % 2)) (ι (if k % 2 = 0 then 200 else 59))) (ι (k + 1)) := by
      rw [f_X9_offersWrong_b55, if_pos (inb_t hs (by omega)), ι_nat (by omega), h6, if_neg (show ¬ ι sz ≤ ι k by rw [le_f (by omega) (by omega)]; exact id), L40, ι_mul, ι_add, if_pos (inb_t (by omega) (by omega)), L2, ι_irm (by omega) (by omega) (by omega), ι_nat (by omega), h8 _ (by omega), L1, ι_sub (by omega) (by omega)]
      unfold f_X9_offersWrong_b96
      by_cases c : k % 2 = 0
      · rw [if_pos (show ι (k % 2) = 0 by rw [c]; rfl), if_pos c, L1, ι_add]
        rfl
      · rw [if_neg (show ¬ ι (k % 2) = 0 by rw [L0, eq_f c (by omega) (by omega)]; exact id), if_neg c, L1, ι_add]
        rfl
    rw [stp, ea]
    have hok : okB k (ce k) = decide (f_X9_in (ce k) (ι (1 - k % 2)) (ι (if k % 2 = 0 then 200 else 59)) = ι 1) := rfl
    rcases in_01 (ce k) (ι (1 - k % 2)) (ι (if k % 2 = 0 then 200 else 59)) with e | e
    · rw [hok, e, decide_eq_false (by decide), Bool.false_and, show ι g &&& ι 0 = ι 0 from Int32.and_zero, ih (k + 1) n 0 (by omega) (by omega) (by omega)]
      rw [if_neg (fun h => absurd h.1 (by decide)), if_neg (fun h => absurd h.2 (by decide))]
    · have eg : ι g &&& ι 1 = ι g := by
        have : g = 0 ∨ g = 1 := by omega
        rcases this with c | c <;> subst c <;> decide
      rw [hok, e, decide_eq_true rfl, Bool.true_and, eg, ih (k + 1) n g (by omega) (by omega) hg]
theorem r_wrong {τ : Mem} {s so sz : Nat} {ce : Nat → Int32} (hs : s < 4) (h5 : τ 9 s = pl so) (hso : 0 < so) (h3 : so ≤ 3) (h6 : τ 10 s = ι sz) (hsz : sz ≤ 40) (h8 : ∀ j, j < 40 → τ 11 (40 * s + j) = ce j) : f_X9_offersWrong τ (ι s) = some (if sz % 2 = 0 ∧ sz ≤ 12 ∧ allOk ce sz 0 = true then ι 0 else -ι 2) := by
  have L := r_wrong_l hs h6 hsz h8 sz 0 FU
  unfold f_X9_offersWrong f_X9_offersWrong_b51 f_X9_offersWrong_b52
  rw [L0, L3, r_in (by omega) (by omega) (by omega), if_neg (by decide), if_pos (inb_t hs (by omega)), ι_nat (by omega), h5, pl_s hso, if_neg (show ¬ (ι (so - 1) = (-1 : Int32)) from of_eq_false (neq_f (b := 1) (by omega) (by omega) (by omega))), if_pos (inb_t hs (by omega)), h6, L12]
  by_cases c2 : 12 < sz
  · rw [if_pos (show ι 12 < ι sz by rw [lt_t (by omega) (by omega)]; trivial), L 0 (by omega) (by unfold FU; omega) (by omega), if_neg (fun h => absurd h.1 (by decide)), if_neg (fun h => by omega)]
  · rw [if_neg (show ¬ ι 12 < ι sz by rw [lt_f (by omega) (by omega)]; exact id), if_pos (inb_t hs (by omega)), L2, ι_irm (by omega) (by omega) (by omega)]
    by_cases c1 : sz % 2 = 0
    · rw [if_pos (show ι (sz % 2) = ι 0 by rw [c1]), L1, L 1 (by omega) (by unfold FU; omega) (by omega)]
      by_cases c3 : allOk ce sz 0 = true
      · rw [if_pos ⟨rfl, c3⟩, if_pos ⟨c1, by omega, c3⟩]
      · rw [if_neg (fun h => c3 h.2), if_neg (fun h => c3 h.2.2)]
    · rw [if_neg (show ¬ ι (sz % 2) = ι 0 by rw [eq_f c1 (by omega) (by omega)]; exact id), L 0 (by omega) (by unfold FU; omega) (by omega), if_neg (fun h => absurd h.1 (by decide)), if_neg (fun h => c1 h.1)]
def ofD (X : XT) (y : Nat) (a : Nat → Nat) (w ow : Nat) (ak tk : Nat → Nat) (z t : Nat) : Nat → Nat → Nat × Bool → Nat × Bool
  | 0, _, s => s
  | d + 1, k, s => ofD X y a w ow ak tk z t d (k + 1) (if bitN z k = 1 ∧ tk k = t then (s.1 - (ak k + sayN X y 1 s.1 (a 3) (a 1) (w + t) ow (a 4)), s.2 && decide (ak k ≤ cntN (a 0) (a 1) s.1)) else s)
def cnD (X : XT) (y : Nat) (a : Nat → Nat) (w ow : Nat) (ak tk : Nat → Nat) (z : Nat) : Nat → Nat → Nat × Bool → Nat × Bool
  | 0, _, s => s
  | d + 1, t, s => cnD X y a w ow ak tk z d (t + 1) (ofD X y a w ow ak tk z t 6 0 (grownN X y (rowB a s.1) (w + t) ow, s.2))
section TK
variable {X : XT} {y : Nat} {a : Nat → Nat} {w ow : Nat} {ak tk : Nat → Nat} {z : Nat}
theorem ofD_false {t : Nat} : ∀ d k b, (ofD X y a w ow ak tk z t d k (b, false)).2 = false := by
  intro d
  induction d with
  | zero => intro k b; rfl
  | succ d ih =>
    intro k b
    show (ofD X y a w ow ak tk z t d (k + 1) (if bitN z k = 1 ∧ tk k = t then (b - (ak k + sayN X y 1 b (a 3) (a 1) (w + t) ow (a 4)), false && decide (ak k ≤ cntN (a 0) (a 1) b)) else (b, false))).2 = false
    split
    · exact ih (k + 1) _
    · exact ih (k + 1) _
theorem cnD_false : ∀ d t b, (cnD X y a w ow ak tk z d t (b, false)).2 = false := by
  intro d
  induction d with
  | zero => intro t b; rfl
  | succ d ih =>
    intro t b
    have h := ofD_false (X := X) (y := y) (a := a) (w := w) (ow := ow) (ak := ak) (tk := tk) (z := z) (t := t) 6 0 (grownN X y (rowB a b) (w + t) ow)
    show (cnD X y a w ow ak tk z d (t + 1) (ofD X y a w ow ak tk z t 6 0 (grownN X y (rowB a b) (w + t) ow, false))).2 = false
    have e : ofD X y a w ow ak tk z t 6 0 (grownN X y (rowB a b) (w + t) ow, false) = ((ofD X y a w ow ak tk z t 6 0 (grownN X y (rowB a b) (w + t) ow, false)).1, false) := Prod.ext rfl h
    rw [e]
    exact ih (t + 1) _
theorem ofD_skip {t : Nat} : ∀ d k s, (∀ j, k ≤ j → j < k + d → ¬ (bitN z j = 1 ∧ tk j = t)) → ofD X y a w ow ak tk z t d k s = s := by
  intro d
  induction d with
  | zero => intro k s _; rfl
  | succ d ih =>
    intro k s h
    show ofD X y a w ow ak tk z t d (k + 1) (if bitN z k = 1 ∧ tk k = t then _ else s) = s
    rw [if_neg (h k (by omega) (by omega))]
    exact ih (k + 1) s (fun j h1 h2 => h j (by omega) (by omega))
theorem ofD_add {t : Nat} : ∀ d e k s, ofD X y a w ow ak tk z t (d + e) k s = ofD X y a w ow ak tk z t e (k + d) (ofD X y a w ow ak tk z t d k s) := by
  intro d
  induction d with
  | zero => intro e k s; rw [Nat.zero_add]; rfl
  | succ d ih =>
    intro e k s
    rw [show d + 1 + e = d + e + 1 by omega]
    show ofD X y a w ow ak tk z t (d + e) (k + 1) _ = _
    rw [ih e (k + 1), show k + 1 + d = k + (d + 1) by omega]
    rfl
theorem ofD_le {t : Nat} : ∀ d k s, s.1 ≤ 999 → (ofD X y a w ow ak tk z t d k s).1 ≤ 999 := by
  intro d
  induction d with
  | zero => intro k s h; exact h
  | succ d ih =>
    intro k s h
    refine ih (k + 1) _ ?_
    split
    · show s.1 - _ ≤ 999
      omega
    · exact h
theorem cnD_none : ∀ d t s, (∀ j, j < 6 → bitN z j = 1 → tk j < t) → (cnD X y a w ow ak tk z d t s).2 = s.2 := by
  intro d
  induction d with
  | zero => intro t s _; rfl
  | succ d ih =>
    intro t s h
    show (cnD X y a w ow ak tk z d (t + 1) (ofD X y a w ow ak tk z t 6 0 (grownN X y (rowB a s.1) (w + t) ow, s.2))).2 = s.2
    rw [ofD_skip 6 0 _ (fun j h1 h2 h3 => by have := h j (by omega) h3.1; omega), ih (t + 1) _ (fun j h1 h2 => by have := h j h1 h2; omega)]
end TK
