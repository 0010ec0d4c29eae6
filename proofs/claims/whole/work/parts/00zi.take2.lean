theorem bitN_high {z h k : Nat} (hz : z < 2 ^ h) (hk : h ≤ k) : bitN z k = 0 := by
  unfold bitN
  rw [Nat.div_eq_of_lt (Nat.lt_of_lt_of_le hz (Nat.pow_le_pow_right (by decide) hk))]
/-- the offers that sheet s tells -/
def Off (s sz h : Nat) (ce : Nat → Int32) (ak tk : Nat → Nat) : Prop := s < 4 ∧ sz = 2 * h ∧ h ≤ 6 ∧ (∀ k, k < h → ce (2 * k) = ι (ak k) ∧ 1 ≤ ak k ∧ ak k ≤ 200) ∧ (∀ k, k < h → ce (2 * k + 1) = ι (tk k) ∧ tk k ≤ 59)
theorem c_take_in {T s sz h : Nat} {X : XT} {ce : Nat → Int32} {ak tk : Nat → Nat} (hO : OKX T X) (hF : Off s sz h ce ak tk) {y w ow t z : Nat} {a : Nat → Nat} (hy : y < T) (h1 : OK1 a) (hw : w + t < 100000) (hz : z < 2 ^ h) (s18 : Mem → Int32 → Option (Int32 × Mem)) (v5 : Int32) : ∀ d k n (b : Nat) (σ : Mem), k + d = 6 → d < n → b ≤ 999 → CXT T X σ → MC1 75 (rowB a b) σ → σ 15 6 = ι y → σ (67 + 2 * s) 2 = ι sz → (∀ j, j < 40 → σ (68 + 2 * s) j = ce j) → t < 1000 →
    ((ofD X y a w ow ak tk z t d k (b, true)).2 = true → ∃ σ', f_X8_canTake_b76 s18 (67 + 2 * s) (ι z) (ι ow) v5 (ι t) (ι (w + t)) n σ (ι k) = s18 σ' (ι (t + 1)) ∧ MC1 75 (rowB a (ofD X y a w ow ak tk z t d k (b, true)).1) σ' ∧ frG σ σ') ∧
    ((ofD X y a w ow ak tk z t d k (b, true)).2 = false → ∃ σ', f_X8_canTake_b76 s18 (67 + 2 * s) (ι z) (ι ow) v5 (ι t) (ι (w + t)) n σ (ι k) = some (ι 0, σ') ∧ frG σ σ') := by
  obtain ⟨f1, f2, f3, f4, f5⟩ := hF
  have hz64 : z < 64 := by
    have : 2 ^ h ≤ 64 := (pow_le6 f3).1
    omega
  intro d
  induction d with
  | zero =>
    intro k n b σ hk hn hb hX hm e6 e2 hce ht
    obtain ⟨n, rfl⟩ : ∃ k, n = k + 1 := ⟨n - 1, by omega⟩
    refine ⟨fun _ => ⟨σ, ?_, hm, frG.rfl⟩, fun h => by cases h⟩
    rw [f_X8_canTake_b76, L6, if_pos (show ι 6 ≤ ι k by rw [le_t (by omega) (by omega)]; trivial), L1, ι_add]
  | succ d ih =>
    intro k n b σ hk hn hb hX hm e6 e2 hce ht
    obtain ⟨n, rfl⟩ : ∃ k, n = k + 1 := ⟨n - 1, by omega⟩
    have bl := bitN_le (s := z) (f := k)
    have bc := bit_c (s := z) (f := k) (by omega) (by omega)
    have b31 : ((ι z >>> (ι k &&& 31)) &&& ι 1) = ι (bitN z k) := bc
    by_cases hb1 : bitN z k = 1
    · have hkh : k < h := by
        by_cases c : k < h
        · exact c
        · rw [bitN_high hz (by omega)] at hb1
          exact absurd hb1 (by decide)
      obtain ⟨g1, g2, g3⟩ := f4 k hkh
      obtain ⟨q1, q2⟩ := f5 k hkh
      have n1 := c_number (i := 2 * k + 1) e2 (by omega) hce (by omega)
      have n0 := c_number (i := 2 * k) e2 (by omega) hce (by omega)
      rw [q1] at n1
      rw [g1] at n0
      have pre : f_X8_canTake_b76 s18 (67 + 2 * s) (ι z) (ι ow) v5 (ι t) (ι (w + t)) (n + 1) σ (ι k) = (if ι (tk k) = ι t then (if ι (ak k) ≤ (f_X1_counts σ 75) then (ob2 (f_X3_says σ (σ 15 6) (1 : Int32) 75 (ι (w + t)) (ι ow)) (fun r19 σ20 => (od (f_X1_cut σ20 75 (ι (ak k) + r19)) (fun σ21 : Mem => (f_X8_canTake_b167 s18 (f_X8_canTake_b76 s18 (67 + 2 * s) (ι z) (ι ow) v5 (ι t) (ι (w + t)) n) σ21 (67 + 2 * s) (ι z) (ι ow) v5 (ι t) (ι (w + t)) (ι k)))))) else some ((0 : Int32), σ)) else (f_X8_canTake_b167 s18 (f_X8_canTake_b76 s18 (67 + 2 * s) (ι z) (ι ow) v5 (ι t) (ι (w + t)) n) σ (67 + 2 * s) (ι z) (ι ow) v5 (ι t) (ι (w + t)) (ι k))) := by
        rw [f_X8_canTake_b76, L6, if_neg (show ¬ ι 6 ≤ ι k by rw [le_f (by omega) (by omega)]; exact id), L1, b31, hb1, if_neg (show ¬ ι 1 = (0 : Int32) by decide), L2, ι_mul, ι_add, n1, ob_s, n0, ob_s]
      show ((ofD X y a w ow ak tk z t d (k + 1) (if bitN z k = 1 ∧ tk k = t then (b - (ak k + sayN X y 1 b (a 3) (a 1) (w + t) ow (a 4)), true && decide (ak k ≤ cntN (a 0) (a 1) b)) else (b, true))).2 = true → ∃ σ', _ ∧ MC1 75 (rowB a (ofD X y a w ow ak tk z t d (k + 1) (if bitN z k = 1 ∧ tk k = t then (b - (ak k + sayN X y 1 b (a 3) (a 1) (w + t) ow (a 4)), true && decide (ak k ≤ cntN (a 0) (a 1) b)) else (b, true))).1) σ' ∧ _) ∧ ((ofD X y a w ow ak tk z t d (k + 1) (if bitN z k = 1 ∧ tk k = t then (b - (ak k + sayN X y 1 b (a 3) (a 1) (w + t) ow (a 4)), true && decide (ak k ≤ cntN (a 0) (a 1) b)) else (b, true))).2 = false → _)
      rw [pre]
      by_cases ht2 : tk k = t
      · rw [if_pos (show bitN z k = 1 ∧ tk k = t from ⟨hb1, ht2⟩), if_pos (show ι (tk k) = ι t by rw [ht2])]
        obtain ⟨m0, m1, m2, m3, m4, m5⟩ := id hm
        have hc := c_counts m0 m1 m2 h1.1 h1.2.1 hb
        have hc : f_X1_counts σ 75 = ι (cntN (a 0) (a 1) b) := hc
        have cl := cntN_le (kd := a 0) (m := a 1) hb
        by_cases hcc : ak k ≤ cntN (a 0) (a 1) b
        · obtain ⟨σ1, s1, s2⟩ := c_says hX hO (q := 1) (w := w + t) (ow := ow) hy (by decide) (show 5 ≤ 75 by decide) m1 m2 m3 m4
          have s1 : f_X3_says σ (ι y) (ι 1) 75 (ι (w + t)) (ι ow) = some (ι (sayN X y 1 b (a 3) (a 1) (w + t) ow (a 4)), σ1) := s1
          have sl := sayN_le X y 1 b (a 3) (a 1) (w + t) ow (a 4)
          have n2 : σ1 75 2 = ι b := by rw [s2 _ _ (by decide) (by decide)]; exact m2
          have cut : f_X1_cut σ1 75 (ι (ak k + sayN X y 1 b (a 3) (a 1) (w + t) ow (a 4))) = ms σ1 75 2 (ι (b - (ak k + sayN X y 1 b (a 3) (a 1) (w + t) ow (a 4)))) := by
            unfold f_X1_cut
            rw [od_e, n2]
            congr 1
            by_cases c : ak k + sayN X y 1 b (a 3) (a 1) (w + t) ow (a 4) ≤ b
            · rw [ι_sub c (by omega), L0, max_c (by omega) (by omega), Nat.max_eq_right (Nat.zero_le _)]
            · rw [nsub (by omega) (by omega), show b - (ak k + sayN X y 1 b (a 3) (a 1) (w + t) ow (a 4)) = 0 from Nat.sub_eq_zero_of_le (by omega)]
              unfold f_J9_max_7cf53
              rw [L0, if_neg (show ¬ ι 0 < -ι (ak k + sayN X y 1 b (a 3) (a 1) (w + t) ow (a 4) - b) by rw [nlt_f (by omega) (by omega)]; exact id)]
          have fr1 : frG σ (ms σ1 75 2 (ι (b - (ak k + sayN X y 1 b (a 3) (a 1) (w + t) ow (a 4))))) := fun p j c1 c2 c3 => by rw [ms_off (by omega), s2 p j c1 c2]
          have hm1 : MC1 75 (rowB a (b - (ak k + sayN X y 1 b (a 3) (a 1) (w + t) ow (a 4)))) (ms σ1 75 2 (ι (b - (ak k + sayN X y 1 b (a 3) (a 1) (w + t) ow (a 4))))) := by
            have q := MC1_b (b := b - (ak k + sayN X y 1 b (a 3) (a 1) (w + t) ow (a 4))) (MC1_fr hm (fun j => s2 75 j (by decide) (by decide)))
            exact q
          obtain ⟨i1, i2⟩ := ih (k + 1) n (b - (ak k + sayN X y 1 b (a 3) (a 1) (w + t) ow (a 4))) _ (by omega) (by omega) (by omega) (CXT_sc fr1.sc hX) hm1 (by rw [fr1 _ _ (by omega) (by omega) (by omega)]; exact e6) (by rw [fr1 _ _ (by omega) (by omega) (by omega)]; exact e2) (fun j hj => by rw [fr1 _ _ (by omega) (by omega) (by omega)]; exact hce j hj) ht
          rw [decide_eq_true hcc, Bool.true_and, hc, if_pos (show ι (ak k) ≤ ι (cntN (a 0) (a 1) b) by rw [le_t hcc (by omega)]; trivial), e6, L1, s1, ob2_s, ι_add, cut, od_e]
          unfold f_X8_canTake_b167
          rw [L1, ι_add]
          refine ⟨fun hh => ?_, fun hh => ?_⟩
          · obtain ⟨σ', j1, j2, j3⟩ := i1 hh
            exact ⟨σ', j1, j2, fr1.tr j3⟩
          · obtain ⟨σ', j1, j3⟩ := i2 hh
            exact ⟨σ', j1, fr1.tr j3⟩
        · rw [decide_eq_false hcc, Bool.true_and, hc, if_neg (show ¬ ι (ak k) ≤ ι (cntN (a 0) (a 1) b) by rw [le_f (by omega) (by omega)]; exact id)]
          refine ⟨fun hh => ?_, fun _ => ⟨σ, rfl, frG.rfl⟩⟩
          rw [ofD_false] at hh
          exact absurd hh (by decide)
      · rw [if_neg (show ¬ (bitN z k = 1 ∧ tk k = t) from fun h => ht2 h.2), if_neg (show ¬ ι (tk k) = ι t by rw [eq_f ht2 (by omega) (by omega)]; exact id)]
        unfold f_X8_canTake_b167
        rw [L1, ι_add]
        exact ih (k + 1) n b σ (by omega) (by omega) hb hX hm e6 e2 hce ht
    · have hb0 : bitN z k = 0 := by omega
      show ((ofD X y a w ow ak tk z t d (k + 1) (if bitN z k = 1 ∧ tk k = t then (b - (ak k + sayN X y 1 b (a 3) (a 1) (w + t) ow (a 4)), true && decide (ak k ≤ cntN (a 0) (a 1) b)) else (b, true))).2 = true → ∃ σ', _ ∧ MC1 75 (rowB a (ofD X y a w ow ak tk z t d (k + 1) (if bitN z k = 1 ∧ tk k = t then (b - (ak k + sayN X y 1 b (a 3) (a 1) (w + t) ow (a 4)), true && decide (ak k ≤ cntN (a 0) (a 1) b)) else (b, true))).1) σ' ∧ _) ∧ ((ofD X y a w ow ak tk z t d (k + 1) (if bitN z k = 1 ∧ tk k = t then (b - (ak k + sayN X y 1 b (a 3) (a 1) (w + t) ow (a 4)), true && decide (ak k ≤ cntN (a 0) (a 1) b)) else (b, true))).2 = false → _)
      rw [if_neg (show ¬ (bitN z k = 1 ∧ tk k = t) from fun h => hb1 h.1), f_X8_canTake_b76, L6, if_neg (show ¬ ι 6 ≤ ι k by rw [le_f (by omega) (by omega)]; exact id), L1, b31, hb0, if_pos (show ι 0 = (0 : Int32) from rfl)]
      unfold f_X8_canTake_b167
      rw [L1, ι_add]
      exact ih (k + 1) n b σ (by omega) (by omega) hb hX hm e6 e2 hce ht
def lastN (tk : Nat → Nat) (z : Nat) : Nat → Nat → Nat → Nat
  | 0, _, l => l
  | d + 1, k, l => lastN tk z d (k + 1) (if bitN z k = 1 then max l (tk k) else l)
theorem lastN_ge {tk : Nat → Nat} {z : Nat} : ∀ d k l, l ≤ lastN tk z d k l ∧ ∀ j, k ≤ j → j < k + d → bitN z j = 1 → tk j ≤ lastN tk z d k l := by
  intro d
  induction d with
  | zero => intro k l; exact ⟨Nat.le_refl _, fun j h1 h2 => by omega⟩
  | succ d ih =>
    intro k l
    obtain ⟨i1, i2⟩ := ih (k + 1) (if bitN z k = 1 then max l (tk k) else l)
    show l ≤ lastN tk z d (k + 1) (if bitN z k = 1 then max l (tk k) else l) ∧ ∀ j, k ≤ j → j < k + (d + 1) → bitN z j = 1 → tk j ≤ lastN tk z d (k + 1) (if bitN z k = 1 then max l (tk k) else l)
    refine ⟨?_, fun j h1 h2 h3 => ?_⟩
    · refine Nat.le_trans ?_ i1
      split <;> omega
    · by_cases c : j = k
      · rw [c] at h3 ⊢
        rw [if_pos h3] at i1
        rw [if_pos h3]
        omega
      · exact i2 j (by omega) (by omega) h3
theorem c_last {s sz h z : Nat} {ce : Nat → Int32} {ak tk : Nat → Nat} {σ : Mem} (hF : Off s sz h ce ak tk) (hz : z < 2 ^ h) (e2 : σ (67 + 2 * s) 2 = ι sz) (hce : ∀ j, j < 40 → σ (68 + 2 * s) j = ce j) : f_X4_lastWeekOf σ (67 + 2 * s) (ι z) = some (ι (lastN tk z 6 0 0)) ∧ lastN tk z 6 0 0 ≤ 59 := by
  obtain ⟨f1, f2, f3, f4, f5⟩ := hF
  have hz64 : z < 64 := by
    have : 2 ^ h ≤ 64 := (pow_le6 f3).1
    omega
  have L : ∀ d k n l, k + d = 6 → d < n → l ≤ 59 → f_X4_lastWeekOf_b4 σ (67 + 2 * s) (ι z) n (ι l) (ι k) = some (ι (lastN tk z d k l)) ∧ lastN tk z d k l ≤ 59 := by
    intro d
    induction d with
    | zero =>
      intro k n l hk hn hl
      obtain ⟨n, rfl⟩ : ∃ k, n = k + 1 := ⟨n - 1, by omega⟩
      refine ⟨?_, hl⟩
      rw [f_X4_lastWeekOf_b4, L6, if_pos (show ι 6 ≤ ι k by rw [le_t (by omega) (by omega)]; trivial)]
      rfl
    | succ d ih =>
      intro k n l hk hn hl
      obtain ⟨n, rfl⟩ : ∃ k, n = k + 1 := ⟨n - 1, by omega⟩
      have bl := bitN_le (s := z) (f := k)
      have b31 : ((ι z >>> (ι k &&& 31)) &&& ι 1) = ι (bitN z k) := bit_c (s := z) (f := k) (by omega) (by omega)
      show _ = some (ι (lastN tk z d (k + 1) (if bitN z k = 1 then max l (tk k) else l))) ∧ lastN tk z d (k + 1) (if bitN z k = 1 then max l (tk k) else l) ≤ 59
      rw [f_X4_lastWeekOf_b4, L6, if_neg (show ¬ ι 6 ≤ ι k by rw [le_f (by omega) (by omega)]; exact id), L1, b31]
      unfold f_X4_lastWeekOf_b32
      by_cases hb1 : bitN z k = 1
      · have hkh : k < h := by
          by_cases c : k < h
          · exact c
          · rw [bitN_high hz (by omega)] at hb1
            exact absurd hb1 (by decide)
        obtain ⟨q1, q2⟩ := f5 k hkh
        have n1 := c_number (i := 2 * k + 1) e2 (by omega) hce (by omega)
        rw [q1] at n1
        rw [if_pos hb1, hb1, if_neg (show ¬ ι 1 = (0 : Int32) by decide), L2, ι_mul, ι_add, n1, ob_s, max_c (by omega) (by omega), L1, ι_add]
        exact ih (k + 1) n _ (by omega) (by omega) (by omega)
      · have hb0 : bitN z k = 0 := by omega
        rw [if_neg hb1, hb0, if_pos (show ι 0 = (0 : Int32) from rfl), L1, ι_add]
        exact ih (k + 1) n _ (by omega) (by omega) hl
  unfold f_X4_lastWeekOf
  rw [L0]
  exact L 6 0 FU 0 (by omega) (by unfold FU; omega) (by omega)
theorem c_take_out {T s sz h : Nat} {X : XT} {ce : Nat → Int32} {ak tk : Nat → Nat} (hO : OKX T X) (hF : Off s sz h ce ak tk) {y w ow z last : Nat} {a : Nat → Nat} (hy : y < T) (h1 : OK1 a) (hw : w < 10000) (hz : z < 2 ^ h) (hl : ∀ j, j < 6 → bitN z j = 1 → tk j ≤ last) (hl9 : last ≤ 59) : ∀ d t n (b : Nat) (σ : Mem), t + d = 60 → d < n → b ≤ 999 → CXT T X σ → MC1 75 (rowB a b) σ → σ 15 5 = ι w → σ 15 6 = ι y → σ (67 + 2 * s) 2 = ι sz → (∀ j, j < 40 → σ (68 + 2 * s) j = ce j) →
    ∃ σ', f_X8_canTake_b18 (67 + 2 * s) (ι z) (ι ow) (ι last) n σ (ι t) = some (ι (if (cnD X y a w ow ak tk z d t (b, true)).2 = true then 1 else 0), σ') ∧ frG σ σ' := by
  have f1 := hF.1
  intro d
  induction d with
  | zero =>
    intro t n b σ ht hn hb hX hm e5 e6 e2 hce
    obtain ⟨n, rfl⟩ : ∃ k, n = k + 1 := ⟨n - 1, by omega⟩
    refine ⟨σ, ?_, frG.rfl⟩
    rw [f_X8_canTake_b18, if_pos (show ι last < ι t by rw [lt_t (by omega) (by omega)]; trivial)]
    rfl
  | succ d ih =>
    intro t n b σ ht hn hb hX hm e5 e6 e2 hce
    obtain ⟨n, rfl⟩ : ∃ k, n = k + 1 := ⟨n - 1, by omega⟩
    by_cases hlt : last < t
    · refine ⟨σ, ?_, frG.rfl⟩
      rw [f_X8_canTake_b18, if_pos (show ι last < ι t by rw [lt_t (by omega) (by omega)]; trivial), cnD_none (d + 1) t (b, true) (fun j h1 h2 => by have := hl j h1 h2; omega), if_pos rfl]
      rfl
    · obtain ⟨σ1, g1, g2⟩ := c_grown hX hO (w := w + t) (ow := ow) hy (show 5 ≤ 75 by decide) hm (OK1_b h1 hb) (by omega)
      have gb : grownN X y (rowB a b) (w + t) ow ≤ 999 := grownN_le hb
      have fr1 : frG σ (ms σ1 75 2 (ι (grownN X y (rowB a b) (w + t) ow))) := fun p j c1 c2 c3 => by rw [ms_off (by omega), g2 p j c1 c2]
      have hm1 : MC1 75 (rowB a (grownN X y (rowB a b) (w + t) ow)) (ms σ1 75 2 (ι (grownN X y (rowB a b) (w + t) ow))) := by
        have q := MC1_b (b := grownN X y (rowB a b) (w + t) ow) (MC1_fr hm (fun j => g2 75 j (by decide) (by decide)))
        exact q
      obtain ⟨i1, i2⟩ := c_take_in (ow := ow) (w := w) (t := t) hO hF hy h1 (by omega) hz (f_X8_canTake_b18 (67 + 2 * s) (ι z) (ι ow) (ι last) n) (ι last) 6 0 FU _ _ (by omega) (by unfold FU; omega) gb (CXT_sc fr1.sc hX) hm1 (by rw [fr1 _ _ (by omega) (by omega) (by omega)]; exact e6) (by rw [fr1 _ _ (by omega) (by omega) (by omega)]; exact e2) (fun j hj => by rw [fr1 _ _ (by omega) (by omega) (by omega)]; exact hce j hj) (by omega)
      have pre : f_X8_canTake_b18 (67 + 2 * s) (ι z) (ι ow) (ι last) (n + 1) σ (ι t) = f_X8_canTake_b76 (f_X8_canTake_b18 (67 + 2 * s) (ι z) (ι ow) (ι last) n) (67 + 2 * s) (ι z) (ι ow) (ι last) (ι t) (ι (w + t)) FU (ms σ1 75 2 (ι (grownN X y (rowB a b) (w + t) ow))) (ι 0) := by
        rw [f_X8_canTake_b18, if_neg (show ¬ ι last < ι t by rw [lt_f (by omega) (by omega)]; exact id), L60, if_neg (show ¬ ι 60 ≤ ι t by rw [le_f (by omega) (by omega)]; exact id), e5, e6, ι_add, g1, ob2_s, L0]
      rw [pre]
      show ∃ σ', _ = some (ι (if (cnD X y a w ow ak tk z d (t + 1) (ofD X y a w ow ak tk z t 6 0 (grownN X y (rowB a b) (w + t) ow, true))).2 = true then 1 else 0), σ') ∧ _
      cases hr : (ofD X y a w ow ak tk z t 6 0 (grownN X y (rowB a b) (w + t) ow, true)).2 with
      | true =>
        obtain ⟨σ2, j1, j2, j3⟩ := i1 hr
        have er : ofD X y a w ow ak tk z t 6 0 (grownN X y (rowB a b) (w + t) ow, true) = ((ofD X y a w ow ak tk z t 6 0 (grownN X y (rowB a b) (w + t) ow, true)).1, true) := Prod.ext rfl hr
        have fr2 := fr1.tr j3
        obtain ⟨σ', k1, k2⟩ := ih (t + 1) n _ σ2 (by omega) (by omega) (ofD_le 6 0 _ gb) (CXT_sc fr2.sc hX) j2 (by rw [fr2 _ _ (by omega) (by omega) (by omega)]; exact e5) (by rw [fr2 _ _ (by omega) (by omega) (by omega)]; exact e6) (by rw [fr2 _ _ (by omega) (by omega) (by omega)]; exact e2) (fun j hj => by rw [fr2 _ _ (by omega) (by omega) (by omega)]; exact hce j hj)
        rw [er]
        exact ⟨σ', j1.trans k1, fr2.tr k2⟩
      | false =>
        obtain ⟨σ2, j1, j3⟩ := i2 hr
        have er : ofD X y a w ow ak tk z t 6 0 (grownN X y (rowB a b) (w + t) ow, true) = ((ofD X y a w ow ak tk z t 6 0 (grownN X y (rowB a b) (w + t) ow, true)).1, false) := Prod.ext rfl hr
        rw [er, cnD_false]
        exact ⟨σ2, j1, fr1.tr j3⟩
theorem r_take_in {T M V s sz h i : Nat} {X : XT} {A B : TB2} {ce : Nat → Int32} {ak tk : Nat → Nat} (hOX : OKX T X) (hOA : OKA M A) (hOB : OKB M V B) (hM : M ≤ 6) (h8 : V ≤ 8) (hF : Off s sz h ce ak tk) {y w t z : Nat} (hy : y < T) (hi : i < M) (hw : w + t < 100000) (hz : z < 2 ^ h) (s10 : Mem → Int32 → Int32 → Option (Int32 × Mem)) : ∀ d k n (b : Nat) (ok : Bool) (τ : Mem), k + d = h → d < n → b ≤ 999 → FXT T X τ → FT M V (w + t) y (up A i 2 b) B τ → τ 10 s = ι sz → (∀ j, j < 40 → τ 11 (40 * s + j) = ce j) → t < 1000 →
    ∃ τ', f_X9_canTake_b25 s10 (ι s) (ι i) (ι z) (ι t) n τ (ι (if ok = true then 1 else 0)) (ι k) = s10 (ms τ' 0 6 (ι (w + t + 1))) (ι (if (ofD X y (A i) w (owedN V B i) ak tk z t d k (b, ok)).2 = true then 1 else 0)) (ι (t + 1)) ∧ FT M V (w + t) y (up A i 2 (ofD X y (A i) w (owedN V B i) ak tk z t d k (b, ok)).1) B τ' ∧ frF τ τ' := by
  obtain ⟨f1, f2, f3, f4, f5⟩ := hF
  have hz64 : z < 64 := by
    have : 2 ^ h ≤ 64 := (pow_le6 f3).1
    omega
  obtain ⟨p0, p1, p2, p3, p4, p5⟩ := hOA i hi
  intro d
  induction d with
  | zero =>
    intro k n b ok τ hk hn hb hX hF h10 hce ht
    obtain ⟨n, rfl⟩ : ∃ k, n = k + 1 := ⟨n - 1, by omega⟩
    refine ⟨τ, ?_, hF, frF.rfl⟩
    rw [f_X9_canTake_b25, if_pos (inb_t f1 (by omega)), ι_nat (by omega), h10, L2, ι_div (by omega) (by omega) (by omega), if_pos (show ι (sz / 2) ≤ ι k by rw [le_t (by omega) (by omega)]; trivial), hF.2.2.1, L1, ι_add, ι_add]
    rfl
  | succ d ih =>
    intro k n b ok τ hk hn hb hX hF h10 hce ht
    obtain ⟨n, rfl⟩ : ∃ k, n = k + 1 := ⟨n - 1, by omega⟩
    have hkh : k < h := by omega
    obtain ⟨g1, g2, g3⟩ := f4 k hkh
    obtain ⟨q1, q2⟩ := f5 k hkh
    have bl := bitN_le (s := z) (f := k)
    have b31 : ((ι z >>> (ι k &&& 31)) &&& ι 1) = ι (bitN z k) := bit_c (s := z) (f := k) (by omega) (by omega)
    have c1' := hce (2 * k + 1) (by omega)
    have c0' := hce (2 * k) (by omega)
    rw [q1] at c1'
    rw [g1] at c0'
    have pre : f_X9_canTake_b25 s10 (ι s) (ι i) (ι z) (ι t) (n + 1) τ (ι (if ok = true then 1 else 0)) (ι k) = if bitN z k = 1 ∧ tk k = t then (ob (f_X9_countsOf τ (ι i) (τ 3 (4 * i))) (fun r16 => (if r16 < ι (ak k) then (f_X9_canTake_b103 s10 (f_X9_canTake_b25 s10 (ι s) (ι i) (ι z) (ι t) n) τ (ι s) (ι i) (ι z) (ι t) (ι k) (ι (40 * s + 2 * k)) (ι (if ok = true then 1 else 0)) (0 : Int32)) else (f_X9_canTake_b103 s10 (f_X9_canTake_b25 s10 (ι s) (ι i) (ι z) (ι t) n) τ (ι s) (ι i) (ι z) (ι t) (ι k) (ι (40 * s + 2 * k)) (ι (if ok = true then 1 else 0)) (1 : Int32))))) else f_X9_canTake_b25 s10 (ι s) (ι i) (ι z) (ι t) n τ (ι (if ok = true then 1 else 0)) (ι (k + 1)) := by
      rw [f_X9_canTake_b25, if_pos (inb_t f1 (by omega)), ι_nat (by omega), h10, L2, ι_div (by omega) (by omega) (by omega), if_neg (show ¬ ι (sz / 2) ≤ ι k by rw [le_f (by omega) (by omega)]; exact id), od_e, L40, ι_mul, ι_mul, ι_add, L1, b31]
      unfold f_X9_canTake_b154
      by_cases hb1 : bitN z k = 1
      · rw [if_pos (show ι (bitN z k) = ι 1 by rw [hb1]), ι_add, if_pos (inb_t (by omega) (by omega)), ι_nat (by omega), show 40 * s + 2 * k + 1 = 40 * s + (2 * k + 1) by omega, c1']
        by_cases ht2 : tk k = t
        · rw [if_pos (show ι (tk k) = ι t by rw [ht2]), if_pos (show bitN z k = 1 ∧ tk k = t from ⟨hb1, ht2⟩), L4, ι_mul, if_pos (inb_t (by omega) (by omega)), ι_nat (by omega), ι_nat (by omega), c0']
          simp (disch := omega) only [inb_t, if_true]
        · rw [if_neg (show ¬ ι (tk k) = ι t by rw [eq_f ht2 (by omega) (by omega)]; exact id), if_neg (show ¬ (bitN z k = 1 ∧ tk k = t) from fun h => ht2 h.2), L1, ι_add]
      · rw [if_neg (show ¬ ι (bitN z k) = ι 1 by rw [eq_f hb1 (by omega) (by omega)]; exact id), if_neg (show ¬ (bitN z k = 1 ∧ tk k = t) from fun h => hb1 h.1), L1, ι_add]
    have e1 : ofD X y (A i) w (owedN V B i) ak tk z t (d + 1) k (b, ok) = ofD X y (A i) w (owedN V B i) ak tk z t d (k + 1) (if bitN z k = 1 ∧ tk k = t then (b - (ak k + sayN X y 1 b (A i 3) (A i 1) (w + t) (owedN V B i) (A i 4)), ok && decide (ak k ≤ cntN (A i 0) (A i 1) b)) else (b, ok)) := rfl
    rw [pre, e1]
    by_cases hc : bitN z k = 1 ∧ tk k = t
    · rw [if_pos hc, if_pos hc]
      obtain ⟨b1, b2, b3, b4, b5, b6⟩ := id hF
      have m0 := fa_0 b5 hi
      have m1 := fa_1 b5 hi
      have m2 := fa_2 b5 hi
      rw [up_off (by omega)] at m0 m1
      rw [up_at rfl rfl] at m2
      have cc := r_counts (b := b) m0 m1 (show i < 6 by omega) p0 p1 hb
      have cl := cntN_le (kd := A i 0) (m := A i 1) hb
      obtain ⟨τ1, t1, t2⟩ := r_asks hX hOX b2 b4 b5 b6 hOB hM h8 (q := 1) (w := w + t) hy (by decide) hi
      rw [up_at rfl rfl, up_off (by omega), up_off (by omega), up_off (by omega)] at t1
      have sl := sayN_le X y 1 b (A i 3) (A i 1) (w + t) (owedN V B i) (A i 4)
      let nb := b - (ak k + sayN X y 1 b (A i 3) (A i 1) (w + t) (owedN V B i) (A i 4))
      have fr1 : frF τ (ms τ1 3 (4 * i) (ι nb)) := fun p j c1 c2 c3 c4 c5 => by rw [ms_off (by omega), t2 p j c3 c4]
      have hF1 : FT M V (w + t) y (up A i 2 nb) B (ms τ1 3 (4 * i) (ι nb)) := by
        refine ⟨?_, ?_, ?_, ?_, ?_, ?_⟩
        · rw [ms_off (by omega), t2 _ _ (by omega) (by omega)]; exact b1
        · rw [ms_off (by omega), t2 _ _ (by omega) (by omega)]; exact b2
        · rw [ms_off (by omega), t2 _ _ (by omega) (by omega)]; exact b3
        · rw [ms_off (by omega), t2 _ _ (by omega) (by omega)]; exact b4
        · have := FA_up (i := i) (j := 0) (x := nb) (FA_fr b5 (fun k j q1 q2 => t2 k j (by omega) (by omega))) (by decide)
          rw [show up (up A i 2 b) i (0 + 2) nb = up A i 2 nb from up_up] at this
          exact this
        · exact FB_fr b6 (fun j => by rw [ms_off (by omega), t2 _ _ (by omega) (by omega)])
      have go : ∀ v : Nat, v ≤ 1 → f_X9_canTake_b103 s10 (f_X9_canTake_b25 s10 (ι s) (ι i) (ι z) (ι t) n) τ (ι s) (ι i) (ι z) (ι t) (ι k) (ι (40 * s + 2 * k)) (ι (if ok = true then 1 else 0)) (ι v) = f_X9_canTake_b25 s10 (ι s) (ι i) (ι z) (ι t) n (ms τ1 3 (4 * i) (ι nb)) (ι (if (ok && decide (v = 1)) = true then 1 else 0)) (ι (k + 1)) := by
        intro v hv
        have hand : ι (if ok = true then 1 else 0) &&& ι v = ι (if (ok && decide (v = 1)) = true then 1 else 0) := by
          have : v = 0 ∨ v = 1 := by omega
          rcases this with c | c <;> subst c <;> cases ok <;> decide
        unfold f_X9_canTake_b103 f_X9_canTake_b153 f_X9_canTake_b154
        rw [L4, ι_mul, if_pos (inb_t (by omega) (by omega)), if_pos (inb_t (by omega) (by omega)), ι_nat (by omega), ι_nat (by omega), b3, L1, t1, ob2_s, od_e, hand, m2, c0', if_pos (inb_t (by omega) (by omega)), if_pos (inb_t (by omega) (by omega)), ι_add, L0]
        by_cases c : ak k + sayN X y 1 b (A i 3) (A i 1) (w + t) (owedN V B i) (A i 4) ≤ b
        · rw [ι_sub (by omega) (by omega), ι_sub (by omega) (by omega), if_pos (show ι 0 ≤ ι (b - ak k - sayN X y 1 b (A i 3) (A i 1) (w + t) (owedN V B i) (A i 4)) by rw [le_t (by omega) (by omega)]; trivial), Nat.sub_sub]
        · have enb : nb = 0 := Nat.sub_eq_zero_of_le (by omega)
          have hneg : ¬ ι 0 ≤ ι b - ι (ak k) - ι (sayN X y 1 b (A i 3) (A i 1) (w + t) (owedN V B i) (A i 4)) := by
            rw [Int32.le_iff_toInt_le, Int32.toInt_sub, Int32.toInt_sub, ι_int (by omega), ι_int (by omega), ι_int (by omega), ι_int (by omega)]
            have e9 : ((b : Int) - (ak k : Int)).bmod (2 ^ 32) = (b : Int) - (ak k : Int) := by
              rw [Int.bmod_def]
              split <;> omega
            rw [e9, Int.bmod_def]
            split <;> omega
          rw [if_neg hneg, enb]
      rw [m2, cc, ob_s]
      have nb9 : nb ≤ 999 := by
        show b - _ ≤ 999
        omega
      have fin := ih (k + 1) n nb (ok && decide (ak k ≤ cntN (A i 0) (A i 1) b)) (ms τ1 3 (4 * i) (ι nb)) (by omega) (by omega) nb9 (FXT_F hX fr1) hF1 (by rw [fr1 _ _ (by omega) (by omega) (by omega) (by omega) (by omega)]; exact h10) (fun j hj => by rw [fr1 _ _ (by omega) (by omega) (by omega) (by omega) (by omega)]; exact hce j hj) ht
      obtain ⟨τ', w1, w2, w3⟩ := fin
      refine ⟨τ', ?_, w2, fr1.tr w3⟩
      by_cases hcc : ak k ≤ cntN (A i 0) (A i 1) b
      · rw [if_neg (show ¬ ι (cntN (A i 0) (A i 1) b) < ι (ak k) by rw [lt_f hcc (by omega)]; exact id), L1, go 1 (by omega)]
        rw [decide_eq_true hcc] at w1 ⊢
        exact w1
      · rw [if_pos (show ι (cntN (A i 0) (A i 1) b) < ι (ak k) by rw [lt_t (by omega) (by omega)]; trivial), L0, go 0 (by omega)]
        rw [decide_eq_false hcc] at w1 ⊢
        exact w1
    · rw [if_neg hc, if_neg hc]
      exact ih (k + 1) n b ok τ (by omega) (by omega) hb hX hF h10 hce ht
