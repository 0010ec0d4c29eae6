/-! THE PURE PART: the best order of the day, the class's side -/
/-- a mask of the men that wait and hold P -/
def mkB (z : Nat) (P : Nat → Prop) : Prop := z < 64 ∧ ∀ v, v < 6 → (bitN z v ≠ 0 ↔ P v)
theorem bits_eq : ∀ a, a < 64 → ∀ b, b < 64 → (∀ v, v < 6 → (bitN a v ≠ 0 ↔ bitN b v ≠ 0)) → a = b := by
  decide +kernel
theorem mkB_or {z u : Nat} {P Q : Nat → Prop} (h : mkB z P) (hu : u < 6) (hq : ∀ v, v < 6 → (Q v ↔ P v ∨ v = u)) : mkB (z ||| 2 ^ u) Q := by
  refine ⟨or_lt6 h.1 hu, fun v hv => ?_⟩
  have hz := h.1
  rw [hq v hv, ← h.2 v hv, bit_or8 (by omega) (by omega) (by omega)]
  by_cases c : v = u
  · rw [if_pos c]
    exact ⟨fun _ => Or.inr c, fun _ => by decide⟩
  · rw [if_neg c]
    exact ⟨Or.inl, fun e => e.elim id (fun e => absurd e c)⟩
def frS (σ σ' : Mem) : Prop := ∀ k j, ¬ (k = 77 ∧ (j = 3 ∨ j = 4)) → σ' k j = σ k j
theorem c_leaf {σ : Mem} {rf : Mem → Int32 → Int32 → Int32 → Int32 → Int32 → Option Mem} {m x : Nat} {e om me : Nat → Nat} {b : Nat × Nat} (hb : b.1 < 2147483648) (hc : coD m e om m x < 2147483647) (hx : cuD m m x = m) (h3 : σ 77 3 = pl b.1) (h4 : σ 77 4 = ι b.2) :
    ∃ σ', f_X0_seatNext_b14 rf σ (ι (coD m e om m x)) (ι (dgD m me m x)) = some σ' ∧ σ' 77 3 = pl (stD m e om me b x).1 ∧ σ' 77 4 = ι (stD m e om me b x).2 ∧ frS σ σ' := by
  have fr : frS σ (ms (ms σ 77 3 (ι (coD m e om m x))) 77 4 (ι (dgD m me m x))) := fun k j h => by rw [ms_off (by omega), ms_off (by omega)]
  unfold f_X0_seatNext_b14 stD
  rw [h3]
  by_cases c0 : b.1 = 0
  · rw [if_pos (show cuD m m x = m ∧ (b.1 = 0 ∨ coD m e om m x + 1 < b.1) from ⟨hx, Or.inl c0⟩), pl_0 c0, if_pos (show -ι 1 < (0 : Int32) by decide)]
    exact ⟨_, rfl, by rw [ms_off (by omega), ms_at rfl rfl, pl_s (by omega)]; rfl, by rw [ms_at rfl rfl], fr⟩
  · rw [pl_s (by omega), L0, if_neg (show ¬ ι (b.1 - 1) < ι 0 by rw [lt_f (by omega) (by omega)]; exact id)]
    by_cases c1 : coD m e om m x + 1 < b.1
    · rw [if_pos (show cuD m m x = m ∧ (b.1 = 0 ∨ coD m e om m x + 1 < b.1) from ⟨hx, Or.inr c1⟩), if_neg (show ¬ ι (b.1 - 1) ≤ ι (coD m e om m x) by rw [le_f (by omega) (by omega)]; exact id)]
      exact ⟨_, rfl, by rw [ms_off (by omega), ms_at rfl rfl, pl_s (by omega)]; rfl, by rw [ms_at rfl rfl], fr⟩
    · rw [if_neg (show ¬ (cuD m m x = m ∧ (b.1 = 0 ∨ coD m e om m x + 1 < b.1)) from fun h => h.2.elim c0 c1), if_pos (show ι (b.1 - 1) ≤ ι (coD m e om m x) by rw [le_t (by omega) (by omega)]; trivial)]
      exact ⟨σ, rfl, by rw [h3, pl_s (by omega)], h4, fun _ _ _ => rfl⟩
theorem st_lt {m x : Nat} {e om me : Nat → Nat} {b : Nat × Nat} (hb : b.1 < 2147483648) (hc : coD m e om m x < 2147483647) : (stD m e om me b x).1 < 2147483648 := by
  unfold stD
  split
  · show coD m e om m x + 1 < _
    omega
  · exact hb
theorem fo_lt {m : Nat} {e om me : Nat → Nat} (hc : ∀ x, coD m e om m x < 2147483647) : ∀ n x (b : Nat × Nat), b.1 < 2147483648 → (foD m e om me n x b).1 < 2147483648
  | 0, _, _, h => h
  | n + 1, x, b, h => fo_lt hc n (x + 1) _ (st_lt h (hc x))
/-- the class seats the men: from k seated on -/
theorem c_seat {wt : Nat → Bool} {e om : Nat → Nat} {z m : Nat} (hm : cwN wt 6 = m) (hz : mkB z (fun v => wt v = true)) (hc : ∀ x, coD m (fun f => e (meN wt 6 f)) (fun f => om (meN wt 6 f)) m x < 2147483647) : ∀ j k p n (σ : Mem) (b : Nat × Nat) (u : Nat), k + j = m → j < n → cuD m k p = k → mkB u (fun v => wt v = true ∧ usD m k p (cwN wt v) = true) → b.1 < 2147483648 → σ 77 2 = ι z → σ 77 3 = pl b.1 → σ 77 4 = ι b.2 → (∀ v, v < 6 → wt v = true → σ 78 v = ι (e v) ∧ σ 79 v = ι (om v)) →
    ∃ σ', f_X0_seatNext_F n σ (ι k) (ι u) (ι (tmD m (fun f => e (meN wt 6 f)) k p)) (ι (coD m (fun f => e (meN wt 6 f)) (fun f => om (meN wt 6 f)) k p)) (ι (dgD m (meN wt 6) k p)) = some σ' ∧ σ' 77 3 = pl (foD m (fun f => e (meN wt 6 f)) (fun f => om (meN wt 6 f)) (meN wt 6) (m ^ j) (p * m ^ j) b).1 ∧ σ' 77 4 = ι (foD m (fun f => e (meN wt 6 f)) (fun f => om (meN wt 6 f)) (meN wt 6) (m ^ j) (p * m ^ j) b).2 ∧ frS σ σ' := by
  have m6 : m ≤ 6 := by
    have := (cw_mono (wt := wt) (i := 0) 6).2
    simp only [show cwN wt 0 = 0 from rfl, Nat.zero_add, hm] at this
    exact this
  have slot : ∀ v, v < 6 → wt v = true → cwN wt v < m ∧ meN wt 6 (cwN wt v) = v := by
    intro v hv hw
    have := cw_lt (n := 6) hw hv
    exact ⟨by omega, me_cw hw 6 hv⟩
  intro j
  induction j with
  | zero =>
    intro k p n σ b u hk hn hcu hu hb h2 h3 h4 hv
    obtain ⟨n, rfl⟩ : ∃ q, n = q + 1 := ⟨n - 1, by omega⟩
    have ek : k = m := by omega
    subst ek
    have euz : u = z := by
      refine bits_eq u hu.1 z hz.1 (fun v hv => ?_)
      rw [hu.2 v hv, hz.2 v hv]
      refine ⟨fun h => h.1, fun h => ⟨h, ?_⟩⟩
      exact (sum_full (P := usD k k p) k 0).2.1 hcu _ (by omega) (by have := slot v hv h; omega)
    obtain ⟨σ', g1, g2, g3, g4⟩ := c_leaf (σ := σ) (rf := f_X0_seatNext_F n) (me := meN wt 6) hb (hc p) hcu h3 h4
    refine ⟨σ', ?_, ?_, ?_, g4⟩
    · rw [f_X0_seatNext_F]
      unfold f_X0_seatNext
      rw [h2, euz, if_pos rfl, g1]
    · rw [Nat.pow_zero, Nat.mul_one]; exact g2
    · rw [Nat.pow_zero, Nat.mul_one]; exact g3
  | succ j ih =>
    intro k p n σ b u hk hn hcu hu hb h2 h3 h4 hv
    obtain ⟨n, rfl⟩ : ∃ q, n = q + 1 := ⟨n - 1, by omega⟩
    have euz : u ≠ z := by
      intro h
      have := (sum_full (P := usD m k p) m 0).2.2 (fun f f1 f2 => by
        obtain ⟨q1, q2, q3⟩ := me_ok (wt := wt) (f := f) 6 (by omega)
        have q : wt (meN wt 6 f) = true ∧ usD m k p (cwN wt (meN wt 6 f)) = true := (hu.2 _ q1).1 (by rw [h]; exact (hz.2 _ q1).2 q2)
        rw [q3] at q
        exact q.2)
      unfold cuD at hcu
      omega
    have L : ∀ d v q n' (σ : Mem) (b : Nat × Nat), v + d = 6 → d < n' → cwN wt v + q = m → b.1 < 2147483648 → σ 77 2 = ι z → σ 77 3 = pl b.1 → σ 77 4 = ι b.2 → (∀ v, v < 6 → wt v = true → σ 78 v = ι (e v) ∧ σ 79 v = ι (om v)) →
        ∃ σ', f_X0_seatNext_b46 (f_X0_seatNext_F n) (ι k) (ι u) (ι (tmD m (fun f => e (meN wt 6 f)) k p)) (ι (coD m (fun f => e (meN wt 6 f)) (fun f => om (meN wt 6 f)) k p)) (ι (dgD m (meN wt 6) k p)) n' σ (ι v) = some σ' ∧ σ' 77 3 = pl (foD m (fun f => e (meN wt 6 f)) (fun f => om (meN wt 6 f)) (meN wt 6) (q * m ^ j) ((p * m + cwN wt v) * m ^ j) b).1 ∧ σ' 77 4 = ι (foD m (fun f => e (meN wt 6 f)) (fun f => om (meN wt 6 f)) (meN wt 6) (q * m ^ j) ((p * m + cwN wt v) * m ^ j) b).2 ∧ frS σ σ' := by
      intro d
      induction d with
      | zero =>
        intro v q n' σ b hvd hn' hq hb h2 h3 h4 hv
        obtain ⟨n', rfl⟩ : ∃ q, n' = q + 1 := ⟨n' - 1, by omega⟩
        have ev : v = 6 := by omega
        subst ev
        have q0 : q = 0 := by omega
        subst q0
        refine ⟨σ, ?_, ?_, ?_, fun _ _ _ => rfl⟩
        · rw [f_X0_seatNext_b46, if_pos (show (6 : Int32) ≤ ι 6 from by decide)]
        · rw [Nat.zero_mul]; exact h3
        · rw [Nat.zero_mul]; exact h4
      | succ d ihd =>
        intro v q n' σ b hvd hn' hq hb h2 h3 h4 hv
        obtain ⟨n', rfl⟩ : ∃ q, n' = q + 1 := ⟨n' - 1, by omega⟩
        have z64 := hz.1
        have u64 := hu.1
        have bz := bit_c (s := z) (f := v) (by omega) (by omega)
        have bu := bit_c (s := u) (f := v) (by omega) (by omega)
        have b1 := bitN_le (s := z) (f := v)
        have b2 := bitN_le (s := u) (f := v)
        rw [f_X0_seatNext_b46, L6, if_neg (show ¬ ι 6 ≤ ι v by rw [le_f (by omega) (by omega)]; exact id), if_neg (show ¬ ι 6 ≤ ι v by rw [le_f (by omega) (by omega)]; exact id), h2, L31, L1, bz, bu]
        by_cases w : wt v = true
        · have wz := (hz.2 v (by omega)).2 w
          obtain ⟨s1, s2⟩ := slot v (by omega) w
          obtain ⟨q, rfl⟩ : ∃ r, q = r + 1 := ⟨q - 1, by omega⟩
          have cs := cw_s w
          have esp : (q + 1) * m ^ j = m ^ j + q * m ^ j := by rw [Nat.add_mul, Nat.one_mul, Nat.add_comm]
          have enx : (p * m + cwN wt v) * m ^ j + m ^ j = (p * m + cwN wt (v + 1)) * m ^ j := by rw [cs, ← Nat.add_assoc, Nat.add_mul (p * m + cwN wt v), Nat.one_mul]
          rw [if_neg (show ¬ ι (bitN z v) = 0 by rw [L0, eq_f wz (by omega) (by omega)]; exact id), esp]
          rw [fo_add, enx]
          by_cases c : bitN u v = 0
          · rw [if_pos (show ι (bitN u v) = 0 by rw [c]; rfl), if_pos (inb_t (show v < 6 by omega) (by omega)), if_pos (inb_t (show v < 6 by omega) (by omega)), ι_nat (by omega)]
            have us : usD m k p (cwN wt v) = false := by
              rw [Bool.eq_false_iff]
              intro h
              exact (hu.2 v (by omega)).2 ⟨w, h⟩ c
            have cn := cu_new s1 us
            rw [hcu] at cn
            have e1 : (p * m + cwN wt v) / m = p := by rw [Nat.mul_comm, Nat.mul_add_div (by omega), Nat.div_eq_of_lt s1, Nat.add_zero]
            have e2 : (p * m + cwN wt v) % m = cwN wt v := by rw [Nat.mul_comm, Nat.mul_add_mod, Nat.mod_eq_of_lt s1]
            obtain ⟨v1, v2⟩ := hv v (by omega) w
            have hu' : mkB (u ||| 2 ^ v) (fun v' => wt v' = true ∧ usD m (k + 1) (p * m + cwN wt v) (cwN wt v') = true) := mkB_or hu (by omega) (fun v' hv' => by
              show (wt v' = true ∧ (usD m k ((p * m + cwN wt v) / m) (cwN wt v') || decide (cwN wt v' = (p * m + cwN wt v) % m)) = true) ↔ _
              rw [e1, e2, Bool.or_eq_true, decide_eq_true_eq]
              constructor
              · rintro ⟨a1, a2 | a2⟩
                · exact Or.inl ⟨a1, a2⟩
                · refine Or.inr ?_
                  rw [← (slot v' hv' a1).2, a2, s2]
              · rintro (⟨a1, a2⟩ | a)
                · exact ⟨a1, Or.inl a2⟩
                · rw [a]
                  exact ⟨w, Or.inr rfl⟩)
            obtain ⟨σ1, g1, g2, g3, g4⟩ := ih (k + 1) (p * m + cwN wt v) n σ b (u ||| 2 ^ v) (by omega) (by omega) cn hu' hb h2 h3 h4 hv
            have t1 : tmD m (fun f => e (meN wt 6 f)) (k + 1) (p * m + cwN wt v) = tmD m (fun f => e (meN wt 6 f)) k p + e v := by
              show tmD m (fun f => e (meN wt 6 f)) k ((p * m + cwN wt v) / m) + e (meN wt 6 ((p * m + cwN wt v) % m)) = _
              rw [e1, e2, s2]
            have t2 : coD m (fun f => e (meN wt 6 f)) (fun f => om (meN wt 6 f)) (k + 1) (p * m + cwN wt v) = coD m (fun f => e (meN wt 6 f)) (fun f => om (meN wt 6 f)) k p + tmD m (fun f => e (meN wt 6 f)) k p * om v := by
              show coD m (fun f => e (meN wt 6 f)) (fun f => om (meN wt 6 f)) k ((p * m + cwN wt v) / m) + tmD m (fun f => e (meN wt 6 f)) k ((p * m + cwN wt v) / m) * om (meN wt 6 ((p * m + cwN wt v) % m)) = _
              rw [e1, e2, s2]
            have t3 : dgD m (meN wt 6) (k + 1) (p * m + cwN wt v) = dgD m (meN wt 6) k p * 10 + v + 1 := by
              show dgD m (meN wt 6) k ((p * m + cwN wt v) / m) * 10 + meN wt 6 ((p * m + cwN wt v) % m) + 1 = _
              rw [e1, e2, s2]
            rw [t1, t2, t3] at g1
            have hb' := fo_lt (me := meN wt 6) hc (m ^ j) ((p * m + cwN wt v) * m ^ j) b hb
            obtain ⟨σ', p1, p2, p3, p4⟩ := ihd (v + 1) q n' σ1 _ (by omega) (by omega) (by omega) hb' (by rw [g4 _ _ (by omega)]; exact h2) g2 g3 (fun v' a1 a2 => by rw [g4 _ _ (by omega), g4 _ _ (by omega)]; exact hv v' a1 a2)
            refine ⟨σ', ?_, p2, p3, fun k j a => by rw [p4 k j a, g4 k j a]⟩
            rw [v1, v2, show (10 : Int32) = ι 10 from rfl, show (ι 1 <<< (ι v &&& ι 31)) = ι (2 ^ v) from shl_c (by omega), or_c (by omega) (by omega), ι_add, ι_add, ι_mul, ι_add, ι_mul, ι_add, ι_add, g1, ob_s]
            unfold f_X0_seatNext_b131
            rw [L1, ι_add]
            exact p1
          · rw [if_neg (show ¬ ι (bitN u v) = 0 by rw [L0, eq_f c (by omega) (by omega)]; exact id)]
            have us := ((hu.2 v (by omega)).1 c).2
            have e1 : (p * m + cwN wt v) / m = p := by rw [Nat.mul_comm, Nat.mul_add_div (by omega), Nat.div_eq_of_lt s1, Nat.add_zero]
            have e2 : (p * m + cwN wt v) % m = cwN wt v := by rw [Nat.mul_comm, Nat.mul_add_mod, Nat.mod_eq_of_lt s1]
            have cl : cuD m (k + 1) (p * m + cwN wt v) < k + 1 := by
              have : cuD m (k + 1) (p * m + cwN wt v) = cuD m k p := by
                unfold cuD
                refine sumF_ext m 0 (fun f f1 f2 => ?_)
                show (if (usD m k ((p * m + cwN wt v) / m) f || decide (f = (p * m + cwN wt v) % m)) = true then 1 else 0) = _
                rw [e1, e2]
                by_cases cf : f = cwN wt v
                · rw [cf, us, Bool.true_or]
                · rw [decide_eq_false cf, Bool.or_false]
              omega
            rw [fo_skip (k := k + 1) (by omega) (by omega) cl]
            obtain ⟨σ', p1, p2, p3, p4⟩ := ihd (v + 1) q n' σ b (by omega) (by omega) (by omega) hb h2 h3 h4 hv
            refine ⟨σ', ?_, p2, p3, p4⟩
            unfold f_X0_seatNext_b131
            rw [L1, ι_add]
            exact p1
        · rw [Bool.not_eq_true] at w
          have wz : bitN z v = 0 := by
            by_cases c : bitN z v = 0
            · exact c
            · have : wt v = true := (hz.2 v (by omega)).1 c
              rw [w] at this
              cases this
          rw [if_pos (show ι (bitN z v) = 0 by rw [wz]; rfl)]
          have cs := cw_n w
          rw [← cs]
          obtain ⟨σ', p1, p2, p3, p4⟩ := ihd (v + 1) q n' σ b (by omega) (by omega) (by omega) hb h2 h3 h4 hv
          refine ⟨σ', ?_, p2, p3, p4⟩
          unfold f_X0_seatNext_b131
          rw [L1, ι_add]
          exact p1
    obtain ⟨σ', p1, p2, p3, p4⟩ := L 6 0 m FU σ b (by omega) (by unfold FU; omega) (by show 0 + m = m; omega) hb h2 h3 h4 hv
    have ee : m * m ^ j = m ^ (j + 1) := by rw [Nat.pow_succ, Nat.mul_comm]
    have e3 : (p * m + cwN wt 0) * m ^ j = p * m ^ (j + 1) := by
      rw [show cwN wt 0 = 0 from rfl, Nat.add_zero, Nat.mul_assoc, ee]
    rw [ee, e3] at p2 p3
    refine ⟨σ', ?_, p2, p3, p4⟩
    rw [f_X0_seatNext_F]
    unfold f_X0_seatNext
    rw [h2, if_neg (show ¬ ι u = ι z by have := hu.1; have := hz.1; rw [eq_f euz (by omega) (by omega)]; exact id), L6, if_pos (show ι k < ι 6 by rw [lt_t (by omega) (by omega)]; trivial), L0]
    exact p1
