/-! THE PURE PART: the best order of the day -/
def wtN (M : Nat) (A : TB2) (v : Nat) : Bool := decide (v < M ∧ A v 5 = 0)
def exN (X : XT) (V y w : Nat) (A B : TB2) (i : Nat) : Nat := sayN X y 1 (A i 2) (A i 3) (A i 1) w (owedN V B i) (A i 4) + 1
def omN (M q : Nat) (A : TB2) (i : Nat) : Nat := if q = 0 then 1 else if i < M then A i 4 else 0
theorem ex_le {X : XT} {V y w : Nat} {A B : TB2} (i : Nat) : exN X V y w A B i ≤ 100 := by
  have := sayN_le X y 1 (A i 2) (A i 3) (A i 1) w (owedN V B i) (A i 4)
  unfold exN
  omega
theorem om_le {M q : Nat} {A : TB2} (hA : OKA M A) (i : Nat) : omN M q A i ≤ 9 := by
  unfold omN
  by_cases c : i < M
  · have := (hA i c).2.2.2.2.1
    rw [if_pos c]
    split <;> omega
  · rw [if_neg c]
    split <;> omega
theorem r_day_l {T M V w y q s m N : Nat} {X : XT} {A B : TB2} {me : Nat → Nat} (hOX : OKX T X) (hA : OKA M A) (hOB : OKB M V B) (hM : M ≤ 6) (hV : V ≤ 8) (hy : y < T) (hm : m ≤ 6) (hme : ∀ f, f < m → me f < M) (hq : q ≤ 1) (hs : s ≤ 1) (hN : N < 100000) : ∀ d x n (τ : Mem) (b : Nat × Nat), x + d = N → d < n → b.1 < 2147483648 → FXT T X τ → FT M V w y A B τ → τ 0 46 = ι m → (∀ f, f < m → τ 20 f = ι (me f)) →
    ∃ τ', f_X9_day_b115 (ι q) (ι s) (ι N) n τ (pl b.1) (ι b.2) (ι x) = some (if s = 0 then pl (foD m (fun f => exN X V y w A B (me f)) (fun f => omN M q A (me f)) me d x b).1 else ι (foD m (fun f => exN X V y w A B (me f)) (fun f => omN M q A (me f)) me d x b).2, τ') ∧ eqR τ τ' := by
  have hc : ∀ x, coD m (fun f => exN X V y w A B (me f)) (fun f => omN M q A (me f)) m x ≤ 32400 := fun x => by
    have := co_le (m := m) (e := fun f => exN X V y w A B (me f)) (om := fun f => omN M q A (me f)) (fun f => ex_le (me f)) (fun f => om_le hA (me f)) m x hm
    omega
  intro d
  induction d with
  | zero =>
    intro x n τ b hx hn hb hX hF h46 h20
    obtain ⟨n, rfl⟩ : ∃ q, n = q + 1 := ⟨n - 1, by omega⟩
    have ex : x = N := by omega
    subst ex
    refine ⟨τ, ?_, eqR.rfl⟩
    rw [f_X9_day_b115, if_pos (show ι x ≤ ι x by rw [le_t (by omega) (by omega)]; trivial)]
    by_cases c : s = 0
    · rw [if_pos (show ι s = 0 by rw [c]; rfl), if_pos c]
      rfl
    · rw [if_neg (show ¬ ι s = 0 by rw [L0, eq_f c (by omega) (by omega)]; exact id), if_neg c]
      rfl
  | succ d ih =>
    intro x n τ b hx hn hb hX hF h46 h20
    obtain ⟨n, rfl⟩ : ∃ q, n = q + 1 := ⟨n - 1, by omega⟩
    obtain ⟨τ1, g1, g2, g3⟩ := r_tellsX (x := x) hm (by omega) h46
    have f1 : eqR τ τ1 := fun k j h => g3 k j (by unfold sR at h; omega)
    show ∃ τ', _ = some (if s = 0 then pl (foD m (fun f => exN X V y w A B (me f)) (fun f => omN M q A (me f)) me d (x + 1) (stD m (fun f => exN X V y w A B (me f)) (fun f => omN M q A (me f)) me b x)).1 else ι (foD m (fun f => exN X V y w A B (me f)) (fun f => omN M q A (me f)) me d (x + 1) (stD m (fun f => exN X V y w A B (me f)) (fun f => omN M q A (me f)) me b x)).2, τ') ∧ _
    rw [f_X9_day_b115, if_neg (show ¬ ι N ≤ ι x by rw [le_f (by omega) (by omega)]; exact id), g1, ob2_s]
    by_cases c : cuD m m x = m
    · rw [if_pos c, if_neg (show ¬ ι 1 = (0 : Int32) by decide)]
      obtain ⟨τ2, w1, w2⟩ := r_waits (x := x) (e := exN X V y w A B) (om := omN M q A) hOX hOB hM hV hy hm hme (fun i hi => rfl) hq (fun i hi => by unfold omN; rw [if_pos hi]) m 0 FU τ1 (by omega) (by unfold FU; omega) (FXT_sc f1 hX) (FT_sc hM hV f1 hF) (by rw [g3 _ _ (by omega)]; exact h46) g2 (fun f hf => by rw [g3 _ _ (by omega)]; exact h20 f hf)
      have w1 : f_X9_waits τ1 (ι q) = some (ι (coD m (fun f => exN X V y w A B (me f)) (fun f => omN M q A (me f)) m x), τ2) := w1
      have f2 : eqR τ1 τ2 := fun k j h => w2 k j (by unfold sR at h; omega) (by unfold sR at h; omega)
      have dg := r_digits (τ := τ2) (x := x) (me := me) hm (by rw [w2 _ _ (by omega) (by omega), g3 _ _ (by omega)]; exact h46) (fun i hi => by rw [w2 _ _ (by omega) (by omega)]; exact g2 i hi) (fun f hf => by rw [w2 _ _ (by omega) (by omega), g3 _ _ (by omega)]; exact h20 f hf) m 0 FU (by omega) (by unfold FU; omega)
      have dg : f_X9_digitsNow τ2 = some (ι (dgD m me m x)) := dg
      have hx := hc x
      have st := st_lt (e := fun f => exN X V y w A B (me f)) (om := fun f => omN M q A (me f)) (me := me) (m := m) (x := x) hb (by omega)
      obtain ⟨τ', p1, p2⟩ := ih (x + 1) n τ2 (stD m (fun f => exN X V y w A B (me f)) (fun f => omN M q A (me f)) me b x) (by omega) (by omega) st (FXT_sc (f1.tr f2) hX) (FT_sc hM hV (f1.tr f2) hF) (by rw [w2 _ _ (by omega) (by omega), g3 _ _ (by omega)]; exact h46) (fun f hf => by rw [w2 _ _ (by omega) (by omega), g3 _ _ (by omega)]; exact h20 f hf)
      refine ⟨τ', ?_, (f1.tr f2).tr p2⟩
      rw [← p1, w1, ob2_s]
      unfold stD
      by_cases c0 : b.1 = 0
      · rw [if_pos (show cuD m m x = m ∧ (b.1 = 0 ∨ coD m (fun f => exN X V y w A B (me f)) (fun f => omN M q A (me f)) m x + 1 < b.1) from ⟨c, Or.inl c0⟩), pl_0 c0, if_pos (show (-ι 1 : Int32) = -1 from rfl)]
        unfold f_X9_day_b150 f_X9_day_b155
        rw [if_neg (show ¬ (1 : Int32) = 0 by decide)]
        unfold f_X9_day_b169
        rw [if_neg (show ¬ (1 : Int32) = 0 by decide), dg, ob_s]
        unfold f_X9_day_b185 f_X9_day_b187
        rw [L1, ι_add, pl_s (by omega), Nat.add_sub_cancel]
      · by_cases c1 : coD m (fun f => exN X V y w A B (me f)) (fun f => omN M q A (me f)) m x + 1 < b.1
        · rw [if_pos (show cuD m m x = m ∧ (b.1 = 0 ∨ coD m (fun f => exN X V y w A B (me f)) (fun f => omN M q A (me f)) m x + 1 < b.1) from ⟨c, Or.inr c1⟩), pl_s (show 0 < b.1 by omega), if_neg (show ¬ (ι (b.1 - 1) = (-1 : Int32)) from of_eq_false (neq_f (b := 1) (by omega) (by omega) (by omega))), if_neg (show ¬ ι (b.1 - 1) ≤ ι (coD m (fun f => exN X V y w A B (me f)) (fun f => omN M q A (me f)) m x) by rw [le_f (by omega) (by omega)]; exact id)]
          unfold f_X9_day_b150 f_X9_day_b155
          rw [if_neg (show ¬ (1 : Int32) = 0 by decide)]
          unfold f_X9_day_b169
          rw [if_neg (show ¬ (1 : Int32) = 0 by decide), dg, ob_s]
          unfold f_X9_day_b185 f_X9_day_b187
          rw [L1, ι_add, pl_s (by omega), Nat.add_sub_cancel]
        · rw [if_neg (show ¬ (cuD m m x = m ∧ (b.1 = 0 ∨ coD m (fun f => exN X V y w A B (me f)) (fun f => omN M q A (me f)) m x + 1 < b.1)) from fun h => h.2.elim c0 c1), pl_s (show 0 < b.1 by omega), if_neg (show ¬ (ι (b.1 - 1) = (-1 : Int32)) from of_eq_false (neq_f (b := 1) (by omega) (by omega) (by omega))), if_pos (show ι (b.1 - 1) ≤ ι (coD m (fun f => exN X V y w A B (me f)) (fun f => omN M q A (me f)) m x) by rw [le_t (by omega) (by omega)]; trivial)]
          unfold f_X9_day_b155
          rw [if_pos (show (0 : Int32) = 0 from rfl)]
          unfold f_X9_day_b169
          rw [if_pos (show (0 : Int32) = 0 from rfl)]
          unfold f_X9_day_b185 f_X9_day_b187
          rw [L1, ι_add]
    · rw [if_neg c, if_pos (show ι 0 = (0 : Int32) from rfl)]
      have es : stD m (fun f => exN X V y w A B (me f)) (fun f => omN M q A (me f)) me b x = b := by
        unfold stD
        rw [if_neg (fun h => c h.1)]
      rw [es]
      obtain ⟨τ', p1, p2⟩ := ih (x + 1) n τ1 b (by omega) (by omega) hb (FXT_sc f1 hX) (FT_sc hM hV f1 hF) (by rw [g3 _ _ (by omega)]; exact h46) (fun f hf => by rw [g3 _ _ (by omega)]; exact h20 f hf)
      refine ⟨τ', ?_, f1.tr p2⟩
      unfold f_X9_day_b187
      rw [L1, ι_add]
      exact p1
theorem r_pow {m q s : Nat} {τ : Mem} (hm : m ≤ 6) (h46 : τ 0 46 = ι m) : ∀ d i n, i + d = m → d < n → f_X9_day_b84 (ι q) (ι s) n τ (ι (m ^ i)) (ι i) = f_X9_day_b115 (ι q) (ι s) (ι (m ^ m)) FU τ (-ι 1) (ι 0) (ι 0) := by
  intro d
  induction d with
  | zero =>
    intro i n hi hn
    obtain ⟨n, rfl⟩ : ∃ q, n = q + 1 := ⟨n - 1, by omega⟩
    have ei : i = m := by omega
    subst ei
    rw [f_X9_day_b84, h46, if_pos (show ι i ≤ ι i by rw [le_t (by omega) (by omega)]; trivial)]
    rfl
  | succ d ih =>
    intro i n hi hn
    obtain ⟨n, rfl⟩ : ∃ q, n = q + 1 := ⟨n - 1, by omega⟩
    rw [f_X9_day_b84, h46, if_neg (show ¬ ι m ≤ ι i by rw [le_f (by omega) (by omega)]; exact id), ι_mul, ← Nat.pow_succ, L1, ι_add]
    exact ih (i + 1) n (by omega) (by omega)
theorem r_coll {M V w y q s m : Nat} {A B : TB2} (hM : M ≤ 6) (hV : V ≤ 8) (hA : OKA M A) (hm : cwN (wtN M A) 6 = m) : ∀ d i n (τ : Mem), i + d = M → d < n → FT M V w y A B τ → τ 0 46 = ι (cwN (wtN M A) i) → (∀ f, f < cwN (wtN M A) i → τ 20 f = ι (meN (wtN M A) 6 f)) →
    ∃ τ', f_X9_day_b31 (ι q) (ι s) (ι 1) n τ (ι i) = f_X9_day_b84 (ι q) (ι s) FU τ' (ι 1) (ι 0) ∧ eqR τ τ' ∧ τ' 0 46 = ι m ∧ ∀ f, f < m → τ' 20 f = ι (meN (wtN M A) 6 f) := by
  intro d
  induction d with
  | zero =>
    intro i n τ hi hn hF h46 h20
    obtain ⟨n, rfl⟩ : ∃ q, n = q + 1 := ⟨n - 1, by omega⟩
    have ei : i = M := by omega
    subst ei
    have em : cwN (wtN i A) i = m := by
      rw [← hm]
      have G : ∀ d, cwN (wtN i A) (i + d) = cwN (wtN i A) i := by
        intro d
        induction d with
        | zero => rfl
        | succ d ih => exact (cw_n (wt := wtN i A) (i := i + d) (decide_eq_false (fun h => by omega))).trans ih
      have := G (6 - i)
      rw [show i + (6 - i) = 6 by omega] at this
      exact this.symm
    rw [em] at h46 h20
    refine ⟨τ, ?_, eqR.rfl, h46, h20⟩
    rw [f_X9_day_b31, hF.1, if_pos (show ι i ≤ ι i by rw [le_t (by omega) (by omega)]; trivial)]
    rfl
  | succ d ih =>
    intro i n τ hi hn hF h46 h20
    obtain ⟨n, rfl⟩ : ∃ q, n = q + 1 := ⟨n - 1, by omega⟩
    have hiM : i < M := by omega
    have a5 := (hA i hiM).2.2.2.2.2
    have cw6 := (cw_mono (wt := wtN M A) (i := 0) i).2
    simp only [show cwN (wtN M A) 0 = 0 from rfl, Nat.zero_add] at cw6
    rw [f_X9_day_b31, hF.1, if_neg (show ¬ ι M ≤ ι i by rw [le_f (by omega) (by omega)]; exact id), L4, L3, ι_mul, ι_add, if_pos (inb_t (show 4 * i + 3 < 24 by omega) (by omega)), ι_nat (show 4 * i + 3 < 2147483648 by omega), fa_5 hF.2.2.2.2.1 hiM, h46]
    by_cases c : A i 5 = 0
    · have wt : wtN M A i = true := decide_eq_true ⟨hiM, c⟩
      rw [if_pos (show ι (A i 5) = 0 by rw [c]; rfl), if_pos (inb_t (show cwN (wtN M A) i < 6 by omega) (by omega)), od_e, ι_nat (show cwN (wtN M A) i < 2147483648 by omega)]
      have f1 : eqR τ (ms (ms τ 20 (cwN (wtN M A) i) (ι i)) 0 46 (ι (cwN (wtN M A) i + 1))) := fun k j h => by rw [ms_off (by unfold sR at h; omega), ms_off (by unfold sR at h; omega)]
      obtain ⟨τ', p1, p2, p3, p4⟩ := ih (i + 1) n (ms (ms τ 20 (cwN (wtN M A) i) (ι i)) 0 46 (ι (cwN (wtN M A) i + 1))) (by omega) (by omega) (FT_sc hM hV f1 hF) (by rw [ms_at rfl rfl, cw_s wt]) (fun f hf => by
        rw [cw_s wt] at hf
        rw [ms_off (by omega)]
        by_cases cf : f = cwN (wtN M A) i
        · rw [ms_at rfl cf, cf, me_cw wt 6 (by omega)]
        · rw [ms_off (by omega)]
          exact h20 f (by omega))
      refine ⟨τ', ?_, f1.tr p2, p3, p4⟩
      unfold f_X9_day_b75
      rw [ms_off (by omega), h46, L1, ι_add, ι_add]
      exact p1
    · have wt : wtN M A i = false := decide_eq_false (fun h => c h.2)
      rw [if_neg (show ¬ ι (A i 5) = 0 by rw [L0, eq_f c (by omega) (by omega)]; exact id)]
      obtain ⟨τ', p1, p2, p3, p4⟩ := ih (i + 1) n τ (by omega) (by omega) hF (by rw [cw_n wt]; exact h46) (fun f hf => h20 f (by rw [cw_n wt] at hf; exact hf))
      refine ⟨τ', ?_, p2, p3, p4⟩
      unfold f_X9_day_b75
      rw [L1, ι_add]
      exact p1
theorem pow_self6 {m : Nat} (h : m ≤ 6) : m ^ m < 100000 := by
  have : ∀ m, m < 7 → m ^ m < 100000 := by decide
  exact this m (by omega)
theorem c_day_l {T M V w y q s m : Nat} {X : XT} {A B : TB2} (hOX : OKX T X) (hA : OKA M A) (hOB : OKB M V B) (hM : M ≤ 6) (hV : V ≤ 8) (hy : y < T) (hq : q ≤ 1) (hs : s ≤ 1) (hm : cwN (wtN M A) 6 = m) : ∀ d i n (σ : Mem) (z : Nat), i + d = M → d < n → CXT T X σ → CT 15 M V w y A B σ → σ 77 2 = ι z → mkB z (fun v => wtN M A v = true ∧ v < i) → (∀ v, v < i → wtN M A v = true → σ 78 v = ι (exN X V y w A B v) ∧ σ 79 v = ι (omN M q A v)) →
    ∃ σ', f_X8_day_b31 (ι q) (ι s) n σ (ι i) = some (if s = 0 then pl (foD m (fun f => exN X V y w A B (meN (wtN M A) 6 f)) (fun f => omN M q A (meN (wtN M A) 6 f)) (meN (wtN M A) 6) (m ^ m) 0 (0, 0)).1 else ι (foD m (fun f => exN X V y w A B (meN (wtN M A) 6 f)) (fun f => omN M q A (meN (wtN M A) 6 f)) (meN (wtN M A) 6) (m ^ m) 0 (0, 0)).2, σ') ∧ eqC σ σ' := by
  intro d
  induction d with
  | zero =>
    intro i n σ z hi hn hX hC h2 hz h7
    obtain ⟨n, rfl⟩ : ∃ q, n = q + 1 := ⟨n - 1, by omega⟩
    have ei : i = M := by omega
    subst ei
    have m6 : m ≤ 6 := by
      have := (cw_mono (wt := wtN i A) (i := 0) 6).2
      simp only [show cwN (wtN i A) 0 = 0 from rfl, Nat.zero_add, hm] at this
      exact this
    have hwi : ∀ v, wtN i A v = true → v < i := fun v h => (of_decide_eq_true h).1
    have hz' : mkB z (fun v => wtN i A v = true) := ⟨hz.1, fun v hv => (hz.2 v hv).trans ⟨fun h => h.1, fun h => ⟨h, hwi v h⟩⟩⟩
    obtain ⟨σ', g1, g2, g3, g4⟩ := c_seat (wt := wtN i A) (e := exN X V y w A B) (om := omN i q A) hm hz' (fun x => by
      have := co_le (m := m) (e := fun f => exN X V y w A B (meN (wtN i A) 6 f)) (om := fun f => omN i q A (meN (wtN i A) 6 f)) (fun f => ex_le _) (fun f => om_le hA _) m x m6
      omega) m 0 0 12 (ms (ms σ 77 3 (-1 : Int32)) 77 4 (0 : Int32)) (0, 0) 0 (by omega) (by omega) (by
        have := sumF_le (f := fun f => if usD m 0 0 f = true then 1 else 0) (c := 0) (fun f => by
          show (if false = true then 1 else 0) ≤ 0
          rw [if_neg (by decide)]
          exact Nat.le_refl _) m 0
        unfold cuD
        omega) ⟨by omega, fun v hv => ⟨fun h => absurd (show bitN 0 v = 0 by unfold bitN; rw [Nat.zero_div]) h, fun h => by cases h.2⟩⟩ (by show 0 < 2147483648; omega) (by rw [ms_off (by omega), ms_off (by omega)]; exact h2) (by rw [ms_off (by omega), ms_at rfl rfl]; rfl) (by rw [ms_at rfl rfl]; rfl) (fun v hv hw => by
          rw [ms_off (by omega), ms_off (by omega), ms_off (by omega), ms_off (by omega)]
          exact h7 v (hwi v hw) hw)
    rw [Nat.zero_mul] at g2 g3
    refine ⟨σ', ?_, fun k j h => by rw [g4 k j (by unfold sC at h; omega), ms_off (by unfold sC at h; omega), ms_off (by unfold sC at h; omega)]⟩
    have g1 : f_X0_seatNext_R (ms (ms σ 77 3 (-1 : Int32)) 77 4 (0 : Int32)) (0 : Int32) (0 : Int32) (0 : Int32) (0 : Int32) (0 : Int32) = some σ' := g1
    rw [f_X8_day_b31, hC.1, if_pos (show ι i ≤ ι i by rw [le_t (by omega) (by omega)]; trivial)]
    unfold f_X0_findBest
    rw [g1, ob_s, ob_s]
    by_cases c : s = 0
    · rw [if_pos (show ι s = 0 by rw [c]; rfl), if_pos c, g2]
    · rw [if_neg (show ¬ ι s = 0 by rw [L0, eq_f c (by omega) (by omega)]; exact id), if_neg c, g3]
  | succ d ih =>
    intro i n σ z hi hn hX hC h2 hz h7
    obtain ⟨n, rfl⟩ : ∃ q, n = q + 1 := ⟨n - 1, by omega⟩
    have hiM : i < M := by omega
    obtain ⟨a1, a2, a3, a4, a5, a6⟩ := id hC
    obtain ⟨e0, e1, e2, e3, e4, e5⟩ := a5 i hiM
    have aa := (hA i hiM).2.2.2.2.2
    rw [f_X8_day_b31, a1, if_neg (show ¬ ι M ≤ ι i by rw [le_f (by omega) (by omega)]; exact id), c_manAt a1 hM hiM, ob_s, onl_s, e5]
    by_cases c : A i 5 = 0
    · have wt : wtN M A i = true := decide_eq_true ⟨hiM, c⟩
      obtain ⟨σ1, s1, s2⟩ := c_says hX hOX (w := w) (ow := owedN V B i) (q := 1) hy (by omega) (show 5 ≤ 15 + 3 + i by omega) e1 e2 e3 e4
      rw [if_pos (show ι (A i 5) = 0 by rw [c]; rfl), c_owed a2 hV a6 hOB hM (show i < 100 by omega), ob_s, a3, a4, L1, s1, ob2_s, ι_add]
      have z64 := hz.1
      let σ2 : Mem := ms (ms (ms σ1 78 i (ι (exN X V y w A B i))) 79 i (ι (omN M q A i))) 77 2 (ι (z ||| 2 ^ i))
      have f2 : eqC σ σ2 := fun k j h => by
        show (ms (ms (ms σ1 78 i (ι (exN X V y w A B i))) 79 i (ι (omN M q A i))) 77 2 (ι (z ||| 2 ^ i))) k j = σ k j
        rw [ms_off (by unfold sC at h; omega), ms_off (by unfold sC at h; omega), ms_off (by unfold sC at h; omega), s2 k j (by unfold sC at h; omega) (by unfold sC at h; omega)]
      obtain ⟨σ', p1, p2⟩ := ih (i + 1) n σ2 (z ||| 2 ^ i) (by omega) (by omega) (CXT_sc f2 hX) (CT_sc hM hV f2 hC) (ms_at rfl rfl) (mkB_or hz (by omega) (fun v hv => by
        constructor
        · rintro ⟨b1, b2⟩
          by_cases cv : v = i
          · exact Or.inr cv
          · exact Or.inl ⟨b1, by omega⟩
        · rintro (⟨b1, b2⟩ | b)
          · exact ⟨b1, by omega⟩
          · rw [b]; exact ⟨wt, by omega⟩)) (fun v hv hw => by
        show (ms (ms (ms σ1 78 i (ι (exN X V y w A B i))) 79 i (ι (omN M q A i))) 77 2 (ι (z ||| 2 ^ i))) 78 v = _ ∧ (ms (ms (ms σ1 78 i (ι (exN X V y w A B i))) 79 i (ι (omN M q A i))) 77 2 (ι (z ||| 2 ^ i))) 79 v = _
        by_cases cv : v = i
        · rw [cv, ms_off (by omega), ms_off (by omega), ms_at rfl rfl, ms_off (by omega), ms_at rfl rfl]
          exact ⟨rfl, rfl⟩
        · rw [ms_off (by omega), ms_off (by omega), ms_off (by omega), ms_off (by omega), ms_off (by omega), ms_off (by omega), s2 _ _ (by omega) (by omega), s2 _ _ (by omega) (by omega)]
          exact h7 v (by omega) hw)
      refine ⟨σ', ?_, f2.tr p2⟩
      have ex : ∀ o : Nat, o = omN M q A i → f_X0_expect σ1 (ι i) (ι (exN X V y w A B i)) (ι o) = some σ2 := by
        intro o ho
        subst ho
        have e77 : (ms (ms σ1 78 i (ι (exN X V y w A B i))) 79 i (ι (omN M q A i))) 77 2 = ι z := by
          rw [ms_off (by omega), ms_off (by omega), s2 _ _ (by omega) (by omega)]
          exact h2
        unfold f_X0_expect
        rw [L0, if_neg (show ¬ ι i < ι 0 by rw [lt_f (by omega) (by omega)]; exact id), L6, if_neg (show ¬ ι 6 ≤ ι i by rw [le_f (by omega) (by omega)]; exact id), if_pos (show ι i < ι 6 by rw [lt_t (by omega) (by omega)]; trivial), if_pos (inb_t (show i < 6 by omega) (by omega)), if_pos (inb_t (show i < 6 by omega) (by omega)), od_e, od_e, ι_nat (by omega), e77, L1, L31, shl_cM (by omega), or_c (by omega) (by omega)]
      by_cases cq : q = 0
      · rw [if_pos (show ι q = 0 by rw [cq]; rfl)]
        unfold f_X8_day_b121
        have := ex 1 (by unfold omN; rw [if_pos cq])
        unfold exN at this
        rw [this, ob_s]
        unfold f_X8_day_b124
        rw [L1, ι_add]
        exact p1
      · rw [if_neg (show ¬ ι q = 0 by rw [L0, eq_f cq (by omega) (by omega)]; exact id), s2 _ _ (by omega) (by omega), e4]
        unfold f_X8_day_b121
        have := ex (A i 4) (by unfold omN; rw [if_neg cq, if_pos hiM])
        unfold exN at this
        rw [this, ob_s]
        unfold f_X8_day_b124
        rw [L1, ι_add]
        exact p1
    · have wt : wtN M A i = false := decide_eq_false (fun h => c h.2)
      rw [if_neg (show ¬ ι (A i 5) = 0 by rw [L0, eq_f c (by omega) (by omega)]; exact id)]
      obtain ⟨σ', p1, p2⟩ := ih (i + 1) n σ z (by omega) (by omega) hX hC h2 ⟨hz.1, fun v hv => (hz.2 v hv).trans ⟨fun h => ⟨h.1, by omega⟩, fun h => ⟨h.1, by
        by_cases cv : v = i
        · have h1 : wtN M A v = true := h.1
          rw [cv, wt] at h1
          cases h1
        · have h2 : v < i + 1 := h.2
          omega⟩⟩⟩ (fun v hv hw => by
        by_cases cv : v = i
        · rw [cv, wt] at hw
          cases hw
        · exact h7 v (by omega) hw)
      refine ⟨σ', ?_, p2⟩
      unfold f_X8_day_b124
      rw [L1, ι_add]
      exact p1
theorem op_day : OP_day RR := by
  intro σ τ v1 v2 hR
  obtain ⟨M, V, w, y, A, B, T, X, h0, hA, hB, hOX, hC, hS, hS9, hF, hCX, hFX, hI, hSh, hD⟩ := id hR
  obtain ⟨hM, hV, hw, hy⟩ := id h0
  obtain ⟨hB, hBs⟩ := id hB
  obtain ⟨a1, a2, a3, a4, a5, a6⟩ := id hC
  obtain ⟨b1, b2, b3, b4, b5, b6⟩ := id hF
  have hT := hOX.2.1
  have c1 := hCX.1
  have f1 := hFX.1
  unfold f_X8_day f_X9_day
  rcases argN 2 v1 with ⟨q, q1, q2, rfl⟩ | g1
  · rcases argN 2 v2 with ⟨s, s1, s2, rfl⟩ | g2
    · obtain ⟨m, hm⟩ : ∃ m, cwN (wtN M A) 6 = m := ⟨_, rfl⟩
      have m6 : m ≤ 6 := by
        have := (cw_mono (wt := wtN M A) (i := 0) 6).2
        simp only [show cwN (wtN M A) 0 = 0 from rfl, Nat.zero_add, hm] at this
        exact this
      have f0 : eqC σ (ms σ 77 2 (ι 0)) := fun k j h => ms_off (by unfold sC at h; omega)
      have f1 : eqR τ (ms τ 0 46 (ι 0)) := fun k j h => ms_off (by unfold sR at h; omega)
      obtain ⟨σ', c1, c2⟩ := c_day_l (q := q) (s := s) (w := w) hOX hA hB hM hV hy (by omega) (by omega) hm M 0 FU (ms σ 77 2 (ι 0)) 0 (by omega) (by unfold FU; omega) (CXT_sc f0 hCX) (CT_sc hM hV f0 hC) (ms_at rfl rfl) ⟨by omega, fun v hv => ⟨fun h => absurd (show bitN 0 v = 0 by unfold bitN; rw [Nat.zero_div]) h, fun h => absurd h.2 (Nat.not_lt_zero v)⟩⟩ (fun v hv => absurd hv (Nat.not_lt_zero v))
      obtain ⟨τ1, d1, d2, d3, d4⟩ := r_coll (q := q) (s := s) hM hV hA hm M 0 FU (ms τ 0 46 (ι 0)) (by omega) (by unfold FU; omega) (FT_sc hM hV f1 hF) (ms_at rfl rfl) (fun f hf => absurd hf (Nat.not_lt_zero f))
      have dp := r_pow (q := q) (s := s) m6 d3 m 0 FU (by omega) (by unfold FU; omega)
      rw [Nat.pow_zero] at dp
      obtain ⟨τ', t1, t2⟩ := r_day_l (q := q) (s := s) (w := w) (me := meN (wtN M A) 6) hOX hA hB hM hV hy m6 (fun f hf => by
        have := (me_ok (wt := wtN M A) (f := f) 6 (by omega)).2.1
        exact (of_decide_eq_true this).1) (by omega) (by omega) (pow_self6 m6) (m ^ m) 0 FU τ1 (0, 0) (by omega) (pow_self6 m6) (by show 0 < 2147483648; omega) (FXT_sc (f1.tr d2) hFX) (FT_sc hM hV (f1.tr d2) hF) d3 d4
      refine ⟨if s = 0 then pl (foD m (fun f => exN X V y w A B (meN (wtN M A) 6 f)) (fun f => omN M q A (meN (wtN M A) 6 f)) (meN (wtN M A) 6) (m ^ m) 0 (0, 0)).1 else ι (foD m (fun f => exN X V y w A B (meN (wtN M A) 6 f)) (fun f => omN M q A (meN (wtN M A) 6 f)) (meN (wtN M A) 6) (m ^ m) 0 (0, 0)).2, σ', τ', ?_, ?_, RR_eq hR (f0.tr c2) ((f1.tr d2).tr t2)⟩
      · rw [L0, L1, if_neg (show ¬ ι q < ι 0 by rw [lt_f (by omega) (by omega)]; exact id), if_neg (show ¬ ι 1 < ι q by rw [lt_f (by omega) (by omega)]; exact id), if_neg (show ¬ ι s < ι 0 by rw [lt_f (by omega) (by omega)]; exact id), if_pos (show ι s ≤ ι 1 by rw [le_t (by omega) (by omega)]; trivial)]
        exact c1
      · rw [L0, L1, r_in (by omega) (by omega) (by omega), r_in (by omega) (by omega) (by omega), if_neg (show ¬ ι 1 = ι 0 by decide), if_neg (show ¬ ι 1 = ι 0 by decide), d1, dp]
        exact t1
    · refine ⟨-ι 2, σ, τ, ?_, ?_, hR, rfl⟩
      · rcases g2 with g | ⟨k, k1, k2, rfl⟩
        · simp (disch := omega) only [ng_lt g, ng_le g, ng_gt g, ng_ge g, ng_eq g, ng_eq2 g, ng_inb g, ↓reduceIte, eq_self, Bool.false_eq_true, reduceCtorEq, ob_s, ob2_s, od_e, onl_n, onl_s, ι_nat, ι_add, ι_mul, ι_sub, ι_addm, lt_t, lt_f, le_t, le_f, eq_t, eq_f, inb_t, inb_f, neq_f, neq_f2, neq_nf, nlt_t, nlt_f, nle_t, nle_f, ms_at, ms_off, up_at, up_off, L0, L1, L2, L3, L4, L5, L6, L7, L8, L9, L10, L11, L12, L13, L14, L15, L16, L17, L18, L19, L20, L21, L22, L23, L24, L30, L31, L32, L40, L41, L42, L43, L45, L47, L48, L52, L57, L59, L60, L61, L63, L64, L72, L97, L99, L100, L122, L160, L161, L200, L255, L999, L1200, L1998, L99999, L100000, L1000005]
        · simp (disch := omega) only [↓reduceIte, eq_self, Bool.false_eq_true, reduceCtorEq, ob_s, ob2_s, od_e, onl_n, onl_s, ι_nat, ι_add, ι_mul, ι_sub, ι_addm, lt_t, lt_f, le_t, le_f, eq_t, eq_f, inb_t, inb_f, neq_f, neq_f2, neq_nf, nlt_t, nlt_f, nle_t, nle_f, ms_at, ms_off, up_at, up_off, L0, L1, L2, L3, L4, L5, L6, L7, L8, L9, L10, L11, L12, L13, L14, L15, L16, L17, L18, L19, L20, L21, L22, L23, L24, L30, L31, L32, L40, L41, L42, L43, L45, L47, L48, L52, L57, L59, L60, L61, L63, L64, L72, L97, L99, L100, L122, L160, L161, L200, L255, L999, L1200, L1998, L99999, L100000, L1000005]
      · simp (disch := omega) only [r_in, outN_in (n := 1) (by omega) g2, ↓reduceIte, eq_self, Bool.false_eq_true, reduceCtorEq, ob_s, ob2_s, od_e, onl_n, onl_s, ι_nat, ι_add, ι_mul, ι_sub, ι_addm, lt_t, lt_f, le_t, le_f, eq_t, eq_f, inb_t, inb_f, neq_f, neq_f2, neq_nf, nlt_t, nlt_f, nle_t, nle_f, ms_at, ms_off, up_at, up_off, L0, L1, L2, L3, L4, L5, L6, L7, L8, L9, L10, L11, L12, L13, L14, L15, L16, L17, L18, L19, L20, L21, L22, L23, L24, L30, L31, L32, L40, L41, L42, L43, L45, L47, L48, L52, L57, L59, L60, L61, L63, L64, L72, L97, L99, L100, L122, L160, L161, L200, L255, L999, L1200, L1998, L99999, L100000, L1000005]
  · refine ⟨-ι 2, σ, τ, ?_, ?_, hR, rfl⟩
    · rcases g1 with g | ⟨k, k1, k2, rfl⟩
      · simp (disch := omega) only [ng_lt g, ng_le g, ng_gt g, ng_ge g, ng_eq g, ng_eq2 g, ng_inb g, ↓reduceIte, eq_self, Bool.false_eq_true, reduceCtorEq, ob_s, ob2_s, od_e, onl_n, onl_s, ι_nat, ι_add, ι_mul, ι_sub, ι_addm, lt_t, lt_f, le_t, le_f, eq_t, eq_f, inb_t, inb_f, neq_f, neq_f2, neq_nf, nlt_t, nlt_f, nle_t, nle_f, ms_at, ms_off, up_at, up_off, L0, L1, L2, L3, L4, L5, L6, L7, L8, L9, L10, L11, L12, L13, L14, L15, L16, L17, L18, L19, L20, L21, L22, L23, L24, L30, L31, L32, L40, L41, L42, L43, L45, L47, L48, L52, L57, L59, L60, L61, L63, L64, L72, L97, L99, L100, L122, L160, L161, L200, L255, L999, L1200, L1998, L99999, L100000, L1000005]
      · simp (disch := omega) only [↓reduceIte, eq_self, Bool.false_eq_true, reduceCtorEq, ob_s, ob2_s, od_e, onl_n, onl_s, ι_nat, ι_add, ι_mul, ι_sub, ι_addm, lt_t, lt_f, le_t, le_f, eq_t, eq_f, inb_t, inb_f, neq_f, neq_f2, neq_nf, nlt_t, nlt_f, nle_t, nle_f, ms_at, ms_off, up_at, up_off, L0, L1, L2, L3, L4, L5, L6, L7, L8, L9, L10, L11, L12, L13, L14, L15, L16, L17, L18, L19, L20, L21, L22, L23, L24, L30, L31, L32, L40, L41, L42, L43, L45, L47, L48, L52, L57, L59, L60, L61, L63, L64, L72, L97, L99, L100, L122, L160, L161, L200, L255, L999, L1200, L1998, L99999, L100000, L1000005]
    · simp (disch := omega) only [outN_in (n := 1) (by omega) g1, ↓reduceIte, eq_self, Bool.false_eq_true, reduceCtorEq, ob_s, ob2_s, od_e, onl_n, onl_s, ι_nat, ι_add, ι_mul, ι_sub, ι_addm, lt_t, lt_f, le_t, le_f, eq_t, eq_f, inb_t, inb_f, neq_f, neq_f2, neq_nf, nlt_t, nlt_f, nle_t, nle_f, ms_at, ms_off, up_at, up_off, L0, L1, L2, L3, L4, L5, L6, L7, L8, L9, L10, L11, L12, L13, L14, L15, L16, L17, L18, L19, L20, L21, L22, L23, L24, L30, L31, L32, L40, L41, L42, L43, L45, L47, L48, L52, L57, L59, L60, L61, L63, L64, L72, L97, L99, L100, L122, L160, L161, L200, L255, L999, L1200, L1998, L99999, L100000, L1000005]
