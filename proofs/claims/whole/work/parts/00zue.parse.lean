/-! THE PURE PART: the class's reading against the machine -/
theorem unw_cons {r g : Nat} {S o : List Nat} : unw r (g :: S) o = if r ≤ rkS g then unw r S ((20000 + g) :: o) else (g :: S, o) := rfl
theorem unw_stop {r : Nat} {S o : List Nat} (h : topR S < r) : unw r S o = (S, o) := by
  cases S with
  | nil => rfl
  | cons g S =>
    have h : rkS g < r := h
    rw [unw_cons, if_neg (by omega)]
theorem unw_unw {r r' : Nat} (h : r ≤ r') : ∀ S o, unw r (unw r' S o).1 (unw r' S o).2 = unw r S o
  | [], o => rfl
  | g :: S, o => by
    rw [unw_cons (r := r')]
    by_cases c : r' ≤ rkS g
    · rw [if_pos c, unw_unw h S _, unw_cons (r := r), if_pos (by omega)]
    · rw [if_neg c]
theorem unw_eq {r r' : Nat} (h : r ≤ r') {S o S' o' : List Nat} (e : unw r' S o = unw r' S' o') : unw r S o = unw r S' o' := by
  rw [← unw_unw h S o, e, unw_unw h S' o']
theorem rkS_7 (g : Nat) : rkS g ≤ 7 := by
  by_cases c : g < 19
  · have D : ∀ g, g < 19 → rkS g ≤ 7 := by decide +kernel
    exact D g c
  · unfold rkS
    rw [if_neg (by omega), if_neg (by omega), if_neg (by omega), if_neg (by omega), if_neg (by omega), if_neg (by omega), if_neg (by omega)]
    exact Nat.le_refl _
/-- the machine, its steps told by what is left -/
def mM (t : Nat → Nat) (F : Nat) (w m : Bool) (k : Nat) (S o : List Nat) : Option (Nat × Option (List Nat)) := mach t (F - k) w m k S o
theorem mMt {t : Nat → Nat} {F k : Nat} {m : Bool} {S o : List Nat} (h : k < F) : mM t F true m k S o = 
    if t k < 20007 then mM t F false false (k + 1) (unw 7 S (t k :: o)).1 (unw 7 S (t k :: o)).2
    else if t k = 20017 ∧ m = true then (if nopS S = 5 then some (k, none) else mM t F true true (k + 1) (17 :: S) o)
    else if t k = 20015 then (if nopS S = 5 then some (k, none) else mM t F true false (k + 1) (18 :: S) o)
    else if t k = 20030 then (if nopS S = 5 then some (k, none) else mM t F true true (k + 1) (0 :: S) o)
    else some (k, none) := by
  unfold mM
  rw [show F - k = (F - (k + 1)) + 1 by omega, mach]
theorem mMf {t : Nat → Nat} {F k : Nat} {S o : List Nat} (h : k < F) : mM t F false false k S o = 
    if t k = 20032 then (if (unw 1 S o).1 = [] then some (k + 1, some (unw 1 S o).2) else some (k, none))
    else if t k = 20031 then (if (unw 1 S o).1 = [] then some (k, none) else mM t F false false (k + 1) (unw 7 (unw 1 S o).1.tail (unw 1 S o).2).1 (unw 7 (unw 1 S o).1.tail (unw 1 S o).2).2)
    else if 20010 ≤ t k ∧ t k ≤ 20016 then
      (if rkS (t k - 20000) = 4 ∧ topR (unw (urS (t k - 20000)) S o).1 = 4 then some (k, none)
       else mM t F true (decide (t k ≤ 20011)) (k + 1) ((t k - 20000) :: (unw (urS (t k - 20000)) S o).1) (unw (urS (t k - 20000)) S o).2)
    else some (k, none) := by
  unfold mM
  rw [show F - k = (F - (k + 1)) + 1 by omega, mach]
def hgL : List Nat → Nat
  | [] => 0
  | x :: o => if x < 20007 then hgL o + 1 else if x = 20017 ∨ x = 20018 then hgL o else hgL o - 1
def wfL : List Nat → Prop
  | [] => True
  | x :: o => wfL o ∧ (x ≤ 9999 ∨ (20001 ≤ x ∧ x ≤ 20006) ∨ (20010 ≤ x ∧ x ≤ 20018)) ∧ (x < 20007 → hgL o + 1 ≤ 64) ∧ (¬ x < 20007 → 1 ≤ hgL o) ∧ (¬ x < 20007 → ¬ (x = 20017 ∨ x = 20018) → 2 ≤ hgL o)
theorem hgL_op {x : Nat} {o : List Nat} (h : x < 20007) : hgL (x :: o) = hgL o + 1 := by show (if x < 20007 then _ else _) = _; rw [if_pos h]
theorem hgL_un {x : Nat} {o : List Nat} (h : x = 20017 ∨ x = 20018) : hgL (x :: o) = hgL o := by show (if x < 20007 then _ else if x = 20017 ∨ x = 20018 then _ else _) = _; rw [if_neg (by omega), if_pos h]
theorem hgL_bin {x : Nat} {o : List Nat} (h : 20010 ≤ x ∧ x ≤ 20016) : hgL (x :: o) = hgL o - 1 := by show (if x < 20007 then _ else if x = 20017 ∨ x = 20018 then _ else _) = _; rw [if_neg (by omega), if_neg (by omega)]
def frCk (q : Nat) (σ0 σ : Mem) : Prop := ∀ a j, ¬ (a = 9 ∧ (j = 5 ∨ j = 7)) → ¬ (a = 13 ∧ q ≤ j) → σ a j = σ0 a j
def frWk (σ0 σ : Mem) : Prop := ∀ a j, ¬ (a = 9 ∧ (j = 5 ∨ j = 7)) → a ≠ 13 → σ a j = σ0 a j
def PCm (q k : Nat) (o : List Nat) (σ0 σ : Mem) : Prop := σ 9 5 = ι k ∧ σ 9 7 = ι (q + o.length) ∧ LMq σ 13 cc q o ∧ frCk q σ0 σ
def TTk (t : Nat → Nat) (N : Nat) (σ0 : Mem) : Prop := N ≤ 160 ∧ σ0 9 4 = ι (N + 1) ∧ (∀ j, j ≤ N → σ0 11 j = cc (t j)) ∧ (∀ j, j < N → t j ≠ 20041 ∧ (t j ≤ 9999 ∨ (20001 ≤ t j ∧ t j ≤ 20041))) ∧ t N = 20041
theorem PCm_F {q k : Nat} {o : List Nat} {σ0 σ : Mem} (h : PCm q k o σ0 σ) : frWk σ0 σ := fun a j h1 h2 => h.2.2.2 a j h1 (fun h => h2 h.1)
theorem TTk_ok {t : Nat → Nat} {N k : Nat} {σ0 : Mem} (h : TTk t N σ0) (hk : k ≤ N) : (t k = 20041 ∧ k = N) ∨ (t k ≠ 20041 ∧ k < N ∧ (t k ≤ 9999 ∨ (20001 ≤ t k ∧ t k ≤ 20040))) := by
  obtain ⟨h1, h2, h3, h4, h5⟩ := h
  by_cases c : k = N
  · exact Or.inl ⟨by rw [c]; exact h5, c⟩
  · have := h4 k (by omega)
    exact Or.inr ⟨this.1, by omega, by omega⟩
theorem c_cur {t : Nat → Nat} {N k : Nat} {σ0 σ : Mem} (h : TTk t N σ0) (hf : frWk σ0 σ) (h5 : σ 9 5 = ι k) (hk : k ≤ N) : f_X2_current σ = some (cc (t k)) := by
  obtain ⟨h1, h2, h3, h4, -⟩ := h
  unfold f_X2_current
  rw [h5, hf 9 4 (by omega) (by omega), h2, L0, if_neg (show ¬ ι k < ι 0 by rw [lt_f (by omega) (by omega)]; exact id), if_neg (show ¬ ι (N + 1) ≤ ι k by rw [le_f (by omega) (by omega)]; exact id), L161, if_neg (show ¬ ι 161 ≤ ι k by rw [le_f (by omega) (by omega)]; exact id), if_pos (inb_t (show k < 161 by omega) (by omega)), ι_nat (by omega), hf 11 k (by omega) (by omega), h3 k hk]
theorem cc_eq {t g : Nat} (hg : 0 < g) (h : g ≤ 9999) (ht : t ≤ 99999) : (cc t = -ι g) = (t = 20000 + g) := by
  unfold cc
  by_cases c : t < 20000
  · rw [if_pos c, neq_f hg (by omega) (by omega)]
    exact (eq_false (by omega)).symm
  · rw [if_neg c]
    by_cases e : t - 20000 = g
    · rw [neq_t e]
      exact (eq_true (by omega)).symm
    · rw [neq_nf e (by omega) (by omega)]
      exact (eq_false (by omega)).symm
theorem c_skip {t : Nat → Nat} {N k g : Nat} {σ0 σ : Mem} (h : TTk t N σ0) (hf : frWk σ0 σ) (h5 : σ 9 5 = ι k) (hk : k ≤ N) (hg : 0 < g) (h9 : g ≤ 9999) : f_X2_skip σ (-ι g) = if t k = 20000 + g then some (1, ms σ 9 5 (ι (k + 1))) else some (0, σ) := by
  unfold f_X2_skip
  have ht := TTk_ok h hk
  rw [c_cur h hf h5 hk, ob_s, h5, L1, ι_add]
  have e := cc_eq (t := t k) hg h9 (by omega)
  by_cases c : t k = 20000 + g
  · rw [if_pos c, if_pos (show cc (t k) = -ι g by rw [e]; exact c)]
  · rw [if_neg c, if_neg (show ¬ cc (t k) = -ι g by rw [e]; exact c)]
theorem c_emit_any (σ : Mem) (x : Int32) : ∃ σ', f_X2_emit σ x = some σ' ∧ ∀ a j, ¬ (a = 9 ∧ j = 7) → a ≠ 13 → σ' a j = σ a j := by
  unfold f_X2_emit
  rcases arg (σ 9 7) with ⟨k, h1, h2⟩ | ⟨k, h1, h2, h3⟩
  · rw [h2, L0, if_neg (show ¬ ι k < ι 0 by rw [lt_f (by omega) (by omega)]; exact id), L160]
    by_cases c : 160 ≤ k
    · rw [if_pos (show ι 160 ≤ ι k by rw [le_t c (by omega)]; trivial)]
      exact ⟨σ, rfl, fun _ _ _ _ => rfl⟩
    · rw [if_neg (show ¬ ι 160 ≤ ι k by rw [le_f (by omega) (by omega)]; exact id), if_pos (inb_t (show k < 160 by omega) (by omega)), od_e]
      exact ⟨_, rfl, fun a j h1 h2 => by rw [ms_off (by omega), ms_off (by omega)]⟩
  · have hn : ng (σ 9 7) := by unfold ng; omega
    rw [if_pos (show σ 9 7 < 0 by rw [L0, ng_lt hn (by omega)]; trivial)]
    exact ⟨σ, rfl, fun _ _ _ _ => rfl⟩
theorem c_emit {q k t : Nat} {o : List Nat} {σ0 σ : Mem} {x : Int32} (h : PCm q k o σ0 σ) (hx : x = cc t) (hq : q + o.length < 160) : ∃ σ', f_X2_emit σ x = some σ' ∧ PCm q k (t :: o) σ0 σ' := by
  obtain ⟨h1, h2, h3, h4⟩ := h
  unfold f_X2_emit
  rw [h2, L0, if_neg (show ¬ ι (q + o.length) < ι 0 by rw [lt_f (by omega) (by omega)]; exact id), L160, if_neg (show ¬ ι 160 ≤ ι (q + o.length) by rw [le_f (by omega) (by omega)]; exact id), if_pos (inb_t (show q + o.length < 160 by omega) (by omega)), od_e, ι_nat (by omega), ms_off (by omega), h2, L1, ι_add]
  refine ⟨_, rfl, by rw [ms_off (by omega), ms_off (by omega)]; exact h1, ms_at rfl rfl, ⟨by rw [ms_off (by omega), ms_at rfl rfl]; exact hx, LMq_fr _ (fun j _ hj => by rw [ms_off (by omega), ms_off (by omega)]) h3⟩, fun a j a1 a2 => ?_⟩
  rw [ms_off (by omega), ms_off (by omega)]
  exact h4 a j a1 a2
theorem PCm_at {q k k' : Nat} {o : List Nat} {σ0 σ : Mem} (h : PCm q k o σ0 σ) : PCm q k' o σ0 (ms σ 9 5 (ι k')) := by
  obtain ⟨h1, h2, h3, h4⟩ := h
  exact ⟨ms_at rfl rfl, by rw [ms_off (by omega)]; exact h2, LMq_fr _ (fun j _ _ => ms_off (by omega)) h3, fun a j a1 a2 => by rw [ms_off (by omega)]; exact h4 a j a1 a2⟩
/-- how a reading of the class ends, told against the machine R -/
def ENDs (t : Nat → Nat) (N q F : Nat) (σ0 : Mem) (R : Option (Nat × Option (List Nat))) (k0 l0 r h : Nat) (U : List Nat → List Nat × List Nat) (Q : Nat → List Nat → List Nat → Prop) (x : Option (Int32 × Mem)) : Prop :=
  ∃ σ', (x = some (0, σ') ∧ ∃ k', k' ≤ N ∧ σ' 9 5 = ι k' ∧ frWk σ0 σ' ∧ R = some (k', none)) ∨
    (x = some (1, σ') ∧ ∃ k' o' S' o2, k0 ≤ k' ∧ k' ≤ N ∧ PCm q k' o' σ0 σ' ∧ o'.length + k0 ≤ l0 + k' ∧ R = mM t F false false k' S' o2 ∧ unw r S' o2 = U o' ∧ Q k' S' o2 ∧ wfL o' ∧ hgL o' = h + 1)
def CLM (t : Nat → Nat) (N q F : Nat) (σ0 : Mem) (f : Mem → Int32 → Option (Int32 × Mem)) (v i r p : Nat) (mm : Bool → Nat → Prop) (Q : Nat → List Nat → List Nat → Prop) : Prop :=
  ∀ (m : Bool) (k : Nat) (S o : List Nat) (σ : Mem), PCm q k o σ0 σ → k ≤ N → q + o.length ≤ k → nopS S = v → topR S < p → mm m k → wfL o → hgL o + 26 + i ≤ 64 + 5 * v →
    ENDs t N q F σ0 (mM t F true m k S o) (k + 1) (o.length + 1) r (hgL o) (fun o' => unw r S o') Q (f σ (ι v))
theorem lvl {t : Nat → Nat} {N q F v ii ri pi r lo hi : Nat} {σ0 : Mem} {f g : Mem → Int32 → Option (Int32 × Mem)} {L : Nat → Mem → Int32 → Option (Int32 × Mem)} {mm : Bool → Nat → Prop} {Q : Nat → List Nat → List Nat → Prop}
    (hT : TTk t N σ0) (hF : 200 < F) (hlo : 20010 ≤ lo) (hhi : hi ≤ 20016) (hop : ∀ x, lo ≤ x → x ≤ hi → rkS (x - 20000) = r ∧ urS (x - 20000) = r ∧ r ≠ 4) (hri : r ≤ ri) (hpi : r < pi)
    (hmm : ∀ k, lo ≤ t k → t k ≤ hi → mm (decide (t k ≤ 20011)) (k + 1))
    (hg : ∀ σ, g σ (ι v) = ob2 (f σ (ι v)) (fun r2 σ3 => if r2 = 0 then some ((0 : Int32), σ3) else L FU σ3 (ι 0)))
    (hL1 : ∀ n σ i k, i < 160 → frWk σ0 σ → σ 9 5 = ι k → k ≤ N → lo ≤ t k → t k ≤ hi → L (n + 1) σ (ι i) = ob2 (f (ms σ 9 5 (ι (k + 1))) (ι v)) (fun r2 σ3 => if r2 = 0 then some ((0 : Int32), σ3) else ob (f_X2_emit σ3 (cc (t k))) (fun σ4 => L n σ4 (ι (i + 1)))))
    (hL2 : ∀ n σ i k, i ≤ 160 → frWk σ0 σ → σ 9 5 = ι k → k ≤ N → ¬ (lo ≤ t k ∧ t k ≤ hi) → L (n + 1) σ (ι i) = some (1, σ))
    (hf : CLM t N q F σ0 f v ii ri pi mm Q) : CLM t N q F σ0 g v (ii + 1) r r mm (fun k S o => Q k S o ∧ ¬ (lo ≤ t k ∧ t k ≤ hi)) := by
  intro m k S o σ hP hk hq hv hp hm hw hh
  have hN := hT.1
  have loop : ∀ c n i k1 S1 o1 oc σ1, k1 + c = N → c < n → i ≤ k1 → q + oc.length ≤ k1 → PCm q k1 oc σ0 σ1 → unw r S1 o1 = (S, oc) → Q k1 S1 o1 → wfL oc → hgL oc = hgL o + 1 →
      ENDs t N q F σ0 (mM t F false false k1 S1 o1) k1 oc.length r (hgL o) (fun o' => (S, o')) (fun k S o => Q k S o ∧ ¬ (lo ≤ t k ∧ t k ≤ hi)) (L n σ1 (ι i)) := by
    intro c
    induction c using Nat.strongRecOn with
    | _ c ih =>
    intro n i k1 S1 o1 oc σ1 hc hn hi1 hq1 hP1 hu hQ hw1 hh1
    obtain ⟨n, rfl⟩ : ∃ x, n = x + 1 := ⟨n - 1, by omega⟩
    by_cases w : lo ≤ t k1 ∧ t k1 ≤ hi
    · have hk1 := TTk_ok hT (show k1 ≤ N by omega)
      obtain ⟨r1, r2, r3⟩ := hop (t k1) w.1 w.2
      have eM : mM t F false false k1 S1 o1 = mM t F true (decide (t k1 ≤ 20011)) (k1 + 1) ((t k1 - 20000) :: S) oc := by
        rw [mMf (by omega), if_neg (by omega), if_neg (by omega), if_pos (by omega), if_neg (show ¬ (rkS (t k1 - 20000) = 4 ∧ _) from fun h => r3 (by rw [← r1]; exact h.1)), r2, hu]
      rw [eM, hL1 n σ1 i k1 (by omega) (PCm_F hP1) hP1.1 (by omega) w.1 w.2]
      have hno : nopS ((t k1 - 20000) :: S) = v := by
        show nopS S + (if t k1 - 20000 = 0 ∨ t k1 - 20000 = 17 ∨ t k1 - 20000 = 18 then 1 else 0) = v
        rw [if_neg (by omega)]
        exact hv
      obtain ⟨σ2, ⟨x1, k', y1, y2, y3, y4⟩ | ⟨x1, k', o', S', o2, z1, z2, z3, z4, z5, z6, z7, z8, z9⟩⟩ := hf _ (k1 + 1) ((t k1 - 20000) :: S) oc (ms σ1 9 5 (ι (k1 + 1))) (PCm_at hP1) (by omega) (by omega) hno (by show rkS (t k1 - 20000) < pi; omega) (hmm k1 w.1 w.2) hw1 (by omega)
      · rw [x1, ob2_s, if_pos rfl]
        exact ⟨σ2, Or.inl ⟨rfl, k', y1, y2, y3, y4⟩⟩
      · rw [x1, ob2_s, if_neg (show ¬ (1 : Int32) = 0 by decide)]
        obtain ⟨σ3, e1, e2⟩ := c_emit (t := t k1) z3 rfl (by omega)
        rw [e1, ob_s]
        have z6 : unw ri S' o2 = unw ri ((t k1 - 20000) :: S) o' := z6
        have hu2 : unw r S' o2 = (S, t k1 :: o') := by
          rw [unw_eq hri z6, unw_cons, if_pos (by omega), show 20000 + (t k1 - 20000) = t k1 by omega]
          exact unw_stop hp
        have hb : hgL (t k1 :: o') = hgL o + 1 := by
          rw [hgL_bin (by omega), z9, hh1]
          omega
        have el : (t k1 :: o').length = o'.length + 1 := rfl
        rw [z5]
        obtain ⟨σ4, ⟨x1, k'', y1, y2, y3, y4⟩ | ⟨x1, k'', o'', S'', o3, w1, w2, w3, w4, w5, w6, w7, w8, w9⟩⟩ := ih (N - k') (by omega) n (i + 1) k' S' o2 (t k1 :: o') σ3 (by omega) (by omega) (by omega) (by omega) e2 hu2 z7 ⟨z8, by omega, fun h => by omega, fun _ => by omega, fun _ _ => by omega⟩ hb
        · exact ⟨σ4, Or.inl ⟨x1, k'', y1, y2, y3, y4⟩⟩
        · exact ⟨σ4, Or.inr ⟨x1, k'', o'', S'', o3, by omega, w2, w3, by omega, w5, w6, w7, w8, w9⟩⟩
    · rw [hL2 n σ1 i k1 (by omega) (PCm_F hP1) hP1.1 (by omega) w]
      exact ⟨σ1, Or.inr ⟨rfl, k1, oc, S1, o1, Nat.le_refl _, by omega, hP1, by omega, rfl, hu, ⟨hQ, w⟩, hw1, hh1⟩⟩
  rw [hg]
  obtain ⟨σ2, ⟨x1, k', y1, y2, y3, y4⟩ | ⟨x1, k', o', S', o2, z1, z2, z3, z4, z5, z6, z7, z8, z9⟩⟩ := hf m k S o σ hP hk hq hv (by omega) hm hw (by omega)
  · rw [x1, ob2_s, if_pos rfl]
    exact ⟨σ2, Or.inl ⟨rfl, k', y1, y2, y3, y4⟩⟩
  · rw [x1, ob2_s, if_neg (show ¬ (1 : Int32) = 0 by decide), z5]
    have hu : unw r S' o2 = (S, o') := by
      have z6 : unw ri S' o2 = unw ri S o' := z6
      rw [unw_eq hri z6]
      exact unw_stop hp
    obtain ⟨σ4, ⟨x1, k'', y1, y2, y3, y4⟩ | ⟨x1, k'', o'', S'', o3, w1, w2, w3, w4, w5, w6, w7, w8, w9⟩⟩ := loop (N - k') FU 0 k' S' o2 o' σ2 (by omega) (by unfold FU; omega) (by omega) (by omega) z3 hu z7 z8 z9
    · exact ⟨σ4, Or.inl ⟨x1, k'', y1, y2, y3, y4⟩⟩
    · exact ⟨σ4, Or.inr ⟨x1, k'', o'', S'', o3, by omega, w2, w3, by omega, w5, by rw [w6]; exact (unw_stop hp).symm, w7, w8, w9⟩⟩
