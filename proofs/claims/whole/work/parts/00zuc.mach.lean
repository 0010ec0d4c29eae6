/-! THE PURE PART: the reference's reading as a machine over tokens -/
def rkS (g : Nat) : Nat := if g = 0 then 0 else if g = 10 then 1 else if g = 11 then 2 else if g = 17 then 3 else if g ≤ 13 then 4 else if g ≤ 15 then 5 else if g = 16 then 6 else 7
def okG (g : Nat) : Prop := g = 0 ∨ (10 ≤ g ∧ g ≤ 18)
def smG (g : Nat) : Nat := if g = 0 then 0 else cmo g
def unw (r : Nat) : List Nat → List Nat → List Nat × List Nat
  | [], o => ([], o)
  | g :: S, o => if r ≤ rkS g then unw r S ((20000 + g) :: o) else (g :: S, o)
def nopS : List Nat → Nat
  | [] => 0
  | g :: S => nopS S + (if g = 0 ∨ g = 17 ∨ g = 18 then 1 else 0)
def topR : List Nat → Nat
  | [] => 0
  | g :: _ => rkS g
def urS (g : Nat) : Nat := if rkS g = 4 then 5 else rkS g
def mach (t : Nat → Nat) : Nat → Bool → Bool → Nat → List Nat → List Nat → Option (Nat × Option (List Nat))
  | 0, _, _, _, _, _ => none
  | d + 1, true, m, k, S, o =>
    if t k < 20007 then mach t d false false (k + 1) (unw 7 S (t k :: o)).1 (unw 7 S (t k :: o)).2
    else if t k = 20017 ∧ m = true then (if nopS S = 5 then some (k, none) else mach t d true true (k + 1) (17 :: S) o)
    else if t k = 20015 then (if nopS S = 5 then some (k, none) else mach t d true false (k + 1) (18 :: S) o)
    else if t k = 20030 then (if nopS S = 5 then some (k, none) else mach t d true true (k + 1) (0 :: S) o)
    else some (k, none)
  | d + 1, false, _, k, S, o =>
    if t k = 20032 then (if (unw 1 S o).1 = [] then some (k + 1, some (unw 1 S o).2) else some (k, none))
    else if t k = 20031 then (if (unw 1 S o).1 = [] then some (k, none) else mach t d false false (k + 1) (unw 7 (unw 1 S o).1.tail (unw 1 S o).2).1 (unw 7 (unw 1 S o).1.tail (unw 1 S o).2).2)
    else if 20010 ≤ t k ∧ t k ≤ 20016 then
      (if rkS (t k - 20000) = 4 ∧ topR (unw (urS (t k - 20000)) S o).1 = 4 then some (k, none)
       else mach t d true (decide (t k ≤ 20011)) (k + 1) ((t k - 20000) :: (unw (urS (t k - 20000)) S o).1) (unw (urS (t k - 20000)) S o).2)
    else some (k, none)
theorem unw_len {r : Nat} : ∀ S o, (unw r S o).1.length + (unw r S o).2.length = S.length + o.length
  | [], o => rfl
  | g :: S, o => by
    have h := unw_len (r := r) S ((20000 + g) :: o)
    have e : unw r (g :: S) o = if r ≤ rkS g then unw r S ((20000 + g) :: o) else (g :: S, o) := rfl
    rw [e]
    split
    · rw [h]
      show S.length + (o.length + 1) = S.length + 1 + o.length
      omega
    · rfl
theorem unw_mem {r : Nat} {P : Nat → Prop} : ∀ S o, (∀ g, g ∈ S → P g) → ∀ g, g ∈ (unw r S o).1 → P g
  | [], o, h, g, hg => h g hg
  | x :: S, o, h, g, hg => by
    have e : unw r (x :: S) o = if r ≤ rkS x then unw r S ((20000 + x) :: o) else (x :: S, o) := rfl
    rw [e] at hg
    split at hg
    · exact unw_mem S _ (fun g h1 => h g (List.mem_cons_of_mem _ h1)) g hg
    · exact h g hg
theorem unw_top {r : Nat} : ∀ S o, (unw r S o).1 = [] ∨ topR (unw r S o).1 < r
  | [], o => Or.inl rfl
  | x :: S, o => by
    have e : unw r (x :: S) o = if r ≤ rkS x then unw r S ((20000 + x) :: o) else (x :: S, o) := rfl
    rw [e]
    split
    · exact unw_top S _
    · refine Or.inr ?_
      show rkS x < r
      omega
theorem unw_nop {r : Nat} : ∀ S o, nopS (unw r S o).1 ≤ nopS S
  | [], o => Nat.le_refl _
  | x :: S, o => by
    have e : unw r (x :: S) o = if r ≤ rkS x then unw r S ((20000 + x) :: o) else (x :: S, o) := rfl
    rw [e]
    split
    · refine Nat.le_trans (unw_nop S _) ?_
      exact Nat.le_add_right _ _
    · exact Nat.le_refl _
theorem rank_r {g : Nat} (h : okG g) : f_X9_rank (ι (smG g)) = ι (rkS g) := by
  have D : ∀ g, g < 19 → g = 0 ∨ 10 ≤ g → f_X9_rank (ι (smG g)) = ι (rkS g) := by decide +kernel
  unfold okG at h
  exact D g (by omega) (by omega)
/-- a row of things, the last one first -/
def LMq (τ : Mem) (c : Nat) (f : Nat → Int32) (q : Nat) : List Nat → Prop
  | [] => True
  | x :: l => τ c (q + l.length) = f x ∧ LMq τ c f q l
theorem LMq_fr {τ τ' : Mem} {c q : Nat} {f : Nat → Int32} : ∀ l, (∀ j, q ≤ j → j < q + l.length → τ' c j = τ c j) → LMq τ c f q l → LMq τ' c f q l
  | [], _, _ => trivial
  | x :: l, h, ⟨h1, h2⟩ => by
    have e : (x :: l).length = l.length + 1 := rfl
    rw [e] at h
    exact ⟨by rw [h _ (by omega) (by omega)]; exact h1, LMq_fr l (fun j a b => h j a (by omega)) h2⟩
def frR (T q : Nat) (τ τ' : Mem) : Prop := ∀ a j, ¬ (a = 0 ∧ 23 ≤ j ∧ j ≤ 31) → a ≠ 14 → ¬ (a = 6 ∧ 200 * T + q ≤ j) → τ' a j = τ a j
def RCP (T q : Nat) (S o : List Nat) (τ0 τ : Mem) : Prop := τ 0 29 = ι S.length ∧ τ 0 30 = ι (nopS S) ∧ τ 0 31 = ι (q + o.length) ∧ LMq τ 14 (fun g => ι (smG g)) 0 S ∧ LMq τ 6 (fun t => cm (cc t)) (200 * T + q) o ∧ frR T q τ0 τ
theorem RCP_eq {T q : Nat} {S o : List Nat} {τ0 τ τ' : Mem} (h : RCP T q S o τ0 τ) (hf : ∀ a j, ¬ (a = 0 ∧ 23 ≤ j ∧ j ≤ 28) → τ' a j = τ a j) : RCP T q S o τ0 τ' := by
  obtain ⟨h1, h2, h3, h4, h5, h6⟩ := h
  refine ⟨by rw [hf 0 29 (by omega)]; exact h1, by rw [hf 0 30 (by omega)]; exact h2, by rw [hf 0 31 (by omega)]; exact h3, LMq_fr _ (fun j _ _ => hf 14 j (by omega)) h4, LMq_fr _ (fun j _ _ => hf 6 j (by omega)) h5, fun a j a1 a2 a3 => ?_⟩
  rw [hf a j (by omega)]
  exact h6 a j a1 a2 a3
theorem r_puts {T q : Nat} {o : List Nat} {τ : Mem} {x : Int32} (hT : T ≤ 5) (h11 : τ 0 11 = ι T) (h31 : τ 0 31 = ι (q + o.length)) (hq : q + o.length < 200) : f_X9_puts τ x = some (ms (ms τ 6 (200 * T + q + o.length) x) 0 31 (ι (q + o.length + 1))) := by
  unfold f_X9_puts
  rw [h11, h31, show (200 : Int32) = ι 200 from rfl, ι_mul, ι_add, if_pos (inb_t (show 200 * T + (q + o.length) < 1200 by omega) (by omega)), ι_nat (by omega), od_e, ms_off (by omega), h31, L1, ι_add, show 200 * T + (q + o.length) = 200 * T + q + o.length by omega]
theorem RCP_put {T q : Nat} {S o : List Nat} {τ0 τ : Mem} {t : Nat} (hT : T ≤ 5) (h11 : τ 0 11 = ι T) (h : RCP T q S o τ0 τ) (hq : q + o.length < 200) : ∃ τ', f_X9_puts τ (cm (cc t)) = some τ' ∧ RCP T q S (t :: o) τ0 τ' ∧ ∀ j, j ≤ 28 → τ' 0 j = τ 0 j := by
  obtain ⟨h1, h2, h3, h4, h5, h6⟩ := h
  refine ⟨_, r_puts hT h11 h3 hq, ⟨?_, ?_, ?_, ?_, ?_, ?_⟩, fun j hj => by rw [ms_off (by omega), ms_off (by omega)]⟩
  · rw [ms_off (by omega), ms_off (by omega)]; exact h1
  · rw [ms_off (by omega), ms_off (by omega)]; exact h2
  · rw [ms_at rfl rfl]; rfl
  · exact LMq_fr _ (fun j _ _ => by rw [ms_off (by omega), ms_off (by omega)]) h4
  · refine ⟨by rw [ms_off (by omega), ms_at rfl rfl], LMq_fr _ (fun j _ hj => by rw [ms_off (by omega), ms_off (by omega)]) h5⟩
  · intro a j a1 a2 a3
    rw [ms_off (by omega), ms_off (by omega)]
    exact h6 a j a1 a2 a3
theorem r_unw {T q r : Nat} {τ0 : Mem} (hT : T ≤ 5) (h11 : τ0 0 11 = ι T) (hr : 1 ≤ r) (hr9 : r ≤ 9) : ∀ S o m τ, S.length < m → (∀ g, g ∈ S → okG g) → q + S.length + o.length < 200 → RCP T q S o τ0 τ → ∃ τ', f_X9_unwinds_b0 (ι r) m τ = some τ' ∧ RCP T q (unw r S o).1 (unw r S o).2 τ0 τ' ∧ ∀ j, j ≤ 28 → τ' 0 j = τ 0 j
  | [], o, m, τ, hm, hg, hz, h => by
    obtain ⟨m, rfl⟩ : ∃ q, m = q + 1 := ⟨m - 1, by omega⟩
    refine ⟨τ, ?_, h, fun _ _ => rfl⟩
    rw [f_X9_unwinds_b0, h.1, if_pos (show ι ([] : List Nat).length ≤ 0 by decide)]
  | g :: S, o, m, τ, hm, hg, hz, h => by
    have el : (g :: S).length = S.length + 1 := rfl
    rw [el] at hm hz
    obtain ⟨m, rfl⟩ : ∃ q, m = q + 1 := ⟨m - 1, by omega⟩
    obtain ⟨h1, h2, h3, ⟨h4, h4b⟩, h5, h6⟩ := id h
    rw [Nat.zero_add] at h4
    have ho := hg g (List.mem_cons_self)
    rw [el] at h1
    have eu : unw r (g :: S) o = if r ≤ rkS g then unw r S ((20000 + g) :: o) else (g :: S, o) := rfl
    have r9 : rkS g ≤ 9 := by
      have D : ∀ g, g < 19 → rkS g ≤ 9 := by decide +kernel
      unfold okG at ho
      exact D g (by omega)
    rw [f_X9_unwinds_b0, h1, L0, L1, if_neg (show ¬ ι (S.length + 1) ≤ ι 0 by rw [le_f (by omega) (by omega)]; exact id), ι_sub (by omega) (by omega), show S.length + 1 - 1 = S.length by omega, if_pos (inb_t (show S.length < 200 by omega) (by omega)), ι_nat (by omega), h4, rank_r ho]
    by_cases c : r ≤ rkS g
    · rw [if_neg (show ¬ ι (rkS g) < ι r by rw [lt_f c (by omega)]; exact id), show (ms τ 0 29 (ι S.length)) 0 29 = ι S.length from ms_at rfl rfl, if_pos (inb_t (show S.length < 200 by omega) (by omega)), ι_nat (show S.length < 2147483648 by omega), od_e, show (ms τ 0 29 (ι S.length)) 14 S.length = ι (smG g) by rw [ms_off (by omega)]; exact h4, show (ms τ 0 29 (ι S.length)) 0 30 = ι (nopS (g :: S)) by rw [ms_off (by omega)]; exact h2]
      have hg10 : 10 ≤ g ∧ g ≤ 18 := by
        unfold okG at ho
        by_cases e : g = 0
        · subst e
          have : rkS 0 = 0 := rfl
          omega
        · omega
      have hcc : cm (cc (20000 + g)) = ι (smG g) := by
        have D : ∀ g, g < 19 → 10 ≤ g → cm (cc (20000 + g)) = ι (smG g) := by decide +kernel
        exact D g (by omega) (by omega)
      -- the memory with one sign less held
      have hno : nopS S ≤ S.length := by
        have : ∀ S : List Nat, nopS S ≤ S.length := by
          intro S
          induction S with
          | nil => exact Nat.le_refl _
          | cons x S ih =>
            show nopS S + _ ≤ S.length + 1
            split <;> omega
        exact this S
      have hR : RCP T q S o τ0 (ms (ms τ 0 29 (ι S.length)) 0 30 (ι (nopS S))) := by
        refine ⟨by rw [ms_off (by omega), ms_at rfl rfl], ms_at rfl rfl, by rw [ms_off (by omega), ms_off (by omega)]; exact h3, LMq_fr _ (fun j _ _ => by rw [ms_off (by omega), ms_off (by omega)]) h4b, LMq_fr _ (fun j _ _ => by rw [ms_off (by omega), ms_off (by omega)]) h5, fun a j a1 a2 a3 => ?_⟩
        rw [ms_off (by omega), ms_off (by omega)]
        exact h6 a j a1 a2 a3
      have h11' : (ms (ms τ 0 29 (ι S.length)) 0 30 (ι (nopS S))) 0 11 = ι T := by
        rw [ms_off (by omega), ms_off (by omega), h6 0 11 (by omega) (by omega) (by omega)]
        exact h11
      obtain ⟨τ1, p1, p2, p3⟩ := RCP_put (t := 20000 + g) hT h11' hR (show q + o.length < 200 by omega)
      rw [hcc] at p1
      obtain ⟨τ2, w1, w2, w3⟩ := r_unw hT h11 hr hr9 S ((20000 + g) :: o) m τ1 (by omega) (fun x hx => hg x (List.mem_cons_of_mem _ hx)) (by show q + S.length + (o.length + 1) < 200; omega) p2
      refine ⟨τ2, ?_, by rw [eu, if_pos c]; exact w2, fun j hj => by rw [w3 j hj, p3 j hj, ms_off (by omega), ms_off (by omega)]⟩
      unfold f_X9_unwinds_b62 f_X9_unwinds_b67
      by_cases g17 : g = 17
      · subst g17
        rw [if_pos (show ι (smG 17) = (13 : Int32) from rfl), show nopS (17 :: S) = nopS S + 1 from rfl, L1, ι_sub (by omega) (by omega), show nopS S + 1 - 1 = nopS S by omega, p1, ob_s]
        exact w1
      · by_cases g18 : g = 18
        · subst g18
          rw [if_neg (show ¬ ι (smG 18) = (13 : Int32) by decide), if_pos (show ι (smG 18) = (19 : Int32) from rfl), show nopS (18 :: S) = nopS S + 1 from rfl, L1, ι_sub (by omega) (by omega), show nopS S + 1 - 1 = nopS S by omega, p1, ob_s]
          exact w1
        · have D : ∀ g, g < 19 → 10 ≤ g → g ≠ 17 → g ≠ 18 → ¬ ι (smG g) = (13 : Int32) ∧ ¬ ι (smG g) = (19 : Int32) := by decide +kernel
          obtain ⟨d1, d2⟩ := D g (by omega) (by omega) g17 g18
          have en : nopS (g :: S) = nopS S := by
            show nopS S + (if g = 0 ∨ g = 17 ∨ g = 18 then 1 else 0) = _
            rw [if_neg (by omega)]
            rfl
          rw [if_neg d1, if_neg d2, en, ι_sub (by omega) (by omega), show nopS S - 0 = nopS S from rfl, p1, ob_s]
          exact w1
    · rw [if_pos (show ι (rkS g) < ι r by rw [lt_t (by omega) (by omega)]; trivial)]
      refine ⟨τ, rfl, ?_, fun _ _ => rfl⟩
      rw [eu, if_neg c]
      exact h
theorem RCP_push {T q g : Nat} {S o : List Nat} {τ0 τ : Mem} (h : RCP T q S o τ0 τ) (hz : S.length < 200) (h30 : (ms (ms τ 14 S.length (ι (smG g))) 0 29 (ι (S.length + 1))) 0 30 = ι (nopS (g :: S))) : f_X9_holds τ (ι (smG g)) = some (ms (ms τ 14 S.length (ι (smG g))) 0 29 (ι (S.length + 1))) ∧ RCP T q (g :: S) o τ0 (ms (ms τ 14 S.length (ι (smG g))) 0 29 (ι (S.length + 1))) := by
  obtain ⟨h1, h2, h3, h4, h5, h6⟩ := h
  constructor
  · unfold f_X9_holds
    rw [h1, if_pos (inb_t hz (by omega)), ι_nat (by omega), od_e, ms_off (by omega), h1, L1, ι_add]
  · refine ⟨ms_at rfl rfl, h30, by rw [ms_off (by omega), ms_off (by omega)]; exact h3, ⟨by rw [ms_off (by omega), ms_at rfl (by omega)], LMq_fr _ (fun j _ hj => by rw [ms_off (by omega), ms_off (by omega)]) h4⟩, LMq_fr _ (fun j _ _ => by rw [ms_off (by omega), ms_off (by omega)]) h5, fun a j a1 a2 a3 => ?_⟩
    rw [ms_off (by omega), ms_off (by omega)]
    exact h6 a j a1 a2 a3
theorem r_holds {T q g : Nat} {S o : List Nat} {τ0 τ : Mem} (h : RCP T q S o τ0 τ) (hz : S.length < 200) (hg : ¬ (g = 0 ∨ g = 17 ∨ g = 18)) : ∃ τ', f_X9_holds τ (ι (smG g)) = some τ' ∧ RCP T q (g :: S) o τ0 τ' ∧ ∀ j, j ≤ 28 → τ' 0 j = τ 0 j := by
  obtain ⟨a, b⟩ := RCP_push (g := g) h hz (by
    rw [ms_off (by omega), ms_off (by omega), h.2.1]
    show _ = ι (nopS S + (if g = 0 ∨ g = 17 ∨ g = 18 then 1 else 0))
    rw [if_neg hg]
    rfl)
  exact ⟨_, a, b, fun j hj => by rw [ms_off (by omega), ms_off (by omega)]⟩
theorem r_opens {T q g : Nat} {S o : List Nat} {τ0 τ : Mem} (h : RCP T q S o τ0 τ) (hz : S.length < 200) (h5 : nopS S ≤ 5) (hg : g = 0 ∨ g = 17 ∨ g = 18) : (nopS S = 5 → f_X9_opensOne τ (ι (smG g)) = some (0, τ)) ∧ (nopS S ≠ 5 → ∃ τ', f_X9_opensOne τ (ι (smG g)) = some (1, τ') ∧ RCP T q (g :: S) o τ0 τ' ∧ ∀ j, j ≤ 28 → τ' 0 j = τ 0 j) := by
  unfold f_X9_opensOne
  rw [h.2.1, show (5 : Int32) = ι 5 from rfl]
  constructor
  · intro e
    rw [if_pos (by rw [e])]
  · intro e
    rw [if_neg (show ¬ ι (nopS S) = ι 5 by rw [eq_f e (by omega) (by omega)]; exact id), L1, ι_add]
    obtain ⟨h1, h2, h3, h4, h5, h6⟩ := h
    -- hold on the memory with one more open
    have eh : f_X9_holds (ms τ 0 30 (ι (nopS S + 1))) (ι (smG g)) = some (ms (ms (ms τ 0 30 (ι (nopS S + 1))) 14 S.length (ι (smG g))) 0 29 (ι (S.length + 1))) := by
      unfold f_X9_holds
      rw [ms_off (show (0 : Nat) ≠ 0 ∨ (29 : Nat) ≠ 30 by omega), h1, if_pos (inb_t hz (by omega)), ι_nat (by omega), od_e, ms_off (by omega), ms_off (by omega), h1, L1, ι_add]
    rw [eh, ob_s]
    refine ⟨_, rfl, ⟨ms_at rfl rfl, ?_, by rw [ms_off (by omega), ms_off (by omega), ms_off (by omega)]; exact h3, ⟨by rw [ms_off (by omega), ms_at rfl (by omega)], LMq_fr _ (fun j _ hj => by rw [ms_off (by omega), ms_off (by omega), ms_off (by omega)]) h4⟩, LMq_fr _ (fun j _ _ => by rw [ms_off (by omega), ms_off (by omega), ms_off (by omega)]) h5, fun a j a1 a2 a3 => ?_⟩, fun j hj => by rw [ms_off (by omega), ms_off (by omega), ms_off (by omega)]⟩
    · rw [ms_off (by omega), ms_off (by omega), ms_at rfl rfl]
      show _ = ι (nopS S + (if g = 0 ∨ g = 17 ∨ g = 18 then 1 else 0))
      rw [if_pos hg]
    · rw [ms_off (by omega), ms_off (by omega), ms_off (by omega)]
      exact h6 a j a1 a2 a3
