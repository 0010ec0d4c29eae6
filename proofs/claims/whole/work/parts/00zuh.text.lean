/-! THE PURE PART: a text, read by both -/
def qsL (os : Nat → List Nat) : Nat → Nat
  | 0 => 0
  | p + 1 => qsL os p + (os p).length
theorem qsL_eq {os os' : Nat → List Nat} : ∀ j, (∀ p, p < j → os' p = os p) → qsL os' j = qsL os j
  | 0, _ => rfl
  | j + 1, h => by
    show qsL os' j + (os' j).length = qsL os j + (os j).length
    rw [qsL_eq j (fun p hp => h p (by omega)), h j (by omega)]
theorem qsL_le {os : Nat → List Nat} {p : Nat} : ∀ j, p ≤ j → qsL os p ≤ qsL os j
  | 0, h => by rw [show p = 0 by omega]; exact Nat.le_refl _
  | j + 1, h => by
    by_cases e : p = j + 1
    · rw [e]; exact Nat.le_refl _
    · exact Nat.le_trans (qsL_le j (by omega)) (Nat.le_add_right _ _)
/-- the parts that are read -/
def JJt (T : Nat) (os : Nat → List Nat) (j : Nat) (σ τ : Mem) : Prop := ∀ p, p < j → σ 14 p = ι (qsL os (p + 1)) ∧ LMq σ 13 cc (qsL os p) (os p) ∧ τ 7 (4 * T + p) = ι (qsL os p) ∧ LMq τ 6 (fun t => cm (cc t)) (200 * T + qsL os p) (os p) ∧ wfL (os p) ∧ hgL (os p) = 1
def frTt (T : Nat) (τ τ' : Mem) : Prop := ∀ a j, ¬ (a = 0 ∧ 23 ≤ j ∧ j ≤ 31) → a ≠ 14 → ¬ (a = 6 ∧ 200 * T ≤ j) → ¬ (a = 7 ∧ 4 * T ≤ j) → τ' a j = τ a j
def KCt (b : Nat → Nat) (n N : Nat) (σs σ : Mem) : Prop := eqC σs σ ∧ TTk (tk b n) N σ ∧ ∀ j, j ≤ N → σ 12 j = ι (pS b n j)
theorem KCt_fr {b : Nat → Nat} {n N : Nat} {σs σ σ' : Mem} (h : KCt b n N σs σ) (hf : frP σ σ' ∨ ∃ q i, ∀ a j, ¬ (a = 9 ∧ (j = 5 ∨ j = 7)) → ¬ (a = 13 ∧ q ≤ j) → ¬ (a = 14 ∧ j = i) → σ' a j = σ a j) : KCt b n N σs σ' := by
  have hw : frP σ σ' := by
    rcases hf with h | ⟨q, i, h⟩
    · exact h
    · exact fun a j a1 a2 a3 => h a j a1 (fun h => a2 h.1) (fun h => a3 h.1)
  obtain ⟨h1, ⟨t1, t2, t3, t4⟩, h3⟩ := h
  refine ⟨fun k j hs => ?_, ⟨t1, by rw [hw 9 4 (by omega) (by omega) (by omega)]; exact t2, fun j hj => by rw [hw 11 j (by omega) (by omega) (by omega)]; exact t3 j hj, t4⟩, fun j hj => by rw [hw 12 j (by omega) (by omega) (by omega)]; exact h3 j hj⟩
  rw [hw k j (by unfold sC at hs; omega) (by unfold sC at hs; omega) (by unfold sC at hs; omega), h1 k j hs]
def rd3 (σ13 : Mem) : Option (Int32 × Mem) := ob (f_X2_current σ13) (fun r16 => (if r16 = (-41 : Int32) then (f_X2_read_b58 σ13 (1 : Int32)) else (f_X2_read_b57 σ13)))
def rdT : Nat → Nat → Mem → Option (Int32 × Mem)
  | 0, _, σ => rd3 σ
  | c + 1, j, σ => ob2 (f_X2_readPart σ (ι j) (-ι (20 + j))) (fun r σ' => if r = 0 then f_X2_read_b57 σ' else rdT c (j + 1) σ')
theorem read_rd (σ : Mem) : f_X2_read σ = ob (f_X2_splitTape σ) (fun σ2 => rdT 3 0 (ms (ms σ2 9 5 (0 : Int32)) 9 7 (0 : Int32))) := rfl
/-- how a text's reading ends in both -/
def RESt (T n N : Nat) (b : Nat → Nat) (σs τs : Mem) (x y : Option (Int32 × Mem)) : Prop :=
  (∃ kf σ' τ', kf ≤ N ∧ x = some (ι (pS b n kf), σ') ∧ y = some (-100 - ι (pS b n kf), ms τ' 0 8 0) ∧ eqC σs σ' ∧ frTt T τs τ') ∨
  (∃ os σ' τ', x = some (-1, σ') ∧ y = some (ι T, ms (ms τ' 0 8 0) 0 11 (ι (T + 1))) ∧ eqC σs σ' ∧ frTt T τs τ' ∧ JJt T os 3 σ' τ' ∧ τ' 7 (4 * T + 3) = ι (qsL os 3) ∧ qsL os 3 < 160)
theorem c_b57 {b : Nat → Nat} {n N k : Nat} {σs σ : Mem} (h : KCt b n N σs σ) (h5 : σ 9 5 = ι k) (hk : k ≤ N) : f_X2_read_b57 σ = some (ι (pS b n k), σ) := by
  have hN := h.2.1.1
  unfold f_X2_read_b57 f_X2_read_b58
  rw [if_pos rfl, h5, L0, if_neg (show ¬ ι k < ι 0 by rw [lt_f (by omega) (by omega)]; exact id), L161, if_neg (show ¬ ι 161 ≤ ι k by rw [le_f (by omega) (by omega)]; exact id), if_pos (inb_t (show k < 161 by omega) (by omega)), ι_nat (by omega), h.2.2 k hk]
theorem r_fail {T i m : Nat} {τ : Mem} {p : Nat} (hT : T ≤ 5) (h11 : τ 0 11 = ι T) (h24 : τ 0 24 = ι p) (hm : 0 < m) : ∃ τ', f_X9_text_b26 m τ 0 (ι i) = some (-100 - ι p, ms τ' 0 8 0) ∧ frTt T τ τ' := by
  obtain ⟨m, rfl⟩ : ∃ x, m = x + 1 := ⟨m - 1, by omega⟩
  have e : f_X9_text_b101 τ (0 : Int32) = f_X9_text_b122 τ (0 : Int32) := by
    unfold f_X9_text_b101
    rw [if_pos rfl]
  rw [f_X9_text_b26, if_pos (show (0 : Int32) = 0 from rfl), e, ite_self]
  unfold f_X9_text_b122
  rw [h11, show (4 : Int32) = ι 4 from rfl, L3, ι_mul, ι_add, if_pos (inb_t (show 4 * T + 3 < 24 by omega) (by omega)), ι_nat (by omega), od_e, if_pos rfl]
  refine ⟨ms τ 7 (4 * T + 3) (τ 0 31), ?_, fun a j a1 a2 a3 a4 => ms_off (by omega)⟩
  rw [show (ms (ms τ 7 (4 * T + 3) (τ 0 31)) 0 8 (0 : Int32)) 0 24 = ι p by rw [ms_off (by omega), ms_off (by omega)]; exact h24]
theorem frTt_tr {T : Nat} {a b c : Mem} (h : frTt T a b) (g : frTt T b c) : frTt T a c := fun k j h1 h2 h3 h4 => by rw [g k j h1 h2 h3 h4, h k j h1 h2 h3 h4]
theorem frTx_t {T q i : Nat} {τ τ' : Mem} (h : frTx T q i τ τ') : frTt T τ τ' := fun a j a1 a2 a3 a4 => h a j a1 a2 (fun h => a3 ⟨h.1, by omega⟩) (fun h => a4 ⟨h.1, by omega⟩)
theorem frTt_TF {T n : Nat} {b : Nat → Nat} {τ τ' : Mem} (hf : frTt T τ τ') (h : TF n b τ) : TF n b τ' :=
  ⟨⟨by rw [hf 0 8 (by omega) (by omega) (by omega) (by omega)]; exact h.1.1, fun j hj => by rw [hf 5 j (by omega) (by omega) (by omega) (by omega)]; exact h.1.2 j hj⟩, fun j hj => by rw [hf 13 j (by omega) (by omega) (by omega) (by omega)]; exact h.2 j hj⟩
theorem t_end {n N T k m : Nat} {b : Nat → Nat} {σs τs σ τ : Mem} {os : Nat → List Nat} (hn : n ≤ 160) (hb : ∀ j, j < n → b j ≤ 255) (h0 : TF n b τs) (hT : T ≤ 5) (h11 : τs 0 11 = ι T) (hm : 2 < m) (hK : KCt b n N σs σ) (hf : frTt T τs τ) (h5 : σ 9 5 = ι k) (hk : k ≤ N) (hq : qsL os 3 + 6 ≤ k) (h23 : τ 0 23 = ι (pP b n k)) (h31 : τ 0 31 = ι (qsL os 3)) (hJ : JJt T os 3 σ τ) : RESt T n N b σs τs (rdT 0 3 σ) (f_X9_text_b26 m τ 1 (ι 3)) := by
  obtain ⟨m, rfl⟩ : ∃ x, m = x + 1 := ⟨m - 1, by omega⟩
  have hN := hK.2.1.1
  have g11 : τ 0 11 = ι T := by rw [hf 0 11 (by omega) (by omega) (by omega) (by omega)]; exact h11
  obtain ⟨τ2, n1, n2, n3⟩ := r_next hn hb (pP_le k) (frTt_TF hf h0) h23
  rw [← pS_pP] at n2
  obtain ⟨e24, -, e25, -, -, -⟩ := n2
  have e25 : τ2 0 25 = kdv (tk b n k) := e25
  have hok := tk_ok (k := k) hb
  have e11 : τ2 0 11 = ι T := by rw [n3 0 11 (by omega)]; exact g11
  have e31 : τ2 0 31 = ι (qsL os 3) := by rw [n3 0 31 (by omega)]; exact h31
  have ft : frTt T τs (ms τ2 7 (4 * T + 3) (ι (qsL os 3))) := fun a j a1 a2 a3 a4 => by rw [ms_off (by omega), n3 a j (by omega), hf a j a1 a2 a3 a4]
  rw [f_X9_text_b26, if_pos (show (3 : Int32) ≤ ι 3 from by decide)]
  show RESt T n N b σs τs (rd3 σ) _
  unfold f_X9_text_b101 rd3
  rw [if_neg (show ¬ (1 : Int32) = 0 by decide), n1, ob_s, c_cur hK.2.1 (fun _ _ _ _ => rfl) h5 hk, ob_s]
  have b122 : ∀ v, f_X9_text_b121 τ2 v = if v = 0 then some (-100 - ι (pS b n k), ms (ms τ2 7 (4 * T + 3) (ι (qsL os 3))) 0 8 0) else some (ι T, ms (ms (ms τ2 7 (4 * T + 3) (ι (qsL os 3))) 0 8 0) 0 11 (ι (T + 1))) := by
    intro v
    unfold f_X9_text_b121 f_X9_text_b122
    rw [e11, e31, show (4 : Int32) = ι 4 from rfl, show ι 4 * ι T + 3 = ι (4 * T + 3) by rw [L3, ι_mul, ι_add], if_pos (inb_t (show 4 * T + 3 < 24 by omega) (by omega)), ι_nat (by omega), od_e]
    by_cases c : v = 0
    · rw [if_pos c, if_pos c, show (ms (ms τ2 7 (4 * T + 3) (ι (qsL os 3))) 0 8 (0 : Int32)) 0 24 = ι (pS b n k) by rw [ms_off (by omega), ms_off (by omega)]; exact e24]
    · rw [if_neg c, if_neg c, od_e, show (ms (ms τ2 7 (4 * T + 3) (ι (qsL os 3))) 0 8 (0 : Int32)) 0 11 = ι T by rw [ms_off (by omega), ms_off (by omega)]; exact e11, show ι T + (1 : Int32) = ι (T + 1) by rw [L1, ι_add], ms_at rfl rfl, show ι (T + 1) - (1 : Int32) = ι T by rw [L1, ι_sub (by omega) (by omega)]; rfl]
  rw [b122 1, b122 0, if_pos rfl, if_neg (show ¬ (1 : Int32) = 0 by decide), e25]
  by_cases c : tk b n k = 20041
  · rw [c, if_pos (show cc 20041 = (-41 : Int32) from rfl), if_pos (show kdv 20041 = 0 from rfl)]
    refine Or.inr ⟨os, σ, ms τ2 7 (4 * T + 3) (ι (qsL os 3)), ?_, rfl, hK.1, ft, fun p hp => ?_, ms_at rfl rfl, by omega⟩
    · unfold f_X2_read_b58
      rw [if_neg (show ¬ (1 : Int32) = 0 by decide)]
    · obtain ⟨j1, j2, j3, j4, j5⟩ := hJ p hp
      refine ⟨j1, j2, by rw [ms_off (by omega), n3 7 _ (by omega)]; exact j3, LMq_fr _ (fun j _ _ => by rw [ms_off (by omega), n3 6 _ (by omega)]) j4, j5⟩
  · have e41 : ¬ cc (tk b n k) = (-41 : Int32) := by
      rw [show (-41 : Int32) = -ι 41 from rfl, cc_eq (by omega) (by omega) (by omega)]
      exact c
    have e0 : ¬ kdv (tk b n k) = 0 := by
      by_cases g : tk b n k < 20000
      · unfold kdv
        rw [if_pos g]
        decide
      · have D : ∀ i, i < 42 → 1 ≤ i → i ≠ 41 → ¬ kdv (20000 + i) = 0 := by decide +kernel
        have := D (tk b n k - 20000) (by omega) (by omega) (by omega)
        rw [show 20000 + (tk b n k - 20000) = tk b n k by omega] at this
        exact this
    rw [if_neg e41, if_neg e0, c_b57 hK h5 hk]
    exact Or.inl ⟨k, σ, _, hk, rfl, rfl, hK.1, ft⟩
theorem t_part {n N T : Nat} {b : Nat → Nat} {σs τs : Mem} (hn : n ≤ 160) (hb : ∀ j, j < n → b j ≤ 255) (h0 : TF n b τs) (hT : T ≤ 5) (h11 : τs 0 11 = ι T) : ∀ c j k m os σ τ, j + c = 3 → c + 2 < m → KCt b n N σs σ → frTt T τs τ → σ 9 5 = ι k → σ 9 7 = ι (qsL os j) → k ≤ N → qsL os j + 2 * j ≤ k → τ 0 23 = ι (pP b n k) → τ 0 31 = ι (qsL os j) → JJt T os j σ τ → RESt T n N b σs τs (rdT c j σ) (f_X9_text_b26 m τ 1 (ι j)) := by
  intro c
  induction c with
  | zero =>
    intro j k m os σ τ hj hm hK hf h5 h7 hk hq h23 h31 hJ
    have e : j = 3 := by omega
    subst e
    exact t_end hn hb h0 hT h11 (by omega) hK hf h5 hk (by omega) h23 h31 hJ
  | succ c ih =>
    intro j k m os σ τ hj hm hK hf h5 h7 hk hq h23 h31 hJ
    obtain ⟨m, rfl⟩ : ∃ x, m = x + 1 := ⟨m - 1, by omega⟩
    have hN := hK.2.1.1
    have g11 : τ 0 11 = ι T := by rw [hf 0 11 (by omega) (by omega) (by omega) (by omega)]; exact h11
    obtain ⟨p1, p2, p3⟩ := part_r (m := m) hn hb (frTt_TF hf h0) hT g11 h23 h31 (by omega) (show j < 3 by omega)
    show RESt T n N b σs τs (ob2 (f_X2_readPart σ (ι j) (-ι (20 + j))) (fun r σ' => if r = 0 then f_X2_read_b57 σ' else rdT c (j + 1) σ')) _
    obtain ⟨σ2, ⟨x1, x2, k', x3, x4, x5⟩ | ⟨x1, x2, k', o', y1, y2, y3, y4, y5, y6, y7, y8, y9, y10⟩⟩ := part_c hK.2.1 h5 h7 hk (by omega) (show j < 3 by omega)
    · have hK2 := KCt_fr hK (Or.inl x2)
      rw [x1, ob2_s, if_pos rfl, c_b57 hK2 x4 x3]
      have fin : ∀ τ', f_X9_text_b26 (m + 1) τ 1 (ι j) = f_X9_text_b26 m τ' 0 (ι (j + 1)) → τ' 0 24 = ι (pS b n k') → frTx T (qsL os j) j τ τ' → RESt T n N b σs τs (some (ι (pS b n k'), σ2)) (f_X9_text_b26 (m + 1) τ 1 (ι j)) := by
        intro τ' z1 z2 z3
        have f2 := frTt_tr hf (frTx_t z3)
        obtain ⟨τ3, w1, w2⟩ := r_fail (i := j + 1) (m := m) hT (by rw [f2 0 11 (by omega) (by omega) (by omega) (by omega)]; exact h11) z2 (by omega)
        rw [z1, w1]
        exact Or.inl ⟨k', σ2, τ3, x3, rfl, rfl, hK2.1, frTt_tr f2 w2⟩
      rcases x5 with ⟨a1, a2⟩ | ⟨a1, a2⟩
      · subst a2
        obtain ⟨τ', z1, z2, z3⟩ := p1 a1
        exact fin τ' z1 z2 z3
      · obtain ⟨τ', z1, z2, z3⟩ := p2 a1 k' a2
        exact fin τ' z1 z2 z3
    · obtain ⟨τ', z1, z2, z3, z4, z5, z6⟩ := p3 x2 k' o' y3
      rw [x1, ob2_s, if_neg (show ¬ (1 : Int32) = 0 by decide), z1]
      have ho : ∀ p, p < j → (fun p => if p = j then o' else os p) p = os p := fun p hp => if_neg (by omega)
      have hoj : (fun p => if p = j then o' else os p) j = o' := if_pos rfl
      generalize (fun p => if p = j then o' else os p) = os' at ho hoj
      have q0 : qsL os' j = qsL os j := qsL_eq j ho
      have q1 : qsL os' (j + 1) = qsL os j + o'.length := by
        show qsL os' j + (os' j).length = _
        rw [q0, hoj]
      refine ih (j + 1) k' m os' σ2 τ' (by omega) (by omega) (KCt_fr hK (Or.inr ⟨_, _, y8⟩)) (frTt_tr hf (frTx_t z6)) y5 (by rw [q1]; exact y6) y1 (by rw [q1]; omega) z2 (by rw [q1]; exact z3) (fun p hp => ?_)
      by_cases e : p = j
      · subst e
        refine ⟨by rw [q1]; exact y4, by rw [q0, hoj]; exact y7, by rw [q0]; exact z5, by rw [q0, hoj]; exact z4, by rw [hoj]; exact ⟨y9, y10⟩⟩
      · obtain ⟨j1, j2, j3, j4, j5⟩ := hJ p (by omega)
        have e1 : qsL os' p = qsL os p := qsL_eq p (fun i hi => ho i (by omega))
        have e2 : qsL os' (p + 1) = qsL os (p + 1) := qsL_eq (p + 1) (fun i hi => ho i (by omega))
        have e3 := ho p (by omega)
        have e4 := qsL_le (os := os) (p := p + 1) j (by omega)
        have e5 : qsL os (p + 1) = qsL os p + (os p).length := rfl
        rw [e1, e2, e3]
        refine ⟨by rw [y8 14 p (by omega) (by omega) (by omega)]; exact j1, LMq_fr _ (fun i _ hi => y8 13 i (by omega) (by omega) (by omega)) j2, by rw [z6 7 _ (by omega) (by omega) (by omega) (by omega)]; exact j3, LMq_fr _ (fun i _ hi => z6 6 i (by omega) (by omega) (by omega) (by omega)) j4, j5⟩
theorem t_text {n T : Nat} {b : Nat → Nat} {σ τ : Mem} (hn : n ≤ 160) (hb : ∀ j, j < n → b j ≤ 255) (hC : TC n b σ) (h0 : TF n b τ) (hT : T ≤ 5) (h11 : τ 0 11 = ι T) : ∃ N, RESt T n N b σ τ (f_X2_read σ) (f_X9_text τ) := by
  rw [read_rd]
  have hC1 : TC n b (ms σ 9 4 (0 : Int32)) := ⟨by rw [ms_off (by omega)]; exact hC.1, fun j hj => by rw [ms_off (by omega)]; exact hC.2 j hj⟩
  obtain ⟨N, σ2, s1, s2, s3, s4, s5⟩ := c_split hC1 hn hb n 0 0 0 FU (ms σ 9 4 (0 : Int32)) (by omega) (Nat.le_refl _) (Nat.le_refl _) (by unfold FU; omega) rfl (fun j hj => absurd hj (Nat.not_lt_zero j)) ⟨ms_at rfl rfl, fun j hj => absurd hj (Nat.not_lt_zero j), fun _ _ _ => rfl⟩
  have s1 : f_X2_splitTape σ = some σ2 := s1
  rw [s1, ob_s]
  obtain ⟨w1, w2, w3⟩ := s5
  have hK : KCt b n N σ (ms (ms σ2 9 5 (0 : Int32)) 9 7 (0 : Int32)) := by
    refine ⟨fun k j hs => ?_, ⟨by omega, by rw [ms_off (by omega), ms_off (by omega)]; exact w1, fun j hj => by rw [ms_off (by omega), ms_off (by omega)]; exact (w2 j (by omega)).1, fun j hj => ?_, ?_⟩, fun j hj => by rw [ms_off (by omega), ms_off (by omega)]; exact (w2 j (by omega)).2⟩
    · unfold sC at hs
      rw [ms_off (by omega), ms_off (by omega), w3 k j (by omega), ms_off (by omega)]
    · have h1 := s4 j hj
      have h2 := tk_ok (k := j) hb
      omega
    · have h2 := tk_ok (k := N) hb
      omega
  refine ⟨N, ?_⟩
  unfold f_X9_text
  rw [h11, if_neg (show ¬ ι T = (6 : Int32) by rw [show (6 : Int32) = ι 6 from rfl, eq_f (by omega) (by omega) (by omega)]; exact id)]
  exact t_part hn hb h0 hT h11 3 0 0 FU (fun _ => []) _ _ rfl (by unfold FU; omega) hK (fun a j a1 a2 a3 a4 => by rw [ms_off (by omega), ms_off (by omega)]) (by rw [ms_off (by omega), ms_at rfl rfl]; rfl) (ms_at rfl rfl) (Nat.zero_le _) (by show 0 + 2 * 0 ≤ 0; omega) (by rw [ms_off (by omega), ms_at rfl rfl]; rfl) (ms_at rfl rfl) (fun p hp => absurd hp (Nat.not_lt_zero p))
