/-! THE PURE PART: the parts of a text, read by both -/
def frP (σ σ' : Mem) : Prop := ∀ a j, ¬ (a = 9 ∧ (j = 5 ∨ j = 7)) → a ≠ 13 → a ≠ 14 → σ' a j = σ a j
theorem part_c {t : Nat → Nat} {N q k i : Nat} {σ : Mem} (hT : TTk t N σ) (h5 : σ 9 5 = ι k) (h7 : σ 9 7 = ι q) (hk : k ≤ N) (hq : q ≤ k) (hi : i < 3) :
    ∃ σ', (f_X2_readPart σ (ι i) (-ι (20 + i)) = some (0, σ') ∧ frP σ σ' ∧ ∃ k', k' ≤ N ∧ σ' 9 5 = ι k' ∧ ((t k ≠ 20020 + i ∧ k' = k) ∨ (t k = 20020 + i ∧ mach t FU true true (k + 1) [] [] = some (k', none)))) ∨
      (f_X2_readPart σ (ι i) (-ι (20 + i)) = some (1, σ') ∧ t k = 20020 + i ∧ ∃ k' o', k' ≤ N ∧ k + 2 + o'.length ≤ k' ∧ mach t FU true true (k + 1) [] [] = some (k', some o') ∧ σ' 14 i = ι (q + o'.length) ∧ σ' 9 5 = ι k' ∧ σ' 9 7 = ι (q + o'.length) ∧ LMq σ' 13 cc q o' ∧ (∀ a j, ¬ (a = 9 ∧ (j = 5 ∨ j = 7)) → ¬ (a = 13 ∧ q ≤ j) → ¬ (a = 14 ∧ j = i) → σ' a j = σ a j) ∧ wfL o' ∧ hgL o' = 1) := by
  have hN := hT.1
  have hf : frWk σ σ := fun _ _ _ _ => rfl
  have ht := TTk_ok hT hk
  unfold f_X2_readPart
  rw [c_skip hT hf h5 hk (by omega) (by omega)]
  by_cases c : t k = 20000 + (20 + i)
  · rw [if_pos c, ob2_s, if_neg (show ¬ (1 : Int32) = 0 by decide)]
    have eM : mM t (FU + (k + 1)) true true (k + 1) [] [] = mach t FU true true (k + 1) [] [] := by
      unfold mM
      rw [Nat.add_sub_cancel]
    have hP : PCm q (k + 1) [] σ (ms σ 9 5 (ι (k + 1))) := ⟨ms_at rfl rfl, by rw [ms_off (by omega)]; exact h7, trivial, fun a j a1 a2 => ms_off (by omega)⟩
    obtain ⟨σ2, ⟨x1, k', y1, y2, y3, y4⟩ | ⟨x1, k', o', S', o2, z1, z2, z3, z4, z5, z6, z7, z8, z9⟩⟩ := (cl_rec (q := q) (F := FU + (k + 1)) hT (by unfold FU; omega) 12 0 (by omega) (by omega)).2.2 true (k + 1) [] [] (ms σ 9 5 (ι (k + 1))) hP (by omega) (by show q + 0 ≤ k + 1; omega) rfl (by show 0 < 1; omega) rfl trivial (by show 0 + 26 + 5 ≤ 64 + 5 * 0; omega)
    · have x1 : f_X2_readOr_R (ms σ 9 5 (ι (k + 1))) (0 : Int32) = some (0, σ2) := x1
      rw [x1, ob2_s, if_pos rfl]
      rw [eM] at y4
      exact ⟨σ2, Or.inl ⟨rfl, fun a j a1 a2 _ => y3 a j a1 a2, k', y1, y2, Or.inr ⟨by omega, y4⟩⟩⟩
    · have x1 : f_X2_readOr_R (ms σ 9 5 (ι (k + 1))) (0 : Int32) = some (1, σ2) := x1
      have z4 : o'.length + (k + 1 + 1) ≤ 0 + 1 + k' := z4
      have z6 : unw 1 S' o2 = ([], o') := z6
      have z9 : hgL o' = 0 + 1 := z9
      rw [eM] at z5
      have ht' := TTk_ok hT z2
      rw [x1, ob2_s, if_neg (show ¬ (1 : Int32) = 0 by decide), show (-32 : Int32) = -ι 32 from rfl, c_skip hT (PCm_F z3) z3.1 z2 (by omega) (by omega)]
      by_cases c32 : t k' = 20000 + 32
      · rw [if_pos c32, ob2_s, if_neg (show ¬ (1 : Int32) = 0 by decide), L0, L3, if_neg (show ¬ ι i < ι 0 by rw [lt_f (by omega) (by omega)]; exact id), if_pos (show ι i < ι 3 by rw [lt_t hi (by omega)]; trivial), if_pos (inb_t hi (by omega)), ι_nat (by omega)]
        obtain ⟨w1, w2, w3, w4⟩ := z3
        refine ⟨_, Or.inr ⟨rfl, by omega, k' + 1, o', by omega, by omega, ?_, ?_, ?_, ?_, ?_, ?_, z8, z9⟩⟩
        · rw [z5, mMf (by unfold FU; omega), if_pos c32, z6, if_pos rfl]
        · rw [ms_at rfl rfl, ms_off (by omega)]; exact w2
        · rw [ms_off (by omega), ms_at rfl rfl]
        · rw [ms_off (by omega), ms_off (by omega)]; exact w2
        · exact LMq_fr _ (fun j _ _ => by rw [ms_off (by omega), ms_off (by omega)]) w3
        · intro a j a1 a2 a3
          rw [ms_off (by omega), ms_off (by omega)]
          exact w4 a j a1 a2
      · rw [if_neg c32, ob2_s, if_pos rfl]
        refine ⟨σ2, Or.inl ⟨rfl, fun a j a1 a2 _ => PCm_F z3 a j a1 a2, k', z2, z3.1, Or.inr ⟨by omega, ?_⟩⟩⟩
        obtain ⟨⟨⟨q1, q2⟩, q3⟩, q4⟩ := z7
        rw [z5]
        by_cases c12 : 20012 ≤ t k' ∧ t k' ≤ 20013
        · exact q2 c12.1 c12.2
        · rw [mMf (by unfold FU; omega), if_neg c32]
          by_cases c31 : t k' = 20031
          · rw [if_pos c31, z6, if_pos rfl]
          · rw [if_neg c31, if_neg (by omega)]
  · rw [if_neg c, ob2_s, if_pos rfl]
    exact ⟨σ, Or.inl ⟨rfl, fun _ _ _ _ _ => rfl, k, hk, h5, Or.inl ⟨by omega, rfl⟩⟩⟩
def frTx (T q i : Nat) (τ τ' : Mem) : Prop := ∀ a j, ¬ (a = 0 ∧ 23 ≤ j ∧ j ≤ 31) → a ≠ 14 → ¬ (a = 6 ∧ 200 * T + q ≤ j) → ¬ (a = 7 ∧ j = 4 * T + i) → τ' a j = τ a j
theorem part_r {n T q k i m : Nat} {b : Nat → Nat} {τ : Mem} (hn : n ≤ 160) (hb : ∀ j, j < n → b j ≤ 255) (h0 : TF n b τ) (hT : T ≤ 5) (h11 : τ 0 11 = ι T) (h23 : τ 0 23 = ι (pP b n k)) (h31 : τ 0 31 = ι q) (hq : q ≤ k) (hi : i < 3) :
    (tk b n k ≠ 20020 + i → ∃ τ', f_X9_text_b26 (m + 1) τ 1 (ι i) = f_X9_text_b26 m τ' 0 (ι (i + 1)) ∧ τ' 0 24 = ι (pS b n k) ∧ frTx T q i τ τ') ∧
    (tk b n k = 20020 + i → ∀ k', mach (tk b n) FU true true (k + 1) [] [] = some (k', none) → ∃ τ', f_X9_text_b26 (m + 1) τ 1 (ι i) = f_X9_text_b26 m τ' 0 (ι (i + 1)) ∧ τ' 0 24 = ι (pS b n k') ∧ frTx T q i τ τ') ∧
    (tk b n k = 20020 + i → ∀ k' o, mach (tk b n) FU true true (k + 1) [] [] = some (k', some o) → ∃ τ', f_X9_text_b26 (m + 1) τ 1 (ι i) = f_X9_text_b26 m τ' 1 (ι (i + 1)) ∧ τ' 0 23 = ι (pP b n k') ∧ τ' 0 31 = ι (q + o.length) ∧ LMq τ' 6 (fun t => cm (cc t)) (200 * T + q) o ∧ τ' 7 (4 * T + i) = ι q ∧ frTx T q i τ τ') := by
  obtain ⟨τ2, n1, n2, n3⟩ := r_next hn hb (pP_le k) h0 h23
  rw [← pS_pP] at n2
  obtain ⟨e24, e23, e25, -, -, e26⟩ := n2
  have e23 : τ2 0 23 = ι (pP b n (k + 1)) := e23
  have e25 : τ2 0 25 = kdv (tk b n k) := e25
  have e26 : 20020 ≤ tk b n k → tk b n k ≤ 20022 → τ2 0 26 = ι (tk b n k - 20020) := e26
  have hok := tk_ok (k := k) hb
  have e31 : τ2 0 31 = ι q := by rw [n3 0 31 (by omega)]; exact h31
  have e11 : τ2 0 11 = ι T := by rw [n3 0 11 (by omega)]; exact h11
  have ei : ι i + 1 = ι (i + 1) := by rw [L1, ι_add]
  have idx : (4 : Int32) * ι T + ι i = ι (4 * T + i) := by rw [show (4 : Int32) = ι 4 from rfl, ι_mul, ι_add]
  have ft : frTx T q i τ (ms τ2 7 (4 * T + i) (ι q)) := fun a j a1 a2 a3 a4 => by rw [ms_off (by omega), n3 a j (by omega)]
  rw [f_X9_text_b26, if_neg (show ¬ (3 : Int32) ≤ ι i by rw [L3, le_f hi (by omega)]; exact id), if_neg (show ¬ (1 : Int32) = 0 by decide), n1, ob_s]
  have no : f_X9_text_b59 (f_X9_text_b26 m) τ2 (ι i) = f_X9_text_b26 m (ms τ2 7 (4 * T + i) (ι q)) 0 (ι (i + 1)) := by
    unfold f_X9_text_b59 f_X9_text_b60 f_X9_text_b93 f_X9_text_b94
    rw [e11, idx, if_pos (inb_t (show 4 * T + i < 24 by omega) (by omega)), ι_nat (by omega), od_e, if_pos rfl, e31, ei]
  have ok : tk b n k = 20020 + i → f_X9_text_b60 (f_X9_text_b26 m) τ2 (ι i) (1 : Int32) = ob2 (f_X9_eRead (ms τ2 7 (4 * T + i) (ι q))) (fun r20 σ21 => (if r20 = 0 then (f_X9_text_b26 m σ21 0 (ι (i + 1))) else (f_X9_text_b26 m σ21 1 (ι (i + 1))))) := by
    intro _
    unfold f_X9_text_b60 f_X9_text_b93 f_X9_text_b94
    rw [e11, idx, if_pos (inb_t (show 4 * T + i < 24 by omega) (by omega)), ι_nat (by omega), od_e, if_neg (show ¬ (1 : Int32) = 0 by decide), e31, ei]
  have go : tk b n k = 20020 + i → ∀ res, mach (tk b n) FU true true (k + 1) [] [] = some res → ∃ r τ', f_X9_eRead (ms τ2 7 (4 * T + i) (ι q)) = some (r, τ') ∧ ∃ τ0, EOK n b T q τ0 res r τ' ∧ τ0 7 (4 * T + i) = ι q ∧ frTx T q i τ τ0 := by
    intro c res hm
    have hR : RCP T q [] [] (ms (ms (ms τ2 7 (4 * T + i) (ι q)) 0 29 (0 : Int32)) 0 30 (0 : Int32)) (ms (ms (ms τ2 7 (4 * T + i) (ι q)) 0 29 (0 : Int32)) 0 30 (0 : Int32)) := by
      refine ⟨by rw [ms_off (by omega), ms_at rfl rfl]; rfl, ms_at rfl rfl, ?_, trivial, trivial, fun _ _ _ _ _ => rfl⟩
      rw [ms_off (by omega), ms_off (by omega), ms_off (by omega)]
      exact e31
    have hF : TF n b (ms (ms (ms τ2 7 (4 * T + i) (ι q)) 0 29 (0 : Int32)) 0 30 (0 : Int32)) := by
      have h2 := TF_fr h0 n3
      exact ⟨⟨by rw [ms_off (by omega), ms_off (by omega), ms_off (by omega)]; exact h2.1.1, fun j hj => by rw [ms_off (by omega), ms_off (by omega), ms_off (by omega)]; exact h2.1.2 j hj⟩, fun j hj => by rw [ms_off (by omega), ms_off (by omega), ms_off (by omega)]; exact h2.2 j hj⟩
    obtain ⟨r, τ', w1, w2⟩ := r_mach (q := q) hn hb hF hT (by rw [ms_off (by omega), ms_off (by omega), ms_off (by omega)]; exact e11) FU true true (k + 1) [] [] (ms (ms (ms τ2 7 (4 * T + i) (ι q)) 0 29 (0 : Int32)) 0 30 (0 : Int32)) 1 1 res hm rfl (fun _ => rfl) (fun g hg => by cases hg) (by show q + 0 + 0 ≤ k + 1; omega) (by show 0 ≤ 5; omega) (by rw [ms_off (by omega), ms_off (by omega), ms_off (by omega)]; exact e23) hR
    refine ⟨r, τ', w1, _, w2, ?_, ?_⟩
    · rw [ms_off (by omega), ms_off (by omega), ms_at rfl rfl]
    · intro a j a1 a2 a3 a4
      rw [ms_off (by omega), ms_off (by omega)]
      exact ft a j a1 a2 a3 a4
  refine ⟨fun c => ?_, fun c k' hm => ?_, fun c k' o hm => ?_⟩
  · refine ⟨ms τ2 7 (4 * T + i) (ι q), ?_, by rw [ms_off (by omega)]; exact e24, ft⟩
    by_cases c3 : 20020 ≤ tk b n k ∧ tk b n k ≤ 20022
    · have e3 : kdv (tk b n k) = 3 := by
        rcases (by omega : tk b n k = 20020 ∨ tk b n k = 20021 ∨ tk b n k = 20022) with e | e | e
        · rw [e]; rfl
        · rw [e]; rfl
        · rw [e]; rfl
      rw [if_pos (show τ2 0 25 = (3 : Int32) by rw [e25, e3]), e26 c3.1 c3.2, if_neg (show ¬ ι (tk b n k - 20020) = ι i by rw [eq_f (by omega) (by omega) (by omega)]; exact id)]
      exact no
    · have e3 : ¬ kdv (tk b n k) = 3 := by
        by_cases g : tk b n k < 20000
        · unfold kdv
          rw [if_pos g]
          decide
        · have D : ∀ i, i < 42 → 1 ≤ i → ¬ (20 ≤ i ∧ i ≤ 22) → ¬ kdv (20000 + i) = 3 := by decide +kernel
          have := D (tk b n k - 20000) (by omega) (by omega) (by omega)
          rw [show 20000 + (tk b n k - 20000) = tk b n k by omega] at this
          exact this
      rw [if_neg (show ¬ τ2 0 25 = (3 : Int32) by rw [e25]; exact e3)]
      exact no
  · obtain ⟨r, τ', w1, τ0, w2, w3, w4⟩ := go c _ hm
    obtain ⟨y1, y2, y3⟩ := w2
    have e3 : kdv (tk b n k) = 3 := by
      rcases (by omega : i = 0 ∨ i = 1 ∨ i = 2) with e | e | e
      · rw [c, e]; rfl
      · rw [c, e]; rfl
      · rw [c, e]; rfl
    rw [if_pos (show τ2 0 25 = (3 : Int32) by rw [e25, e3]), e26 (by omega) (by omega), if_pos (show ι (tk b n k - 20020) = ι i by rw [show tk b n k - 20020 = i by omega]), ok c, w1, ob2_s, if_pos y1]
    exact ⟨τ', rfl, y2, fun a j a1 a2 a3 a4 => by rw [y3 a j a1 a2 a3, w4 a j a1 a2 a3 a4]⟩
  · obtain ⟨r, τ', w1, τ0, w2, w3, w4⟩ := go c _ hm
    obtain ⟨y1, y2, y3⟩ := w2
    have e3 : kdv (tk b n k) = 3 := by
      rcases (by omega : i = 0 ∨ i = 1 ∨ i = 2) with e | e | e
      · rw [c, e]; rfl
      · rw [c, e]; rfl
      · rw [c, e]; rfl
    rw [if_pos (show τ2 0 25 = (3 : Int32) by rw [e25, e3]), e26 (by omega) (by omega), if_pos (show ι (tk b n k - 20020) = ι i by rw [show tk b n k - 20020 = i by omega]), ok c, w1, ob2_s, if_neg (show ¬ r = 0 by rw [y1]; decide)]
    obtain ⟨v1, v2, v3, v4, v5, v6⟩ := y3
    exact ⟨τ', rfl, y2, v3, v5, by rw [v6 7 _ (by omega) (by omega) (by omega)]; exact w3, fun a j a1 a2 a3 a4 => by rw [v6 a j a1 a2 a3, w4 a j a1 a2 a3 a4]⟩
