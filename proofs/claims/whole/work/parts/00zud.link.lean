/-! THE PURE PART: the reference's eRead is the machine -/
def pP (b : Nat → Nat) (n : Nat) : Nat → Nat
  | 0 => 0
  | k + 1 => tE b n (pS b n k)
theorem pS_pP {b : Nat → Nat} {n : Nat} : ∀ k, pS b n k = skB b n (pP b n k)
  | 0 => rfl
  | _ + 1 => rfl
theorem tE_le {b : Nat → Nat} {n p : Nat} (h : p ≤ n) : tE b n p ≤ n := by
  by_cases c : p < n
  · exact (tE_b c).2
  · rw [show p = n by omega, tE_n]; exact Nat.le_refl n
theorem pP_le {b : Nat → Nat} {n : Nat} : ∀ k, pP b n k ≤ n
  | 0 => Nat.zero_le _
  | k + 1 => tE_le (pS_le k)
theorem pS_ge {b : Nat → Nat} {n : Nat} : ∀ k, pS b n k < n → k ≤ pS b n k
  | 0, _ => Nat.zero_le _
  | k + 1, h => by
    have e : pS b n (k + 1) = skB b n (tE b n (pS b n k)) := rfl
    have hl := pS_le (b := b) (n := n) k
    by_cases c : pS b n k < n
    · have h1 := pS_ge k c
      have h2 := (tE_b (b := b) c).1
      have h3 := (skB_b (b := b) (tE_le (b := b) hl)).1
      omega
    · rw [e, show pS b n k = n by omega, tE_n, skB_n] at h
      omega
theorem tC_ok {b : Nat → Nat} {n p : Nat} (hb : ∀ j, j < n → b j ≤ 255) (hp : p < n) : tC b n p ≤ 9999 ∨ (20001 ≤ tC b n p ∧ tC b n p ≤ 20006) ∨ (20010 ≤ tC b n p ∧ tC b n p ≤ 20017) ∨ (20020 ≤ tC b n p ∧ tC b n p ≤ 20022) ∨ (20030 ≤ tC b n p ∧ tC b n p ≤ 20032) ∨ tC b n p = 20040 := by
  by_cases c : ltr (b p) = true
  · rw [tC_ltr hp c]
    have hk := wk_le (b := b) (p := p) (e := tE b n p)
    have D : ∀ k, k < 13 → (20001 ≤ wcd k ∧ wcd k ≤ 20006) ∨ (20010 ≤ wcd k ∧ wcd k ≤ 20017) ∨ (20020 ≤ wcd k ∧ wcd k ≤ 20022) ∨ wcd k = 20040 := by decide +kernel
    have := D (wkN b p (tE b n p)) (by omega)
    omega
  · by_cases g : dgt (b p) = true
    · rw [tC_dgt hp c g]
      by_cases w : tE b n p - p ≤ 4
      · rw [if_pos w]
        refine Or.inl (num_4 w (fun j h1 h2 => ?_))
        have e := tE_dgt hp c g
        rw [e] at h2
        have e1 := (run_le (P := dgt) (b := b) (n - p) p).1
        exact run_all (P := dgt) (b := b) (n - p) p j h1 (by omega)
      · rw [if_neg w]; omega
    · rw [tC_sg hp c g]
      have D : ∀ x, x < 256 → (20012 ≤ sg x ∧ sg x ≤ 20016) ∨ (20030 ≤ sg x ∧ sg x ≤ 20032) ∨ sg x = 20040 := by decide +kernel
      have := D (b p) (by have := hb p hp; omega)
      omega
theorem tk_ok {b : Nat → Nat} {n k : Nat} (hb : ∀ j, j < n → b j ≤ 255) : (k < n ∧ pS b n k < n ∧ (tk b n k ≤ 9999 ∨ (20001 ≤ tk b n k ∧ tk b n k ≤ 20006) ∨ (20010 ≤ tk b n k ∧ tk b n k ≤ 20017) ∨ (20020 ≤ tk b n k ∧ tk b n k ≤ 20022) ∨ (20030 ≤ tk b n k ∧ tk b n k ≤ 20032) ∨ tk b n k = 20040)) ∨ (pS b n k = n ∧ tk b n k = 20041) := by
  by_cases c : pS b n k < n
  · have := pS_ge k c
    exact Or.inl ⟨by omega, c, tC_ok hb c⟩
  · have := pS_le (b := b) (n := n) k
    refine Or.inr ⟨by omega, ?_⟩
    unfold tk tC
    rw [if_pos (by omega)]
/-- how a reading ends -/
def EOK (n : Nat) (b : Nat → Nat) (T q : Nat) (τ0 : Mem) (res : Nat × Option (List Nat)) (r : Int32) (τ' : Mem) : Prop := match res.2 with
  | none => r = 0 ∧ τ' 0 24 = ι (pS b n res.1) ∧ frR T q τ0 τ'
  | some o => r = 1 ∧ τ' 0 23 = ι (pP b n res.1) ∧ RCP T q [] o τ0 τ'
theorem EOK_no {n k T q : Nat} {b : Nat → Nat} {τ0 τ' : Mem} {res : Nat × Option (List Nat)} {x : Option (Int32 × Mem)} (hx : x = some (0, τ')) (hr : (some (k, none) : Option (Nat × Option (List Nat))) = some res) (h24 : τ' 0 24 = ι (pS b n k)) (hf : frR T q τ0 τ') : ∃ r τ', x = some (r, τ') ∧ EOK n b T q τ0 res r τ' := by
  cases hr
  exact ⟨0, τ', hx, rfl, h24, hf⟩
theorem r_unwF {T q r : Nat} {τ0 τ : Mem} {S o : List Nat} (hT : T ≤ 5) (h11 : τ0 0 11 = ι T) (hr : 1 ≤ r) (hr9 : r ≤ 9) (hg : ∀ g, g ∈ S → okG g) (hz : q + S.length + o.length < 200) (h : RCP T q S o τ0 τ) : ∃ τ', f_X9_unwinds τ (ι r) = some τ' ∧ RCP T q (unw r S o).1 (unw r S o).2 τ0 τ' ∧ ∀ j, j ≤ 28 → τ' 0 j = τ 0 j :=
  r_unw hT h11 hr hr9 S o FU τ (by unfold FU; omega) hg hz h
theorem rkS_le {g : Nat} (h : okG g) : rkS g ≤ 7 := by
  have D : ∀ g, g < 19 → rkS g ≤ 7 := by decide +kernel
  unfold okG at h
  exact D g (by omega)
theorem r_between {T q g : Nat} {τ0 τ : Mem} {S o : List Nat} (hT : T ≤ 5) (h11 : τ0 0 11 = ι T) (h1 : 10 ≤ g) (h2 : g ≤ 16) (hg : ∀ g, g ∈ S → okG g) (hz : q + S.length + o.length < 199) (h : RCP T q S o τ0 τ) :
    (rkS g = 4 ∧ topR (unw (urS g) S o).1 = 4 → ∃ τ', f_X9_between τ (ι (smG g)) = some (0, τ') ∧ frR T q τ0 τ' ∧ ∀ j, j ≤ 28 → τ' 0 j = τ 0 j) ∧
    (¬ (rkS g = 4 ∧ topR (unw (urS g) S o).1 = 4) → ∃ τ', f_X9_between τ (ι (smG g)) = some (1, τ') ∧ RCP T q (g :: (unw (urS g) S o).1) (unw (urS g) S o).2 τ0 τ' ∧ ∀ j, j ≤ 28 → τ' 0 j = τ 0 j) := by
  have hog : okG g := Or.inr ⟨h1, by omega⟩
  have D : ∀ g, g < 17 → 10 ≤ g → 1 ≤ urS g ∧ urS g ≤ 9 := by decide +kernel
  obtain ⟨u1, u2⟩ := D g (by omega) h1
  obtain ⟨τ1, w1, w2, w3⟩ := r_unwF hT h11 u1 u2 hg (by omega) h
  have hl := unw_len (r := urS g) S o
  have hm := unw_mem (r := urS g) (P := okG) S o hg
  obtain ⟨τ2, p1, p2, p3⟩ := r_holds (g := g) w2 (by omega) (by omega)
  have hold1 : ob (f_X9_holds τ1 (ι (smG g))) (fun σ6 => some ((1 : Int32), σ6)) = some (1, τ2) := by rw [p1]; rfl
  have eb : f_X9_between τ (ι (smG g)) = f_X9_between_b17 τ (ι (smG g)) (ι (urS g)) := by
    unfold f_X9_between urS
    rw [rank_r hog, show (4 : Int32) = ι 4 from rfl, show (5 : Int32) = ι 5 from rfl]
    have := rkS_le hog
    by_cases c : rkS g = 4
    · rw [if_pos (by rw [c]), if_pos c]
    · rw [if_neg (show ¬ ι (rkS g) = ι 4 by rw [eq_f c (by omega) (by omega)]; exact id), if_neg c]
  rw [eb]
  unfold f_X9_between_b17
  rw [w1, ob_s, rank_r hog, w2.1, hold1]
  generalize unw (urS g) S o = x at w2 hl hm p2
  obtain ⟨S1, o1⟩ := x
  have rg := rkS_le hog
  by_cases c : rkS g = 4
  · rw [if_pos (show ι (rkS g) = (4 : Int32) by rw [c]; rfl)]
    cases S1 with
    | nil =>
      rw [if_pos (show ι ([] : List Nat).length ≤ 0 by decide)]
      exact ⟨fun h => absurd h.2 (by show ¬ (0 : Nat) = 4; decide), fun _ => ⟨τ2, rfl, p2, fun j hj => by rw [p3 j hj, w3 j hj]⟩⟩
    | cons y S2 =>
      have el : (y :: S2).length = S2.length + 1 := rfl
      have hS2 : S2.length < 200 := by
        have : (y :: S2).length + o1.length = S.length + o.length := hl
        omega
      have hy := hm y (List.mem_cons_self)
      have ry := rkS_le hy
      have hat : τ1 14 S2.length = ι (smG y) := by
        have := w2.2.2.2.1.1
        rw [Nat.zero_add] at this
        exact this
      rw [el, L0, L1, if_neg (show ¬ ι (S2.length + 1) ≤ ι 0 by rw [le_f (by omega) (by omega)]; exact id), ι_sub (by omega) (by omega), show S2.length + 1 - 1 = S2.length by omega, if_pos (inb_t hS2 (by omega)), ι_nat (by omega), hat, rank_r hy]
      by_cases e : rkS y = 4
      · rw [if_pos (show ι (rkS y) = (4 : Int32) by rw [e]; rfl)]
        exact ⟨fun _ => ⟨τ1, rfl, w2.2.2.2.2.2, w3⟩, fun h => absurd ⟨c, e⟩ h⟩
      · rw [if_neg (show ¬ ι (rkS y) = (4 : Int32) by rw [show (4 : Int32) = ι 4 from rfl, eq_f e (by omega) (by omega)]; exact id)]
        exact ⟨fun h => absurd h.2 e, fun _ => ⟨τ2, rfl, p2, fun j hj => by rw [p3 j hj, w3 j hj]⟩⟩
  · rw [if_neg (show ¬ ι (rkS g) = (4 : Int32) by rw [show (4 : Int32) = ι 4 from rfl, eq_f c (by omega) (by omega)]; exact id)]
    exact ⟨fun h => absurd h.1 c, fun _ => ⟨τ2, rfl, p2, fun j hj => by rw [p3 j hj, w3 j hj]⟩⟩
theorem r_signOf {σ : Mem} {t : Nat} (h : σ 0 25 = kdv t) (ht : t < 20000 ∨ (20001 ≤ t ∧ t ≤ 20041)) : f_X9_signOf σ = if 20010 ≤ t ∧ t ≤ 20016 then ι (smG (t - 20000)) else -1 := by
  unfold f_X9_signOf
  rw [h]
  by_cases c : t < 20000
  · have : kdv t = 1 := by unfold kdv; rw [if_pos c]
    rw [this, if_neg (show ¬ (20010 ≤ t ∧ t ≤ 20016) by omega)]
    decide +kernel
  · have D : ∀ i, i < 42 → 1 ≤ i → (if kdv (20000 + i) = (4 : Int32) then (11 : Int32) else (if kdv (20000 + i) = (5 : Int32) then (12 : Int32) else (if kdv (20000 + i) = (60 : Int32) then (14 : Int32) else (if kdv (20000 + i) = (61 : Int32) then (15 : Int32) else (if kdv (20000 + i) = (43 : Int32) then (16 : Int32) else (if kdv (20000 + i) = (45 : Int32) then (17 : Int32) else (if kdv (20000 + i) = (42 : Int32) then (18 : Int32) else (-1 : Int32)))))))) = if 20010 ≤ 20000 + i ∧ 20000 + i ≤ 20016 then ι (smG (20000 + i - 20000)) else -1 := by decide +kernel
    have := D (t - 20000) (by omega) (by omega)
    rw [show 20000 + (t - 20000) = t by omega] at this
    exact this
theorem r_mach {n T q : Nat} {b : Nat → Nat} {τ0 : Mem} (hn : n ≤ 160) (hb : ∀ j, j < n → b j ≤ 255) (h0 : TF n b τ0) (hT : T ≤ 5) (h11 : τ0 0 11 = ι T) : ∀ d (w m : Bool) k S o τ (v1 v2 : Int32) res, mach (tk b n) d w m k S o = some res → (v1 = if w = true then 1 else 0) → (w = true → v2 = if m = true then 1 else 0) → (∀ g, g ∈ S → okG g) → q + S.length + o.length ≤ k → nopS S ≤ 5 → τ 0 23 = ι (pP b n k) → RCP T q S o τ0 τ →
    ∃ r τ', f_X9_eRead_b14 d τ v1 v2 = some (r, τ') ∧ EOK n b T q τ0 res r τ' := by
  intro d
  induction d with
  | zero => intro w m k S o τ v1 v2 res hm; cases hm
  | succ d ih =>
    intro w m k S o τ v1 v2 res hm hv1 hv2 hg hz h5 h23 hR
    have hF : TF n b τ := by
      have f := hR.2.2.2.2.2
      exact ⟨⟨by rw [f 0 8 (by omega) (by omega) (by omega)]; exact h0.1.1, fun j hj => by rw [f 5 j (by omega) (by omega) (by omega)]; exact h0.1.2 j hj⟩, fun j hj => by rw [f 13 j (by omega) (by omega) (by omega)]; exact h0.2 j hj⟩
    obtain ⟨τ2, n1, n2, n3⟩ := r_next hn hb (pP_le k) hF h23
    rw [← pS_pP] at n2
    obtain ⟨e24, e23, e25, e26a, e26b, -⟩ := n2
    have e23 : τ2 0 23 = ι (pP b n (k + 1)) := e23
    have e25 : τ2 0 25 = kdv (tk b n k) := e25
    have e26a : tk b n k < 20000 → τ2 0 26 = ι (tk b n k) := e26a
    have e26b : 20001 ≤ tk b n k → tk b n k ≤ 20006 → τ2 0 26 = ι (tk b n k - 20001) := e26b
    have hR2 : RCP T q S o τ0 τ2 := RCP_eq hR (fun a j hj => n3 a j (by omega))
    have hok := tk_ok (k := k) hb
    have hsg := r_signOf e25 (by omega)
    rw [f_X9_eRead_b14, n1, ob_s]
    generalize htk : tk b n k = t at *
    cases w with
    | false =>
      have hv1 : v1 = 0 := by simpa using hv1
      rw [if_pos hv1]
      rw [mach, htk] at hm
      by_cases t1 : t = 20032
      · subst t1
        rw [if_pos rfl] at hm
        have hk : k < n := by omega
        obtain ⟨τ3, u1, u2, u3⟩ := r_unwF (r := 1) hT h11 (by omega) (by omega) hg (by omega) hR2
        rw [if_pos (show τ2 0 25 = (59 : Int32) from e25), show f_X9_unwinds τ2 (1 : Int32) = some τ3 from u1, ob_s, u2.1]
        have hl := unw_len (r := 1) S o
        by_cases c : (unw 1 S o).1 = []
        · rw [if_pos c] at hm
          cases hm
          rw [c] at u2 ⊢
          rw [if_pos (show ι ([] : List Nat).length = 0 from rfl)]
          exact ⟨1, τ3, rfl, rfl, by rw [u3 23 (by omega)]; exact e23, u2⟩
        · rw [if_neg c] at hm
          rw [if_neg (show ¬ ι (unw 1 S o).1.length = 0 by
            rw [L0, eq_f (fun h => c (List.length_eq_zero_iff.mp h)) (by omega) (by omega)]; exact id)]
          exact EOK_no rfl hm (by rw [u3 24 (by omega)]; exact e24) u2.2.2.2.2.2
      · rw [if_neg t1] at hm
        by_cases t2 : t = 20031
        · subst t2
          rw [if_pos rfl] at hm
          have hk : k < n := by omega
          obtain ⟨τ3, u1, u2, u3⟩ := r_unwF (r := 1) hT h11 (by omega) (by omega) hg (by omega) hR2
          have e25' : τ2 0 25 = (41 : Int32) := e25
          rw [if_neg (show ¬ τ2 0 25 = (59 : Int32) by rw [e25']; decide), if_pos e25', show f_X9_unwinds τ2 (1 : Int32) = some τ3 from u1, ob_s, u2.1]
          have hl := unw_len (r := 1) S o
          have hmm := unw_mem (r := 1) (P := okG) S o hg
          have htop := unw_top (r := 1) S o
          have hnp := unw_nop (r := 1) S o
          generalize unw 1 S o = x at u2 hl hmm htop hnp hm
          obtain ⟨S1, o1⟩ := x
          cases S1 with
          | nil =>
            rw [if_pos rfl] at hm
            rw [if_pos (show ι ([] : List Nat).length = 0 from rfl)]
            exact EOK_no rfl hm (by rw [u3 24 (by omega)]; exact e24) u2.2.2.2.2.2
          | cons g S1 =>
            have el : (g :: S1).length = S1.length + 1 := rfl
            have hl : S1.length + 1 + o1.length = S.length + o.length := hl
            rw [if_neg (by simp)] at hm
            have g0 : g = 0 := by
              have h1 := hmm g (List.mem_cons_self)
              rcases htop with h | h
              · cases h
              · have D : ∀ g, g < 19 → 10 ≤ g → 1 ≤ rkS g := by decide +kernel
                unfold okG at h1
                by_cases e : g = 0
                · exact e
                · have := D g (by omega) (by omega)
                  have h : rkS g < 1 := h
                  omega
            subst g0
            have en : nopS (0 :: S1) = nopS S1 + 1 := rfl
            have hnp : nopS S1 + 1 ≤ nopS S := hnp
            rw [if_neg (show ¬ ι (0 :: S1).length = 0 by rw [el, L0, eq_f (by omega) (by omega) (by omega)]; exact id), od_e]
            obtain ⟨y1, y2, y3, y4, y5, y6⟩ := u2
            have hR4 : RCP T q S1 o1 τ0 (ms (ms τ3 0 29 (ι (0 :: S1).length - 1)) 0 30 ((ms τ3 0 29 (ι (0 :: S1).length - 1)) 0 30 - 1)) := by
              refine ⟨?_, ?_, by rw [ms_off (by omega), ms_off (by omega)]; exact y3, LMq_fr _ (fun j _ _ => by rw [ms_off (by omega), ms_off (by omega)]) y4.2, LMq_fr _ (fun j _ _ => by rw [ms_off (by omega), ms_off (by omega)]) y5, fun a j a1 a2 a3 => ?_⟩
              · rw [ms_off (by omega), ms_at rfl rfl, el, L1, ι_sub (by omega) (by omega)]
                rfl
              · rw [ms_at rfl rfl, ms_off (by omega), y2, en, L1, ι_sub (by omega) (by omega)]
                rfl
              · rw [ms_off (by omega), ms_off (by omega)]
                exact y6 a j a1 a2 a3
            have h4f : ∀ j, j ≤ 28 → (ms (ms τ3 0 29 (ι (0 :: S1).length - 1)) 0 30 ((ms τ3 0 29 (ι (0 :: S1).length - 1)) 0 30 - 1)) 0 j = τ3 0 j := fun j hj => by rw [ms_off (by omega), ms_off (by omega)]
            obtain ⟨τ5, z1, z2, z3⟩ := r_unwF (r := 7) hT h11 (by omega) (by omega) (fun g hg => hmm g (List.mem_cons_of_mem _ hg)) (by omega) hR4
            rw [show f_X9_unwinds _ (7 : Int32) = some τ5 from z1, ob_s]
            have hl2 := unw_len (r := 7) S1 o1
            have hnp2 := unw_nop (r := 7) S1 o1
            refine ih false false (k + 1) _ _ τ5 v1 v2 res hm (by rw [hv1]; rfl) (fun h => by cases h) (unw_mem S1 o1 (fun g hg => hmm g (List.mem_cons_of_mem _ hg))) (by show q + (unw 7 S1 o1).1.length + (unw 7 S1 o1).2.length ≤ k + 1; omega) (by show nopS (unw 7 S1 o1).1 ≤ 5; omega) ?_ z2
            rw [z3 23 (by omega), h4f 23 (by omega), u3 23 (by omega)]
            exact e23
        · rw [if_neg t2] at hm
          have K : ∀ i, i < 42 → 1 ≤ i → i ≠ 32 → i ≠ 31 → ¬ kdv (20000 + i) = (59 : Int32) ∧ ¬ kdv (20000 + i) = (41 : Int32) := by decide +kernel
          have K2 : ¬ kdv t = (59 : Int32) ∧ ¬ kdv t = (41 : Int32) := by
            by_cases c : t < 20000
            · have : kdv t = 1 := by unfold kdv; rw [if_pos c]
              rw [this]
              decide
            · have := K (t - 20000) (by omega) (by omega) (by omega) (by omega)
              rw [show 20000 + (t - 20000) = t by omega] at this
              exact this
          rw [if_neg (show ¬ τ2 0 25 = (59 : Int32) by rw [e25]; exact K2.1), if_neg (show ¬ τ2 0 25 = (41 : Int32) by rw [e25]; exact K2.2), hsg]
          by_cases t3 : 20010 ≤ t ∧ t ≤ 20016
          · rw [if_pos t3] at hm ⊢
            have hk : k < n := by omega
            have N1 : ∀ g, g < 17 → 10 ≤ g → ¬ ι (smG g) = (-1 : Int32) := by decide +kernel
            rw [if_neg (N1 (t - 20000) (by omega) (by omega))]
            obtain ⟨b1, b2⟩ := r_between (g := t - 20000) hT h11 (by omega) (by omega) hg (by omega) hR2
            by_cases c : rkS (t - 20000) = 4 ∧ topR (unw (urS (t - 20000)) S o).1 = 4
            · rw [if_pos c] at hm
              obtain ⟨τ3, p1, p2, p3⟩ := b1 c
              rw [p1, ob2_s, if_pos rfl]
              exact EOK_no rfl hm (by rw [p3 24 (by omega)]; exact e24) p2
            · rw [if_neg c] at hm
              obtain ⟨τ3, p1, p2, p3⟩ := b2 c
              rw [p1, ob2_s, if_neg (show ¬ (1 : Int32) = 0 by decide)]
              unfold f_X9_eRead_b262
              have hl := unw_len (r := urS (t - 20000)) S o
              have hmm := unw_mem (r := urS (t - 20000)) (P := okG) S o hg
              have hnp := unw_nop (r := urS (t - 20000)) S o
              have go : ∀ v2 : Int32, (v2 = if decide (t ≤ 20011) = true then 1 else 0) → ∃ r τ', f_X9_eRead_b14 d τ3 (1 : Int32) v2 = some (r, τ') ∧ EOK n b T q τ0 res r τ' := by
                intro v2 hv
                refine ih true _ (k + 1) _ _ τ3 1 v2 res hm rfl (fun _ => hv) ?_ ?_ ?_ ?_ p2
                · intro g hgm
                  rcases List.mem_cons.mp hgm with h | h
                  · rw [h]; exact Or.inr ⟨by omega, by omega⟩
                  · exact hmm g h
                · show q + ((unw (urS (t - 20000)) S o).1.length + 1) + (unw (urS (t - 20000)) S o).2.length ≤ k + 1
                  omega
                · show nopS (unw (urS (t - 20000)) S o).1 + (if t - 20000 = 0 ∨ t - 20000 = 17 ∨ t - 20000 = 18 then 1 else 0) ≤ 5
                  rw [if_neg (by omega)]
                  omega
                · rw [p3 23 (by omega)]
                  exact e23
              have N2 : ∀ g, g < 17 → 10 ≤ g → ((12 : Int32) < ι (smG g) ↔ ¬ g ≤ 11) := by decide +kernel
              have N2 := N2 (t - 20000) (by omega) (by omega)
              by_cases e : t ≤ 20011
              · rw [if_neg (show ¬ (12 : Int32) < ι (smG (t - 20000)) by rw [N2]; omega)]
                exact go 1 (by rw [decide_eq_true e]; rfl)
              · rw [if_pos (show (12 : Int32) < ι (smG (t - 20000)) by rw [N2]; omega)]
                exact go 0 (by rw [decide_eq_false e]; rfl)
          · rw [if_neg t3] at hm ⊢
            rw [if_pos rfl]
            exact EOK_no rfl hm e24 hR2.2.2.2.2.2
    | true =>
      have hv1 : v1 = 1 := by simpa using hv1
      have hv2 := hv2 rfl
      rw [if_neg (show ¬ v1 = 0 by rw [hv1]; decide)]
      rw [mach, htk] at hm
      by_cases t1 : t < 20007
      · rw [if_pos t1] at hm
        have hk : k < n := by omega
        obtain ⟨τ3, p1, p2, p3⟩ := RCP_put (t := t) hT (show τ2 0 11 = ι T by rw [hR2.2.2.2.2.2 0 11 (by omega) (by omega) (by omega)]; exact h11) hR2 (by omega)
        obtain ⟨τ4, z1, z2, z3⟩ := r_unwF (r := 7) hT h11 (by omega) (by omega) hg (by show q + S.length + (o.length + 1) < 200; omega) p2
        have hl := unw_len (r := 7) S (t :: o)
        have hl : (unw 7 S (t :: o)).1.length + (unw 7 S (t :: o)).2.length = S.length + (o.length + 1) := hl
        have hnp := unw_nop (r := 7) S (t :: o)
        have fin : ∃ r τ', f_X9_eRead_b14 d τ4 0 v2 = some (r, τ') ∧ EOK n b T q τ0 res r τ' := by
          refine ih false false (k + 1) _ _ τ4 0 v2 res hm rfl (fun h => by cases h) (unw_mem S _ hg) (by omega) (by omega) ?_ z2
          rw [z3 23 (by omega), p3 23 (by omega)]
          exact e23
        have b61 : f_X9_eRead_b61 (f_X9_eRead_b14 d) τ2 v2 (cm (cc t)) = f_X9_eRead_b14 d τ4 0 v2 := by
          unfold f_X9_eRead_b61
          rw [p1, ob_s, show f_X9_unwinds τ3 (7 : Int32) = some τ4 from z1, ob_s]
        by_cases c : t < 20000
        · have k1 : kdv t = 1 := by unfold kdv; rw [if_pos c]
          have e : cm (cc t) = (100000 : Int32) + τ2 0 26 := by
            rw [e26a c]
            unfold cc
            rw [if_pos c, cm_n (by omega), L100000, ι_add]
          rw [if_pos (show τ2 0 25 = (1 : Int32) by rw [e25, k1])]
          unfold f_X9_eRead_b38
          rw [if_pos (show τ2 0 25 = (1 : Int32) by rw [e25, k1]), ← e, b61]
          exact fin
        · have k2 : kdv t = 2 := by unfold kdv; rw [if_neg c, if_pos t1]
          have e : cm (cc t) = τ2 0 26 := by
            rw [e26b (by omega) (by omega)]
            unfold cc
            rw [if_neg c, cm_m (by omega) (by omega), show t - 20000 - 1 = t - 20001 by omega]
          rw [if_neg (show ¬ τ2 0 25 = (1 : Int32) by rw [e25, k2]; decide), if_pos (show τ2 0 25 = (2 : Int32) by rw [e25, k2])]
          unfold f_X9_eRead_b38
          rw [if_neg (show ¬ τ2 0 25 = (1 : Int32) by rw [e25, k2]; decide), ← e, b61]
          exact fin
      · rw [if_neg t1] at hm
        have K : ∀ i, i < 42 → 7 ≤ i → ¬ kdv (20000 + i) = (1 : Int32) ∧ ¬ kdv (20000 + i) = (2 : Int32) ∧ (i ≠ 17 → ¬ kdv (20000 + i) = (6 : Int32)) ∧ (i ≠ 15 → ¬ kdv (20000 + i) = (45 : Int32)) ∧ (i ≠ 30 → ¬ kdv (20000 + i) = (40 : Int32)) := by decide +kernel
        obtain ⟨K1, K2, K3, K4, K5⟩ := K (t - 20000) (by omega) (by omega)
        rw [show 20000 + (t - 20000) = t by omega] at K1 K2 K3 K4 K5
        rw [if_neg (show ¬ τ2 0 25 = (1 : Int32) by rw [e25]; exact K1), if_neg (show ¬ τ2 0 25 = (2 : Int32) by rw [e25]; exact K2)]
        -- pushing one that is open
        have push : ∀ (g : Nat) (m' : Bool) (v2' : Int32), k < n → (g = 0 ∨ g = 17 ∨ g = 18) → (v2' = if m' = true then 1 else 0) → (if nopS S = 5 then some (k, none) else mach (tk b n) d true m' (k + 1) (g :: S) o) = some res → ∃ r τ', ob2 (f_X9_opensOne τ2 (ι (smG g))) (fun r41 σ42 => (if r41 = 0 then some ((0 : Int32), σ42) else (f_X9_eRead_b14 d σ42 v1 v2'))) = some (r, τ') ∧ EOK n b T q τ0 res r τ' := by
          intro g m' v2' hk hgg hv hm
          obtain ⟨o1, o2⟩ := r_opens (g := g) hR2 (by omega) h5 hgg
          by_cases c : nopS S = 5
          · rw [if_pos c] at hm
            rw [o1 c, ob2_s, if_pos rfl]
            exact EOK_no rfl hm e24 hR2.2.2.2.2.2
          · rw [if_neg c] at hm
            obtain ⟨τ3, p1, p2, p3⟩ := o2 c
            rw [p1, ob2_s, if_neg (show ¬ (1 : Int32) = 0 by decide)]
            refine ih true m' (k + 1) (g :: S) o τ3 v1 v2' res hm (by rw [hv1]; rfl) (fun _ => hv) ?_ (by show q + (S.length + 1) + o.length ≤ k + 1; omega) ?_ ?_ p2
            · intro x hx
              rcases List.mem_cons.mp hx with h | h
              · rw [h]; unfold okG; omega
              · exact hg x h
            · show nopS S + (if g = 0 ∨ g = 17 ∨ g = 18 then 1 else 0) ≤ 5
              rw [if_pos hgg]
              omega
            · rw [p3 23 (by omega)]
              exact e23
        have rest : ¬ (t = 20017 ∧ m = true) → ∃ r τ', f_X9_eRead_b99 (f_X9_eRead_b14 d) τ2 v1 = some (r, τ') ∧ EOK n b T q τ0 res r τ' := by
          intro hnm
          rw [if_neg hnm] at hm
          unfold f_X9_eRead_b99
          by_cases t3 : t = 20015
          · subst t3
            rw [if_pos rfl] at hm
            rw [if_pos (show τ2 0 25 = (45 : Int32) from e25)]
            exact push 18 false 0 (by omega) (by omega) rfl hm
          · rw [if_neg t3] at hm
            rw [if_neg (show ¬ τ2 0 25 = (45 : Int32) by rw [e25]; exact K4 (by omega))]
            by_cases t4 : t = 20030
            · subst t4
              rw [if_pos rfl] at hm
              rw [if_pos (show τ2 0 25 = (40 : Int32) from e25)]
              exact push 0 true 1 (by omega) (by omega) rfl hm
            · rw [if_neg t4] at hm
              rw [if_neg (show ¬ τ2 0 25 = (40 : Int32) by rw [e25]; exact K5 (by omega))]
              exact EOK_no rfl hm e24 hR2.2.2.2.2.2
        by_cases t2 : t = 20017
        · subst t2
          rw [if_pos (show τ2 0 25 = (6 : Int32) from e25)]
          cases m with
          | false =>
            rw [if_pos (show v2 = 0 by rw [hv2]; rfl)]
            exact rest (fun h => by cases h.2)
          | true =>
            rw [if_pos ⟨rfl, rfl⟩] at hm
            rw [if_neg (show ¬ v2 = 0 by rw [hv2]; decide)]
            exact push 17 true v2 (by omega) (by omega) hv2 hm
        · rw [if_neg (show ¬ τ2 0 25 = (6 : Int32) by rw [e25]; exact K3 (by omega))]
          exact rest (fun h => t2 h.1)
