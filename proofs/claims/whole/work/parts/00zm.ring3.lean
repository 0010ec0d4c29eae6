theorem r_find {M V w y : Nat} {A B : TB2} {τ : Mem} (hM : M ≤ 6) (hV : V ≤ 8) (hO : OKB M V B) (hFT : FT M V w y A B τ) : ∃ τ', frW 0 τ τ' ∧ ((∃ r, firstD B V V 0 = some r ∧ f_X9_findsRing τ = some (ι 1, τ') ∧ WY τ' r.1 r.2 ∧ τ' 0 43 = ι r.2) ∨ (firstD B V V 0 = none ∧ f_X9_findsRing τ = some (ι 0, τ') ∧ τ' 0 43 = ι 0)) := by
  have L : ∀ e v k (τ : Mem), v + e = V → e < k → τ 0 4 = ι V → FB V B τ → ∃ c τ', c ≤ e * 600 ∧ frW 0 τ τ' ∧ OUT (firstD B V e v) τ' c (fun n => f_X9_findsRing_b22 (f_X9_findsRing_b9 n) (ι 0) k τ (ι v)) 0 := by
    intro e
    induction e with
    | zero =>
      intro v k τ hv hk hV4 hF
      obtain ⟨k, rfl⟩ : ∃ q, k = q + 1 := ⟨k - 1, by omega⟩
      refine ⟨0, τ, Nat.zero_le _, fun _ _ _ _ => rfl, fun n0 => ?_⟩
      show f_X9_findsRing_b22 (f_X9_findsRing_b9 (n0 + 0)) (ι 0) (k + 1) τ (ι v) = _
      rw [f_X9_findsRing_b22, hV4, if_pos (show ι V ≤ ι v by rw [le_t (by omega) (by omega)]; trivial)]
      unfold f_X9_findsRing_b45 f_X9_findsRing_b93
      rw [hV4, if_pos (show ι v = ι V by rw [show v = V by omega])]
      rfl
    | succ e ih =>
      intro v k τ hv hk hV4 hF
      obtain ⟨k, rfl⟩ : ∃ q, k = q + 1 := ⟨k - 1, by omega⟩
      have hvV : v < V := by omega
      have b := hO v hvV
      have cb := r_canBe0 hM hV hO hF hvV
      by_cases c4 : B v 4 = 0
      · rw [if_pos c4] at cb
        let τ1 := ms (ms τ 19 0 (ι v)) 19 1 (-ι 1)
        have fr1 : frW 0 τ τ1 := fun p j q1 q2 => by
          show ms (ms τ 19 0 (ι v)) 19 1 (-ι 1) p j = _
          rw [ms_off (by omega), ms_off (by omega)]
        have t10 : τ1 19 0 = ι v := by
          show ms (ms τ 19 0 (ι v)) 19 1 (-ι 1) 19 0 = _
          rw [ms_off (by omega), ms_at rfl rfl]
        have hY1 : WY τ1 (wup (fun _ => 0) 0 v) 1 := by
          intro j hj
          have : j = 0 := by omega
          rw [this, t10, wup_s]
        obtain ⟨c1, τ2, q1, q2, q3⟩ := r_search (f := B v 0) hM hV hO 5 (B v 1) (wup (fun _ => 0) 0 v) 1 τ1 (by omega) (by omega) (W1_ok hvV c4) (by omega) (fun e => b.2.2.1 e.symm) (by rw [wup_s]) (by rw [show 1 - 1 = 0 from rfl, wup_s]) (b1_0 hM hO hvV) (by rw [fr1 _ _ (by omega) (by omega)]; exact hV4) (FB_W hF fr1) hY1 (by
          show ms (ms τ 19 0 (ι v)) 19 1 (-ι 1) 19 1 = _
          rw [ms_at rfl rfl])
        have q1' : c1 ≤ 512 := by
          have h1 := wN_le (B := B) (V := V) (U := uB B (wup (fun _ => 0) 0 v) 1)
          have h2 := Nat.pow_le_pow_right (show 0 < 2 by decide) (show wN B V (uB B (wup (fun _ => 0) 0 v) 1) + 1 ≤ 9 by omega)
          have h3 : 2 ^ 9 = 512 := by decide
          omega
        have er : ∀ n, f_X9_findsRing_b22 (f_X9_findsRing_b9 n) (ι 0) (k + 1) τ (ι v) = f_X9_findsRing_b9 n τ1 (ι 1) := by
          intro n
          have cl : f_X9_closes (ms τ 19 0 (ι v)) (ι 0) = some (ι 0) := by
            unfold f_X9_closes
            rw [if_pos (show ι 0 ≤ (0 : Int32) by decide)]
            rfl
          rw [f_X9_findsRing_b22, hV4, if_neg (show ¬ ι V ≤ ι v by rw [le_f (by omega) (by omega)]; exact id), cb, ob_s, if_neg (show ¬ ι 1 = (0 : Int32) by decide)]
          unfold f_X9_findsRing_b45 f_X9_findsRing_b93
          rw [hV4, if_neg (show ¬ ι v = ι V by rw [eq_f (by omega) (by omega) (by omega)]; exact id), if_pos (inb_t (by omega) (by omega)), ι_nat (by omega), cl, ob_s, if_pos (show ι 0 = (0 : Int32) from rfl), L1, ι_add, if_pos (inb_t (by omega) (by omega)), ι_nat (by omega)]
          rfl
        cases hr : closeD B V (B v 0) 5 (B v 1) (wup (fun _ => 0) 0 v) 1 with
        | some r =>
          rw [hr] at q3
          obtain ⟨z1, z2, z3⟩ := q3
          have eo : firstD B V (e + 1) v = some r := by
            unfold firstD
            rw [if_pos c4, hr]
          refine ⟨c1, τ2, by omega, fr1.tr (q2.mono (by omega)), ?_⟩
          rw [eo]
          exact ⟨z1, z2, fun n0 => by
            show f_X9_findsRing_b22 (f_X9_findsRing_b9 (n0 + c1)) (ι 0) (k + 1) τ (ι v) = _
            rw [er]; exact z3 n0⟩
        | none =>
          rw [hr] at q3
          have eo : firstD B V (e + 1) v = firstD B V e (v + 1) := by
            show (if B v 4 = 0 then _ else _) = _
            rw [if_pos c4, hr]
          have fr2 : frW 0 τ τ2 := fr1.tr (q2.mono (by omega))
          have t2s : τ2 19 0 = ι v := by rw [q2 _ _ (by omega) (by omega)]; exact t10
          obtain ⟨c', τ3, p1, p2, p3⟩ := ih (v + 1) FU τ2 (by omega) (by unfold FU; omega) (by rw [fr2 _ _ (by omega) (by omega)]; exact hV4) (FB_W hF fr2)
          have er2 : ∀ n0, f_X9_findsRing_b22 (f_X9_findsRing_b9 (n0 + (c1 + 1 + c'))) (ι 0) (k + 1) τ (ι v) = f_X9_findsRing_b22 (f_X9_findsRing_b9 (n0 + c')) (ι 0) FU τ2 (ι (v + 1)) := by
            intro n0
            rw [er, show n0 + (c1 + 1 + c') = n0 + c' + 1 + c1 by omega]
            refine Eq.trans (q3 (n0 + c' + 1)) ?_
            rw [show (ι 1 + -1 : Int32) = ι 0 from rfl, f_X9_findsRing_b9, if_neg (show ¬ ι 0 < (0 : Int32) by decide), if_pos (inb_t (by omega) (by omega)), ι_nat (by omega), t2s, od_e, L1, ι_add]
          refine ⟨c1 + 1 + c', τ3, by omega, fr2.tr p2, ?_⟩
          rw [eo]
          cases ho : firstD B V e (v + 1) with
          | some r =>
            rw [ho] at p3
            obtain ⟨z1, z2, z3⟩ := p3
            exact ⟨z1, z2, fun n0 => (er2 n0).trans (z3 n0)⟩
          | none =>
            rw [ho] at p3
            exact fun n0 => (er2 n0).trans (p3 n0)
      · rw [if_neg c4] at cb
        obtain ⟨c, τ', q1, q2, q3⟩ := ih (v + 1) k τ (by omega) (by omega) hV4 hF
        refine ⟨c, τ', Nat.le_trans q1 (Nat.mul_le_mul_right _ (Nat.le_succ e)), q2, ?_⟩
        have eo : firstD B V (e + 1) v = firstD B V e (v + 1) := by
          show (if B v 4 = 0 then _ else _) = _
          rw [if_neg c4]
        rw [eo]
        have er : (fun n => f_X9_findsRing_b22 (f_X9_findsRing_b9 n) (ι 0) (k + 1) τ (ι v)) = (fun n => f_X9_findsRing_b22 (f_X9_findsRing_b9 n) (ι 0) k τ (ι (v + 1))) := by
          funext n
          rw [f_X9_findsRing_b22, hV4, if_neg (show ¬ ι V ≤ ι v by rw [le_f (by omega) (by omega)]; exact id), cb, ob_s, if_pos (show ι 0 = (0 : Int32) from rfl), L1, ι_add]
        rw [er]
        exact q3
  obtain ⟨b1, b2, b3, b4, b5, b6⟩ := hFT
  have fr0 : frW 0 τ (ms τ 19 0 (-ι 1)) := fun p j q1 q2 => ms_off (by omega)
  obtain ⟨c, τ', q1, q2, q3⟩ := L V 0 FU (ms τ 19 0 (-ι 1)) (by omega) (by unfold FU; omega) (by rw [ms_off (by omega)]; exact b2) (FB_W b6 fr0)
  obtain ⟨n0, hn0⟩ : ∃ n0, FU = n0 + 1 + c + 1 := ⟨100000 - 2 - c, by unfold FU; omega⟩
  have er : f_X9_findsRing τ = f_X9_findsRing_b22 (f_X9_findsRing_b9 (n0 + 1 + c)) (ι 0) FU (ms τ 19 0 (-ι 1)) (ι 0) := by
    have e1 : f_X9_findsRing τ = f_X9_findsRing_b9 FU (ms τ 19 0 (-ι 1)) (ι 0) := rfl
    have e2 : ∀ m, f_X9_findsRing_b9 (m + 1) (ms τ 19 0 (-ι 1)) (ι 0) = f_X9_findsRing_b22 (f_X9_findsRing_b9 m) (ι 0) FU (ms τ 19 0 (-ι 1)) (ι 0) := by
      intro m
      rw [f_X9_findsRing_b9, if_neg (show ¬ ι 0 < (0 : Int32) by decide), if_pos (inb_t (by omega) (by omega)), ι_nat (by omega), ms_at rfl rfl, od_e]
      rfl
    rw [e1]
    have := e2 (n0 + 1 + c)
    rw [← hn0] at this
    exact this
  cases ho : firstD B V V 0 with
  | some r =>
    rw [ho] at q3
    obtain ⟨z1, z2, z3⟩ := q3
    exact ⟨τ', fr0.tr q2, Or.inl ⟨r, rfl, er.trans (z3 (n0 + 1)), z1, z2⟩⟩
  | none =>
    rw [ho] at q3
    refine ⟨ms τ' 0 43 (ι 0), fun p j c1 c2 => by rw [ms_off (by omega), q2 p j c1 c2, fr0 p j c1 c2], Or.inr ⟨rfl, er.trans ((q3 (n0 + 1)).trans ?_), ms_at rfl rfl⟩⟩
    rw [f_X9_findsRing_b9, if_pos (show (ι 0 + -1 : Int32) < 0 by decide)]
    rfl
theorem frW.sc {s : Nat} {a b : Mem} (h : frW s a b) : eqR a b := fun k j q => by
  unfold sR at q
  exact h k j (by omega) (by omega)
theorem bit_or8 {a m x : Nat} (ha : a < 256) (hm : m < 8) (hx : x < 8) : bitN (a ||| 2 ^ m) x = if x = m then 1 else bitN a x := by
  have : ∀ a, a < 256 → ∀ m, m < 8 → ∀ x, x < 8 → bitN (a ||| 2 ^ m) x = if x = m then 1 else bitN a x := by decide +kernel
  exact this a ha m hm x hx
theorem vB_bit {V : Nat} {wy : Nat → Nat} (hV : V ≤ 8) {x : Nat} (hx : x < 8) : ∀ s, (∀ j, j < s → wy j < V) → (bitN (vB wy s) x = 0 ↔ ∀ j, j < s → wy j ≠ x)
  | 0, _ => ⟨fun _ j hj => by omega, fun _ => by show bitN 0 x = 0; unfold bitN; rw [Nat.zero_div]⟩
  | s + 1, h => by
    have ih := vB_bit hV hx s (fun j hj => h j (by omega))
    have hm := h s (by omega)
    show bitN (vB wy s ||| 2 ^ (wy s)) x = 0 ↔ _
    rw [bit_or8 (vB_lt hV s (fun j hj => h j (by omega))) (by omega) hx]
    by_cases c : x = wy s
    · rw [if_pos c]
      exact ⟨fun h => absurd h (by decide), fun h => absurd c.symm (h s (by omega))⟩
    · rw [if_neg c, ih]
      refine ⟨fun h j hj => ?_, fun h j hj => h j (by omega)⟩
      by_cases c2 : j = s
      · rw [c2]; exact fun e => c e.symm
      · exact h j (by omega)
/-- the least inches on a way -/
def leW (B : TB2) (wy : Nat → Nat) : Nat → Nat
  | 0 => 0
  | s + 1 => if s = 0 then B (wy 0) 2 else min (leW B wy s) (B (wy s) 2)
theorem leW_prop {B : TB2} {wy : Nat → Nat} : ∀ s, 0 < s → (∀ j, j < s → leW B wy s ≤ B (wy j) 2) ∧ ∃ j, j < s ∧ leW B wy s = B (wy j) 2
  | 0, h => by omega
  | s + 1, _ => by
    show (∀ j, j < s + 1 → (if s = 0 then B (wy 0) 2 else min (leW B wy s) (B (wy s) 2)) ≤ B (wy j) 2) ∧ ∃ j, j < s + 1 ∧ (if s = 0 then B (wy 0) 2 else min (leW B wy s) (B (wy s) 2)) = B (wy j) 2
    by_cases c : s = 0
    · rw [if_pos c]
      refine ⟨fun j hj => ?_, 0, by omega, rfl⟩
      have : j = 0 := by omega
      rw [this]
      exact Nat.le_refl _
    · rw [if_neg c]
      obtain ⟨h1, j, h2, h3⟩ := leW_prop s (by omega)
      refine ⟨fun j hj => ?_, ?_⟩
      · by_cases c2 : j = s
        · rw [c2]; exact Nat.min_le_right _ _
        · exact Nat.le_trans (Nat.min_le_left _ _) (h1 j (by omega))
      · by_cases c3 : leW B wy s ≤ B (wy s) 2
        · exact ⟨j, by omega, by rw [Nat.min_eq_left c3, h3]⟩
        · exact ⟨s, by omega, Nat.min_eq_right (by omega)⟩
theorem r_least {M V : Nat} {B : TB2} {τ : Mem} {wy : Nat → Nat} {s : Nat} (hV : V ≤ 8) (hO : OKB M V B) (hF : FB V B τ) (hY : WY τ wy s) (hW : ∀ j, j < s → wy j < V) (h43 : τ 0 43 = ι s) (hs : s ≤ 8) : f_X9_leastOnWay τ = some (ι (leW B wy s)) := by
  have L : ∀ d k n, k + d = s → d < n → f_X9_leastOnWay_b4 τ n (ι (leW B wy k)) (ι k) = some (ι (leW B wy s)) := by
    intro d
    induction d with
    | zero =>
      intro k n hk hn
      obtain ⟨n, rfl⟩ : ∃ q, n = q + 1 := ⟨n - 1, by omega⟩
      rw [f_X9_leastOnWay_b4, h43, if_pos (show ι s ≤ ι k by rw [le_t (by omega) (by omega)]; trivial), show k = s by omega]
    | succ d ih =>
      intro k n hk hn
      obtain ⟨n, rfl⟩ : ∃ q, n = q + 1 := ⟨n - 1, by omega⟩
      have hks : k < s := by omega
      have wv := hW k hks
      have b := hO _ wv
      have lk : leW B wy k ≤ 200 := by
        by_cases c : k = 0
        · rw [c]; exact Nat.zero_le _
        · obtain ⟨-, j, h2, h3⟩ := leW_prop (B := B) (wy := wy) k (by omega)
          rw [h3]
          exact (hO _ (hW j (by omega))).2.2.2.1
      have nx := ih (k + 1) n (by omega) (by omega)
      rw [f_X9_leastOnWay_b4, h43, if_neg (show ¬ ι s ≤ ι k by rw [le_f (by omega) (by omega)]; exact id), if_pos (inb_t (by omega) (by omega)), ι_nat (by omega), hY k hks, L6, L2, ι_mul, ι_add, if_pos (inb_t (by omega) (by omega)), ι_nat (by omega), fb_2 hF wv, od_e]
      unfold f_X9_leastOnWay_b38 f_X9_leastOnWay_b43
      rw [L1, ι_add]
      have e : leW B wy (k + 1) = if k = 0 then B (wy 0) 2 else min (leW B wy k) (B (wy k) 2) := rfl
      rw [e] at nx
      by_cases c : k = 0
      · subst c
        rw [if_pos rfl] at nx
        rw [if_pos (show ι 0 = (0 : Int32) from rfl)]
        exact nx
      · rw [if_neg c] at nx
        rw [if_neg (show ¬ ι k = (0 : Int32) by rw [L0, eq_f c (by omega) (by omega)]; exact id)]
        by_cases c2 : leW B wy k ≤ B (wy k) 2
        · rw [Nat.min_eq_left c2] at nx
          rw [if_pos (show ι (leW B wy k) ≤ ι (B (wy k) 2) by rw [le_t c2 (by omega)]; trivial)]
          exact nx
        · rw [Nat.min_eq_right (by omega)] at nx
          rw [if_neg (show ¬ ι (leW B wy k) ≤ ι (B (wy k) 2) by rw [le_f (by omega) (by omega)]; exact id)]
          exact nx
  unfold f_X9_leastOnWay
  rw [L0]
  exact L s 0 FU (by omega) (by unfold FU; omega)
def leC (B : TB2) (z : Nat) : Nat → Nat → Nat → Nat
  | 0, _, l => l
  | e + 1, v, l => leC B z e (v + 1) (if bitN z v = 0 then l else if l = 0 ∨ B v 2 < l then B v 2 else l)
theorem leC_prop {B : TB2} {z : Nat} : ∀ e v l, (∀ u, v ≤ u → u < v + e → bitN z u ≠ 0 → 1 ≤ B u 2) → (l = 0 ∧ (∀ u, v ≤ u → u < v + e → bitN z u = 0) ∧ leC B z e v l = 0) ∨ ((∀ u, v ≤ u → u < v + e → bitN z u ≠ 0 → leC B z e v l ≤ B u 2) ∧ (l ≠ 0 → leC B z e v l ≤ l) ∧ leC B z e v l ≠ 0 ∧ (leC B z e v l = l ∨ ∃ u, v ≤ u ∧ u < v + e ∧ bitN z u ≠ 0 ∧ leC B z e v l = B u 2)) := by
  intro e
  induction e with
  | zero =>
    intro v l h
    by_cases c : l = 0
    · exact Or.inl ⟨c, fun u h1 h2 => by omega, c⟩
    · exact Or.inr ⟨fun u h1 h2 => by omega, fun _ => Nat.le_refl _, c, Or.inl rfl⟩
  | succ e ih =>
    intro v l h
    have hr := ih (v + 1) (if bitN z v = 0 then l else if l = 0 ∨ B v 2 < l then B v 2 else l) (fun u h1 h2 h3 => h u (by omega) (by omega) h3)
    show (l = 0 ∧ _ ∧ leC B z e (v + 1) (if bitN z v = 0 then l else if l = 0 ∨ B v 2 < l then B v 2 else l) = 0) ∨ ((∀ u, v ≤ u → u < v + (e + 1) → bitN z u ≠ 0 → leC B z e (v + 1) (if bitN z v = 0 then l else if l = 0 ∨ B v 2 < l then B v 2 else l) ≤ B u 2) ∧ (l ≠ 0 → leC B z e (v + 1) (if bitN z v = 0 then l else if l = 0 ∨ B v 2 < l then B v 2 else l) ≤ l) ∧ leC B z e (v + 1) (if bitN z v = 0 then l else if l = 0 ∨ B v 2 < l then B v 2 else l) ≠ 0 ∧ (leC B z e (v + 1) (if bitN z v = 0 then l else if l = 0 ∨ B v 2 < l then B v 2 else l) = l ∨ ∃ u, v ≤ u ∧ u < v + (e + 1) ∧ bitN z u ≠ 0 ∧ leC B z e (v + 1) (if bitN z v = 0 then l else if l = 0 ∨ B v 2 < l then B v 2 else l) = B u 2))
    by_cases c : bitN z v = 0
    · rw [if_pos c] at hr ⊢
      rcases hr with ⟨h1, h2, h3⟩ | ⟨h1, h2, h3, h4⟩
      · refine Or.inl ⟨h1, fun u g1 g2 => ?_, h3⟩
        by_cases cu : u = v
        · rw [cu]; exact c
        · exact h2 u (by omega) (by omega)
      · refine Or.inr ⟨fun u g1 g2 g3 => ?_, h2, h3, ?_⟩
        · by_cases cu : u = v
          · rw [cu] at g3; exact absurd c g3
          · exact h1 u (by omega) (by omega) g3
        · rcases h4 with h4 | ⟨u, g1, g2, g3, g4⟩
          · exact Or.inl h4
          · exact Or.inr ⟨u, by omega, by omega, g3, g4⟩
    · rw [if_neg c] at hr ⊢
      have hv := h v (by omega) (by omega) c
      by_cases c2 : l = 0 ∨ B v 2 < l
      · rw [if_pos c2] at hr ⊢
        rcases hr with ⟨h1, -, -⟩ | ⟨h1, h2, h3, h4⟩
        · omega
        · refine Or.inr ⟨fun u g1 g2 g3 => ?_, fun g => ?_, h3, ?_⟩
          · by_cases cu : u = v
            · rw [cu]; exact h2 (by omega)
            · exact h1 u (by omega) (by omega) g3
          · have := h2 (by omega)
            omega
          · rcases h4 with h4 | ⟨u, g1, g2, g3, g4⟩
            · exact Or.inr ⟨v, by omega, by omega, c, h4⟩
            · exact Or.inr ⟨u, by omega, by omega, g3, g4⟩
      · rw [if_neg c2] at hr ⊢
        rcases hr with ⟨h1, -, -⟩ | ⟨h1, h2, h3, h4⟩
        · exact absurd (Or.inl h1) c2
        · refine Or.inr ⟨fun u g1 g2 g3 => ?_, h2, h3, ?_⟩
          · by_cases cu : u = v
            · have := h2 (fun e => c2 (Or.inl e))
              rw [cu]
              omega
            · exact h1 u (by omega) (by omega) g3
          · rcases h4 with h4 | ⟨u, g1, g2, g3, g4⟩
            · exact Or.inl h4
            · exact Or.inr ⟨u, by omega, by omega, g3, g4⟩
theorem leC_way {M V s : Nat} {B : TB2} {wy : Nat → Nat} (hV : V ≤ 8) (hO : OKB M V B) (hW : WOK M V B wy s) (hs : 0 < s) : leC B (vB wy s) V 0 0 = leW B wy s := by
  have hv8 : ∀ j, j < s → wy j < V := fun j hj => (hW.1 j hj).1
  have bt : ∀ u, u < V → bitN (vB wy s) u ≠ 0 → ∃ j, j < s ∧ wy j = u := by
    intro u hu hb
    by_cases c : ∃ j, j < s ∧ wy j = u
    · exact c
    · exact absurd ((vB_bit hV (show u < 8 by omega) s hv8).2 (fun j hj e => c ⟨j, hj, e⟩)) hb
  have bt2 : ∀ j, j < s → bitN (vB wy s) (wy j) ≠ 0 := by
    intro j hj h
    exact (vB_bit hV (show wy j < 8 by have := hv8 j hj; omega) s hv8).1 h j hj rfl
  obtain ⟨l1, j0, l2, l3⟩ := leW_prop (B := B) (wy := wy) s hs
  rcases leC_prop (B := B) (z := vB wy s) V 0 0 (fun u h1 h2 h3 => by
    obtain ⟨j, j1, rfl⟩ := bt u (by omega) h3
    exact (hO _ (hv8 j j1)).2.2.2.2.2.2.2 (hW.1 j j1).2) with ⟨h1, h2, h3⟩ | ⟨h1, h2, h3, h4⟩
  · exact absurd (h2 (wy 0) (by omega) (by have := hv8 0 hs; omega)) (bt2 0 hs)
  · have g1 : leC B (vB wy s) V 0 0 ≤ leW B wy s := by
      rw [l3]
      exact h1 (wy j0) (by omega) (by have := hv8 j0 l2; omega) (bt2 j0 l2)
    rcases h4 with h4 | ⟨u, u1, u2, u3, u4⟩
    · exact absurd h4 h3
    · obtain ⟨j, j1, rfl⟩ := bt u (by omega) u3
      have := l1 j j1
      omega
theorem c_least {M V w y z : Nat} {A B : TB2} {σ : Mem} (hV : V ≤ 8) (hO : OKB M V B) (hC : CT 15 M V w y A B σ) (hz : z < 256) : f_X6_leastInches σ 15 (ι z) = some (ι (leC B z V 0 0)) := by
  obtain ⟨a1, a2, a3, a4, a5, a6⟩ := hC
  have L : ∀ e v n l, v + e = V → e < n → l ≤ 200 → f_X6_leastInches_b4 σ 15 (ι z) n (ι l) (ι v) = some (ι (leC B z e v l)) := by
    intro e
    induction e with
    | zero =>
      intro v n l hv hn hl
      obtain ⟨n, rfl⟩ : ∃ q, n = q + 1 := ⟨n - 1, by omega⟩
      rw [f_X6_leastInches_b4, a2, if_pos (show ι V ≤ ι v by rw [le_t (by omega) (by omega)]; trivial)]
      rfl
    | succ e ih =>
      intro v n l hv hn hl
      obtain ⟨n, rfl⟩ : ∃ q, n = q + 1 := ⟨n - 1, by omega⟩
      have hvV : v < V := by omega
      have b := hO v hvV
      have bl := bitN_le (s := z) (f := v)
      have bc : ((ι z >>> (ι v &&& 31)) &&& ι 1) = ι (bitN z v) := bit_c hz (by omega)
      have nx := ih (v + 1) n
      show _ = some (ι (leC B z e (v + 1) (if bitN z v = 0 then l else if l = 0 ∨ B v 2 < l then B v 2 else l)))
      rw [f_X6_leastInches_b4, a2, if_neg (show ¬ ι V ≤ ι v by rw [le_f (by omega) (by omega)]; exact id), show (8 : Int32) = ι 8 from rfl, if_neg (show ¬ ι 8 ≤ ι v by rw [le_f (by omega) (by omega)]; exact id), L1, bc]
      unfold f_X6_leastInches_b46 f_X6_leastInches_b56
      rw [if_pos (inb_t (by omega) (by omega)), ι_nat (by omega), cb_2 a6 hvV, L1, ι_add]
      by_cases c : bitN z v = 0
      · rw [if_pos (show ι (bitN z v) = 0 by rw [c]; rfl), if_pos c]
        exact nx _ (by omega) (by omega) hl
      · rw [if_neg (show ¬ ι (bitN z v) = 0 by rw [L0, eq_f c (by omega) (by omega)]; exact id), if_neg c]
        by_cases c0 : l = 0
        · rw [if_pos (show ι l = 0 by rw [c0]; rfl), if_pos (Or.inl c0)]
          exact nx _ (by omega) (by omega) b.2.2.2.1
        · rw [if_neg (show ¬ ι l = 0 by rw [L0, eq_f c0 (by omega) (by omega)]; exact id), if_pos (inb_t (by omega) (by omega))]
          by_cases c1 : B v 2 < l
          · rw [if_neg (show ¬ ι l ≤ ι (B v 2) by rw [le_f c1 (by omega)]; exact id), if_pos (Or.inr c1)]
            exact nx _ (by omega) (by omega) b.2.2.2.1
          · rw [if_pos (show ι l ≤ ι (B v 2) by rw [le_t (by omega) (by omega)]; trivial), if_neg (by omega)]
            exact nx _ (by omega) (by omega) hl
  unfold f_X6_leastInches
  rw [L0]
  exact L V 0 FU 0 (by omega) (by unfold FU; omega) (by omega)
theorem leC_0 {B : TB2} : ∀ e v, leC B 0 e v 0 = 0 := by
  intro e
  induction e with
  | zero => intro v; rfl
  | succ e ih =>
    intro v
    show leC B 0 e (v + 1) (if bitN 0 v = 0 then 0 else _) = 0
    rw [if_pos (show bitN 0 v = 0 by unfold bitN; rw [Nat.zero_div])]
    exact ih (v + 1)
theorem way_le {M V s : Nat} {B : TB2} {wy : Nat → Nat} (hM : M ≤ 6) (hO : OKB M V B) (hW : WOK M V B wy s) : s ≤ 6 := by
  have p := pc_way hM hO s hW
  have : ∀ z, z < 64 → pcN z ≤ 6 := by decide +kernel
  have := this _ (uB_lt hM hO s (fun j hj => (hW.1 j hj).1))
  omega
theorem op_ring : OP_ring RR := by
  intro σ τ v1 hR
  obtain ⟨M, V, w, y, A, B, T, X, h0, hA, hB, hOX, hC, hS, hS9, hF, hCX, hFX, hI, hSh, hD⟩ := id hR
  obtain ⟨hM, hV, hw, hy⟩ := id h0
  obtain ⟨hB, hBs⟩ := id hB
  obtain ⟨a1, a2, a3, a4, a5, a6⟩ := id hC
  obtain ⟨b1, b2, b3, b4, b5, b6⟩ := id hF
  have hT := hOX.2.1
  have c1 := hCX.1
  have f1 := hFX.1
  unfold f_X8_ring f_X9_ring
  rcases argN 2 v1 with ⟨q, q1, q2, rfl⟩ | g1
  · rw [L0, if_neg (show ¬ ι q < ι 0 by rw [lt_f (by omega) (by omega)]; exact id), L1, if_pos (show ι q ≤ ι 1 by rw [le_t (by omega) (by omega)]; trivial), c_firstRing hM hV hB hC, ob_s, r_in (by omega) (by omega) (by omega), if_neg (show ¬ ι 1 = ι 0 by decide)]
    obtain ⟨τ', fr, h⟩ := r_find hM hV hB hF
    have hr := (RR_eq hR eqC.rfl fr.sc).1
    have hF' := FT_sc hM hV fr.sc hF
    have Lr : ∀ (wy : Nat → Nat) (s : Nat), WY τ' wy s → (∀ j, j < s → wy j < V) → τ' 0 43 = ι s → s ≤ 8 → ∀ d k n, k + d = s → d < n → f_X9_ring_b21 (ι q) n τ' (ι (vB wy k)) (ι k) = some (ι (if q = 0 then vB wy s else leW B wy s), τ') := by
      intro wy s hY hW h43 hs d
      induction d with
      | zero =>
        intro k n hk hn
        obtain ⟨n, rfl⟩ : ∃ p, n = p + 1 := ⟨n - 1, by omega⟩
        rw [f_X9_ring_b21, h43, if_pos (show ι s ≤ ι k by rw [le_t (by omega) (by omega)]; trivial)]
        by_cases c : q = 0
        · rw [if_pos (show ι q = 0 by rw [c]; rfl), if_pos c, show k = s by omega]
        · rw [if_neg (show ¬ ι q = 0 by rw [L0, eq_f c (by omega) (by omega)]; exact id), if_neg c, r_least hV hB hF'.2.2.2.2.2 hY hW h43 hs, ob_s]
      | succ d ih =>
        intro k n hk hn
        obtain ⟨n, rfl⟩ : ∃ p, n = p + 1 := ⟨n - 1, by omega⟩
        have wv := hW k (by omega)
        have vl := vB_lt hV k (fun j hj => hW j (by omega))
        rw [f_X9_ring_b21, h43, if_neg (show ¬ ι s ≤ ι k by rw [le_f (by omega) (by omega)]; exact id), if_pos (inb_t (by omega) (by omega)), ι_nat (by omega), hY k (by omega), shl_c (by omega), or_c (by omega) (by omega), od_e, L1, ι_add]
        exact ih (k + 1) n (by omega) (by omega)
    rcases h with ⟨r, h1, h2, h3, h4⟩ | ⟨h1, h2, h3⟩
    · obtain ⟨wo, wp⟩ := first_ok hM hB V 0 (by omega) r h1
      have s6 := way_le hM hB wo
      have hW := fun j hj => (wo.1 j hj).1
      have vl := vB_lt hV r.2 hW
      refine ⟨ι (if q = 0 then vB r.1 r.2 else leW B r.1 r.2), τ', ?_, ?_, hr⟩
      · rw [h1]
        show (if ι q = ι 0 then some (ι (vB r.1 r.2)) else ob (f_X6_leastInches σ 15 (ι (vB r.1 r.2))) (fun r7 => some r7)) = _
        by_cases c : q = 0
        · rw [if_pos (show ι q = ι 0 by rw [c]), if_pos c]
        · rw [if_neg (show ¬ ι q = ι 0 by rw [eq_f c (by omega) (by omega)]; exact id), if_neg c, c_least hV hB hC vl, ob_s, leC_way hV hB wo (by omega)]
      · rw [h2, ob2_s]
        exact Lr r.1 r.2 h3 hW h4 (by omega) r.2 0 FU (by omega) (by unfold FU; omega)
    · refine ⟨ι 0, τ', ?_, ?_, hr⟩
      · rw [h1]
        show (if ι q = ι 0 then some (ι 0) else ob (f_X6_leastInches σ 15 (ι 0)) (fun r7 => some r7)) = _
        by_cases c : q = 0
        · rw [if_pos (show ι q = ι 0 by rw [c])]
        · rw [if_neg (show ¬ ι q = ι 0 by rw [eq_f c (by omega) (by omega)]; exact id), c_least hV hB hC (by decide), ob_s, leC_0]
      · rw [h2, ob2_s]
        have := Lr (fun _ => 0) 0 (fun j hj => by omega) (fun j hj => by omega) h3 (by omega) 0 0 FU (by omega) (by unfold FU; omega)
        refine Eq.trans this ?_
        by_cases c : q = 0
        · rw [if_pos c]; rfl
        · rw [if_neg c]; rfl
  · refine ⟨-ι 2, τ, ?_, ?_, hR⟩
    · rcases g1 with g | ⟨k, k1, k2, rfl⟩
      · rw [L0, if_pos (show v1 < ι 0 by rw [ng_lt g (by omega)]; trivial)]
        rfl
      · rw [L0, if_neg (show ¬ ι k < ι 0 by rw [lt_f (by omega) (by omega)]; exact id), L1, if_neg (show ¬ ι k ≤ ι 1 by rw [le_f (by omega) (by omega)]; exact id)]
        rfl
    · rw [L0, L1, outN_in (n := 1) (by omega) g1, if_pos rfl]
      rfl
