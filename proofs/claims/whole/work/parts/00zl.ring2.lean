def WY (τ : Mem) (wy : Nat → Nat) (s : Nat) : Prop := ∀ j, j < s → τ 19 j = ι (wy j)
def wN (B : TB2) (V U : Nat) : Nat := sumF (fun u => if bitN U (B u 0) = 0 then 1 else 0) 0 V
def dgN (B : TB2) (m v e : Nat) : Nat := sumF (fun u => if B u 0 = m then 1 else 0) v e
theorem pc_or {a m : Nat} (ha : a < 64) (hm : m < 6) (h : bitN a m = 0) : pcN (a ||| 2 ^ m) = pcN a + 1 ∧ pcN a ≤ 5 := by
  have : ∀ a, a < 64 → ∀ m, m < 6 → bitN a m = 0 → pcN (a ||| 2 ^ m) = pcN a + 1 ∧ pcN a ≤ 5 := by decide +kernel
  exact this a ha m hm h
theorem pc_way {M V : Nat} {B : TB2} (hM : M ≤ 6) (hO : OKB M V B) {wy : Nat → Nat} : ∀ s, WOK M V B wy s → pcN (uB B wy s) = s
  | 0, _ => show pcN 0 = 0 by decide +kernel
  | s + 1, h => by
    have h' : WOK M V B wy s := ⟨fun j hj => h.1 j (by omega), fun i j hij hj => h.2 i j hij (by omega)⟩
    have ih := pc_way hM hO s h'
    have b := hO _ (h.1 s (by omega)).1
    have hb : bitN (uB B wy s) (B (wy s) 0) = 0 := (uB_bit hM hO (show B (wy s) 0 < 6 by omega) s (fun j hj => (h.1 j (by omega)).1)).2 (fun j hj => h.2 j s hj (by omega))
    show pcN (uB B wy s ||| 2 ^ (B (wy s) 0)) = s + 1
    rw [(pc_or (uB_lt hM hO s (fun j hj => (h.1 j (by omega)).1)) (by omega) hb).1, ih]
theorem wN_or {M V U m : Nat} {B : TB2} (hM : M ≤ 6) (hO : OKB M V B) (hU : U < 64) (hm : m < 6) (hb : bitN U m = 0) : wN B V (U ||| 2 ^ m) + dgN B m 0 V = wN B V U := by
  have L : ∀ d i, i + d ≤ V → sumF (fun u => if bitN (U ||| 2 ^ m) (B u 0) = 0 then 1 else 0) i d + sumF (fun u => if B u 0 = m then 1 else 0) i d = sumF (fun u => if bitN U (B u 0) = 0 then 1 else 0) i d := by
    intro d
    induction d with
    | zero => intro i _; rfl
    | succ d ih =>
      intro i hi
      have b := hO i (by omega)
      have h := ih (i + 1) (by omega)
      have hx := bit_or (x := B i 0) hU hm (by omega)
      show ((if bitN (U ||| 2 ^ m) (B i 0) = 0 then 1 else 0) + _) + ((if B i 0 = m then 1 else 0) + _) = (if bitN U (B i 0) = 0 then 1 else 0) + _
      rw [hx]
      by_cases c : B i 0 = m
      · rw [if_pos c, if_pos c, if_neg (by decide), if_pos (by rw [c]; exact hb)]
        omega
      · rw [if_neg c, if_neg c]
        omega
  exact L V 0 (by omega)
theorem wN_le {B : TB2} {V U : Nat} : wN B V U ≤ V := by
  have := sumF_le (f := fun u => if bitN U (B u 0) = 0 then 1 else 0) (c := 1) (fun i => by
    show (if bitN U (B i 0) = 0 then 1 else 0) ≤ 1
    split <;> omega) V 0
  unfold wN
  omega
def OUT (o : Option ((Nat → Nat) × Nat)) (τ' : Mem) (c : Nat) (run : Nat → Option (Int32 × Mem)) (s : Nat) : Prop := match o with
  | some r => WY τ' r.1 r.2 ∧ τ' 0 43 = ι r.2 ∧ ∀ n0, run (n0 + c) = some (ι 1, τ')
  | none => ∀ n0, run (n0 + c) = f_X9_findsRing_b9 n0 τ' (ι s + -1)
/-- only the way from a step on, and how long it is, have changed -/
def frW (s : Nat) (τ τ' : Mem) : Prop := ∀ k j, ¬ (k = 19 ∧ s ≤ j) → ¬ (k = 0 ∧ j = 43) → τ' k j = τ k j
theorem frW.tr {s : Nat} {a b c : Mem} (h : frW s a b) (g : frW s b c) : frW s a c := fun k j h1 h2 => (g k j h1 h2).trans (h k j h1 h2)
theorem frW.mono {s t : Nat} {a b : Mem} (h : frW t a b) (hst : s ≤ t) : frW s a b := fun k j h1 h2 => h k j (by omega) h2
theorem r_canBe_l {M V s v : Nat} {B : TB2} {wy : Nat → Nat} {τ : Mem} (hM : M ≤ 6) (hV : V ≤ 8) (hO : OKB M V B) (hF : FB V B τ) (hw : WY τ wy s) (hW : ∀ j, j < s → wy j < V) (hv : v < V) (hs : s ≤ 8) : ∀ d k n, 1 ≤ k → k + d = s ∨ (d = 0 ∧ s ≤ k) → k ≤ 9 → d < n → ((∃ j, k ≤ j ∧ j < s ∧ B (wy j) 0 = B v 1) ∧ f_X9_canBe_b52 τ (ι v) (ι s) n (ι k) = some (ι 0)) ∨ ((¬ ∃ j, k ≤ j ∧ j < s ∧ B (wy j) 0 = B v 1) ∧ f_X9_canBe_b52 τ (ι v) (ι s) n (ι k) = some (ι 1)) := by
  intro d
  induction d with
  | zero =>
    intro k n hk1 hk hk9 hn
    obtain ⟨n, rfl⟩ : ∃ q, n = q + 1 := ⟨n - 1, by omega⟩
    refine Or.inr ⟨by rintro ⟨j, h1, h2, -⟩; omega, ?_⟩
    rw [f_X9_canBe_b52, if_pos (show ι s ≤ ι k by rw [le_t (by omega) (by omega)]; trivial)]
    rfl
  | succ d ih =>
    intro k n hk1 hk hk9 hn
    obtain ⟨n, rfl⟩ : ∃ q, n = q + 1 := ⟨n - 1, by omega⟩
    have hks : k < s := by omega
    have wv := hW k hks
    have b := hO _ wv
    have b2 := hO v hv
    rw [f_X9_canBe_b52, if_neg (show ¬ ι s ≤ ι k by rw [le_f (by omega) (by omega)]; exact id), if_pos (inb_t (by omega) (by omega)), ι_nat (by omega), hw k hks, L6, ι_mul, if_pos (inb_t (by omega) (by omega)), ι_mul, L1, ι_add, if_pos (inb_t (by omega) (by omega)), ι_nat (by omega), ι_nat (by omega), fb_0 hF wv, fb_1 hF hv]
    by_cases c : B (wy k) 0 = B v 1
    · refine Or.inl ⟨⟨k, Nat.le_refl k, hks, c⟩, ?_⟩
      rw [if_pos (show ι (B (wy k) 0) = ι (B v 1) by rw [c])]
      rfl
    · rw [if_neg (show ¬ ι (B (wy k) 0) = ι (B v 1) by rw [eq_f c (by omega) (by omega)]; exact id), ι_add]
      rcases ih (k + 1) n (by omega) (by omega) (by omega) (by omega) with ⟨⟨j, j1, j2, j3⟩, e⟩ | ⟨c2, e⟩
      · exact Or.inl ⟨⟨j, by omega, j2, j3⟩, e⟩
      · refine Or.inr ⟨?_, e⟩
        rintro ⟨j, j1, j2, j3⟩
        by_cases e : j = k
        · rw [e] at j3; exact c j3
        · exact c2 ⟨j, by omega, j2, j3⟩
theorem r_canBe0 {M V v : Nat} {B : TB2} {τ : Mem} (hM : M ≤ 6) (hV : V ≤ 8) (hO : OKB M V B) (hF : FB V B τ) (hv : v < V) : f_X9_canBe τ (ι v) (ι 0) = some (ι (if B v 4 = 0 then 1 else 0)) := by
  unfold f_X9_canBe f_X9_canBe_b50
  have st := r_stands hV hF hO hv
  have l := r_canBe_l (s := 0) (wy := fun _ => 0) hM hV hO hF (fun j hj => by omega) (fun j hj => by omega) hv (by omega) 0 1 FU (by omega) (Or.inr ⟨rfl, by omega⟩) (by omega) (by unfold FU; omega)
  rw [st, ob_s]
  by_cases c : B v 4 = 0
  · rw [if_pos c, if_neg (show ¬ ι 1 = (0 : Int32) by decide), if_pos (show ι 0 ≤ (0 : Int32) by decide), L1]
    rcases l with ⟨⟨j, h1, h2, -⟩, -⟩ | ⟨-, l⟩
    · omega
    · exact l
  · rw [if_neg c, if_pos (show ι 0 = (0 : Int32) from rfl)]
    rfl
theorem r_canBe {M V v s m : Nat} {B : TB2} {wy : Nat → Nat} {τ : Mem} (hM : M ≤ 6) (hV : V ≤ 8) (hO : OKB M V B) (hF : FB V B τ) (hw : WY τ wy s) (hW : WOK M V B wy s) (hv : v < V) (hs : 1 ≤ s) (hs8 : s ≤ 6) (hm : B (wy (s - 1)) 1 = m) (hb : bitN (uB B wy s) m = 0) : f_X9_canBe τ (ι v) (ι s) = some (ι (if (B v 4 = 0 ∧ B v 0 = m) ∧ (B v 1 = B (wy 0) 0 ∨ bitN (uB B (wup wy s v) (s + 1)) (B v 1) = 0) then 1 else 0)) := by
  have st := r_stands hV hF hO hv
  have b := hO v hv
  have wl := (hW.1 (s - 1) (by omega)).1
  have b' := hO _ wl
  have l := r_canBe_l hM hV hO hF hw (fun j hj => (hW.1 j hj).1) hv (by omega) (s - 1) 1 FU (by omega) (Or.inl (by omega)) (by omega) (by unfold FU; omega)
  have hwi : f_X9_within (ι (s - 1)) 0 7 = ι (s - 1) := by
    unfold f_X9_within
    simp (disch := omega) only [↓reduceIte, eq_self, Bool.false_eq_true, reduceCtorEq, ob_s, ob2_s, od_e, onl_n, onl_s, ι_nat, ι_add, ι_mul, ι_sub, ι_addm, lt_t, lt_f, le_t, le_f, eq_t, eq_f, inb_t, inb_f, neq_f, neq_f2, neq_nf, nlt_t, nlt_f, nle_t, nle_f, ms_at, ms_off, up_at, up_off, L0, L1, L2, L3, L4, L5, L6, L7, L8, L9, L10, L11, L12, L13, L14, L15, L16, L17, L18, L19, L20, L21, L22, L23, L24, L30, L31, L32, L40, L41, L42, L43, L45, L47, L48, L52, L57, L59, L60, L61, L63, L64, L72, L97, L99, L100, L122, L160, L161, L200, L255, L999, L1200, L1998, L99999, L100000, L1000005]
  unfold f_X9_canBe f_X9_canBe_b50
  rw [st, ob_s]
  by_cases c4 : B v 4 = 0
  · rw [if_pos c4, if_neg (show ¬ ι 1 = (0 : Int32) by decide), if_neg (show ¬ ι s ≤ (0 : Int32) by rw [L0, le_f (by omega) (by omega)]; exact id), L6, ι_mul, if_pos (inb_t (by omega) (by omega)), L1, ι_sub hs (by omega), hwi, if_pos (inb_t (by omega) (by omega)), ι_nat (by omega), hw (s - 1) (by omega), ι_mul, ι_add, if_pos (inb_t (by omega) (by omega)), ι_nat (by omega), ι_nat (by omega), fb_0 hF hv, fb_1 hF wl, hm]
    by_cases c0 : B v 0 = m
    · rw [if_pos (show ι (B v 0) = ι m by rw [c0])]
      have hup : ∀ j, j < s + 1 → wup wy s v j < V := by
        intro j hj
        by_cases c : j = s
        · rw [c, wup_s]; exact hv
        · rw [wup_lt (by omega)]; exact (hW.1 j (by omega)).1
      have key : (∃ j, 1 ≤ j ∧ j < s ∧ B (wy j) 0 = B v 1) ↔ ¬ (B v 1 = B (wy 0) 0 ∨ bitN (uB B (wup wy s v) (s + 1)) (B v 1) = 0) := by
        have ub := uB_bit hM hO (show B v 1 < 6 by omega) (s + 1) hup
        constructor
        · rintro ⟨j, j1, j2, j3⟩ h
          rcases h with h | h
          · exact hW.2 0 j (by omega) j2 (by rw [j3, h])
          · have := ub.1 h j (by omega)
            rw [wup_lt j2] at this
            exact this j3
        · intro h
          by_cases c : ∃ j, 1 ≤ j ∧ j < s ∧ B (wy j) 0 = B v 1
          · exact c
          · exfalso
            refine h (Or.inr (ub.2 (fun j hj => ?_)))
            by_cases cj : j = s
            · rw [cj, wup_s]; exact b.2.2.1
            · rw [wup_lt (by omega)]
              intro e
              by_cases j0 : j = 0
              · rw [j0] at e; exact h (Or.inl e.symm)
              · exact c ⟨j, by omega, by omega, e⟩
      rcases l with ⟨c, l⟩ | ⟨c, l⟩
      · rw [l, if_neg (fun h => key.1 c h.2)]
      · rw [l, if_pos ⟨⟨c4, c0⟩, by
          by_cases h : B v 1 = B (wy 0) 0 ∨ bitN (uB B (wup wy s v) (s + 1)) (B v 1) = 0
          · exact h
          · exact absurd (key.2 h) c⟩]
    · have m6 : m < 6 := by
        rw [← hm]
        omega
      rw [if_neg (show ¬ ι (B v 0) = ι m by rw [eq_f c0 (by omega) (by omega)]; exact id), if_neg (fun h => c0 h.1.2)]
      rfl
  · rw [if_neg c4, if_pos (show ι 0 = (0 : Int32) from rfl), if_neg (fun h => c4 h.1.1)]
    rfl
theorem WY_up {τ τ' : Mem} {wy : Nat → Nat} {s v : Nat} (h : WY τ wy s) (e : ∀ j, j < s → τ' 19 j = τ 19 j) (hv : τ' 19 s = ι v) : WY τ' (wup wy s v) (s + 1) := by
  intro j hj
  by_cases c : j = s
  · rw [c, wup_s, hv]
  · rw [wup_lt (by omega), e j (by omega)]
    exact h j (by omega)
theorem FB_W {V s : Nat} {B : TB2} {τ τ' : Mem} (h : FB V B τ) (e : frW s τ τ') : FB V B τ' := FB_fr h (fun j => e 4 j (by omega) (by omega))
theorem dg_bound {d r : Nat} (h : d ≤ r) : 1 + d * (1 + 2 ^ (r - d + 1)) ≤ 2 ^ (r + 1) := by
  by_cases c : d = 0
  · subst c
    have : 0 < 2 ^ (r + 1) := Nat.pow_pos (by decide)
    omega
  · have h1 : d ≤ 2 ^ (d - 1) := by
      have : ∀ d, d ≤ 2 ^ d - 1 + 1 → True := fun _ _ => trivial
      have h2 := Nat.lt_two_pow_self (n := d - 1)
      omega
    have h3 : 2 ^ (d - 1) * 2 ^ (r - d + 1) = 2 ^ r := by
      rw [← Nat.pow_add]
      congr 1
      omega
    have h4 : d * 2 ^ (r - d + 1) ≤ 2 ^ r := by
      rw [← h3]
      exact Nat.mul_le_mul_right _ h1
    have h5 : 1 + d ≤ 2 ^ r := by
      have h6 := Nat.lt_two_pow_self (n := d)
      have h7 := Nat.pow_le_pow_right (show 0 < 2 by decide) h
      omega
    have h8 : 2 ^ (r + 1) = 2 ^ r * 2 := Nat.pow_succ 2 r
    rw [Nat.mul_add, Nat.mul_one]
    omega
theorem dgN_succ {B : TB2} {m v e : Nat} : dgN B m v (e + 1) = (if B v 0 = m then 1 else 0) + dgN B m (v + 1) e := rfl
theorem r_search {M V f : Nat} {B : TB2} (hM : M ≤ 6) (hV : V ≤ 8) (hO : OKB M V B) : ∀ d m wy s (τ : Mem), s + d = 6 → 1 ≤ s → WOK M V B wy s → m < 6 → m ≠ f → B (wy 0) 0 = f → B (wy (s - 1)) 1 = m → bitN (uB B wy s) m = 0 → τ 0 4 = ι V → FB V B τ → WY τ wy s → τ 19 s = -ι 1 →
    ∃ c τ', c ≤ 2 ^ (wN B V (uB B wy s) + 1) ∧ frW s τ τ' ∧ OUT (closeD B V f d m wy s) τ' c (fun n => f_X9_findsRing_b9 n τ (ι s)) s := by
  intro d
  induction d with
  | zero =>
    intro m wy s τ hs h1 hW hm hmf hf hml hb hV4 hF hY h19
    exfalso
    have p1 := pc_way hM hO s hW
    have p2 := (pc_or (uB_lt hM hO s (fun j hj => (hW.1 j hj).1)) hm hb).2
    omega
  | succ d ih =>
    intro m wy s τ hs h1 hW hm hmf hf hml hb hV4 hF hY h19
    have ul := uB_lt hM hO s (fun j hj => (hW.1 j hj).1)
    have wo := wN_or hM hO ul hm hb
    have L : ∀ e v k (τ : Mem), v + e = V → e < k → τ 0 4 = ι V → FB V B τ → WY τ wy s → ∃ c τ', c ≤ dgN B m v e * (1 + 2 ^ (wN B V (uB B wy s) - dgN B m 0 V + 1)) ∧ frW s τ τ' ∧ OUT (scanV (closeD B V f d) B f m wy s e v) τ' c (fun n => f_X9_findsRing_b22 (f_X9_findsRing_b9 n) (ι s) k τ (ι v)) s := by
      intro e
      induction e with
      | zero =>
        intro v k τ hv hk hV4 hF hY
        obtain ⟨k, rfl⟩ : ∃ q, k = q + 1 := ⟨k - 1, by omega⟩
        refine ⟨0, τ, Nat.zero_le _, fun _ _ _ _ => rfl, fun n0 => ?_⟩
        show f_X9_findsRing_b22 (f_X9_findsRing_b9 (n0 + 0)) (ι s) (k + 1) τ (ι v) = _
        rw [f_X9_findsRing_b22, hV4, if_pos (show ι V ≤ ι v by rw [le_t (by omega) (by omega)]; trivial)]
        unfold f_X9_findsRing_b45 f_X9_findsRing_b93
        rw [hV4, if_pos (show ι v = ι V by rw [show v = V by omega])]
        rfl
      | succ e ihe =>
        intro v k τ hv hk hV4 hF hY
        obtain ⟨k, rfl⟩ : ∃ q, k = q + 1 := ⟨k - 1, by omega⟩
        have hvV : v < V := by omega
        have b := hO v hvV
        have cb := r_canBe hM hV hO hF hY hW hvV h1 (by omega) hml hb
        rw [hf] at cb
        have ds := dgN_succ (B := B) (m := m) (v := v) (e := e)
        -- the vow can't be: on to the next
        have skip : ¬ ((B v 4 = 0 ∧ B v 0 = m) ∧ (B v 1 = f ∨ bitN (uB B (wup wy s v) (s + 1)) (B v 1) = 0)) → scanV (closeD B V f d) B f m wy s (e + 1) v = scanV (closeD B V f d) B f m wy s e (v + 1) → ∃ c τ', c ≤ dgN B m v (e + 1) * (1 + 2 ^ (wN B V (uB B wy s) - dgN B m 0 V + 1)) ∧ frW s τ τ' ∧ OUT (scanV (closeD B V f d) B f m wy s (e + 1) v) τ' c (fun n => f_X9_findsRing_b22 (f_X9_findsRing_b9 n) (ι s) (k + 1) τ (ι v)) s := by
          intro hn he
          rw [if_neg hn] at cb
          obtain ⟨c, τ', q1, q2, q3⟩ := ihe (v + 1) k τ (by omega) (by omega) hV4 hF hY
          refine ⟨c, τ', Nat.le_trans q1 (Nat.mul_le_mul_right _ (by omega)), q2, ?_⟩
          rw [he]
          have er : (fun n => f_X9_findsRing_b22 (f_X9_findsRing_b9 n) (ι s) (k + 1) τ (ι v)) = (fun n => f_X9_findsRing_b22 (f_X9_findsRing_b9 n) (ι s) k τ (ι (v + 1))) := by
            funext n
            rw [f_X9_findsRing_b22, hV4, if_neg (show ¬ ι V ≤ ι v by rw [le_f (by omega) (by omega)]; exact id), cb, ob_s, if_pos (show ι 0 = (0 : Int32) from rfl), L1, ι_add]
          rw [er]
          exact q3
        by_cases hg : B v 4 = 0 ∧ B v 0 = m
        · have hp := WOK_push hM hO hW hvV hg.1 hg.2 hb hm
          have dm : dgN B m v (e + 1) = 1 + dgN B m (v + 1) e := by rw [ds, if_pos hg.2]
          have hcl : ∀ (τ1 : Mem), FB V B τ1 → τ1 19 s = ι v → τ1 19 0 = ι (wy 0) → f_X9_closes τ1 (ι s) = some (ι (if B v 1 = f then 1 else 0)) := by
            intro τ1 hF1 x1 x0
            have w0 := (hW.1 0 (by omega)).1
            have b0 := hO _ w0
            unfold f_X9_closes
            rw [if_neg (show ¬ ι s ≤ (0 : Int32) by rw [L0, le_f (by omega) (by omega)]; exact id), if_pos (inb_t (by omega) (by omega)), ι_nat (by omega), x1, x0, L6, L1, ι_mul, ι_mul, ι_add, if_pos (inb_t (by omega) (by omega)), if_pos (inb_t (by omega) (by omega)), ι_nat (by omega), ι_nat (by omega), fb_1 hF1 hvV, fb_0 hF1 w0, hf]
            by_cases c : B v 1 = f
            · rw [if_pos (show ι (B v 1) = ι f by rw [c]), if_pos c]
            · rw [if_neg (show ¬ ι (B v 1) = ι f by rw [eq_f c (by omega) (by have := b0.1; rw [← hf]; omega)]; exact id), if_neg c]
              rfl
          have f1 : frW s τ (ms τ 19 s (ι v)) := fun p j c1 c2 => ms_off (by omega)
          have x1 : (ms τ 19 s (ι v)) 19 s = ι v := ms_at rfl rfl
          have x0 : (ms τ 19 s (ι v)) 19 0 = ι (wy 0) := by rw [ms_off (by omega)]; exact hY 0 (by omega)
          have cl := hcl _ (FB_W hF f1) x1 x0
          by_cases c2 : B v 1 = f
          · rw [if_pos ⟨hg, Or.inl c2⟩] at cb
            rw [if_pos c2] at cl
            have eo : scanV (closeD B V f d) B f m wy s (e + 1) v = some (wup wy s v, s + 1) := by
              unfold scanV
              rw [if_pos hg, if_pos c2]
            refine ⟨0, ms (ms τ 19 s (ι v)) 0 43 (ι (s + 1)), Nat.zero_le _, fun p j c1 c2 => by rw [ms_off (by omega), ms_off (by omega)], ?_⟩
            rw [eo]
            refine ⟨WY_up hY (fun j hj => by rw [ms_off (by omega), ms_off (by omega)]) (by rw [ms_off (by omega), x1]), ms_at rfl rfl, fun n0 => ?_⟩
            show f_X9_findsRing_b22 (f_X9_findsRing_b9 (n0 + 0)) (ι s) (k + 1) τ (ι v) = _
            rw [f_X9_findsRing_b22, hV4, if_neg (show ¬ ι V ≤ ι v by rw [le_f (by omega) (by omega)]; exact id), cb, ob_s, if_neg (show ¬ ι 1 = (0 : Int32) by decide)]
            unfold f_X9_findsRing_b45
            rw [hV4, if_neg (show ¬ ι v = ι V by rw [eq_f (by omega) (by omega) (by omega)]; exact id), if_pos (inb_t (by omega) (by omega)), ι_nat (by omega), cl, ob_s, if_neg (show ¬ ι 1 = (0 : Int32) by decide), od_e, L1, ι_add]
          · by_cases c3 : bitN (uB B (wup wy s v) (s + 1)) (B v 1) = 0
            · rw [if_pos ⟨hg, Or.inr c3⟩] at cb
              rw [if_neg c2] at cl
              let τ1 := ms (ms τ 19 s (ι v)) 19 (s + 1) (-ι 1)
              have fr1 : frW s τ τ1 := fun p j q1 q2 => by
                show ms (ms τ 19 s (ι v)) 19 (s + 1) (-ι 1) p j = _
                rw [ms_off (by omega), ms_off (by omega)]
              have hd1 : s + 1 + d = 6 := by omega
              have wup0 : B (wup wy s v 0) 0 = f := by rw [wup_lt (by omega)]; exact hf
              have t1s : τ1 19 s = ι v := by
                show ms (ms τ 19 s (ι v)) 19 (s + 1) (-ι 1) 19 s = _
                rw [ms_off (by omega), x1]
              have hY1 : WY τ1 (wup wy s v) (s + 1) := WY_up hY (fun j hj => fr1 19 j (by omega) (by omega)) t1s
              obtain ⟨c1, τ2, q1, q2, q3⟩ := ih (B v 1) (wup wy s v) (s + 1) τ1 hd1 (by omega) hp (by omega) c2 wup0 (by rw [Nat.add_sub_cancel, wup_s]) c3 (by rw [fr1 _ _ (by omega) (by omega)]; exact hV4) (FB_W hF fr1) hY1 (by
                show ms (ms τ 19 s (ι v)) 19 (s + 1) (-ι 1) 19 (s + 1) = _
                rw [ms_at rfl rfl])
              have eU : wN B V (uB B (wup wy s v) (s + 1)) = wN B V (uB B wy s) - dgN B m 0 V := by
                rw [uB_up, hg.2]
                omega
              rw [eU] at q1
              have er : ∀ n, f_X9_findsRing_b22 (f_X9_findsRing_b9 n) (ι s) (k + 1) τ (ι v) = f_X9_findsRing_b9 n τ1 (ι (s + 1)) := by
                intro n
                rw [f_X9_findsRing_b22, hV4, if_neg (show ¬ ι V ≤ ι v by rw [le_f (by omega) (by omega)]; exact id), cb, ob_s, if_neg (show ¬ ι 1 = (0 : Int32) by decide)]
                unfold f_X9_findsRing_b45 f_X9_findsRing_b93
                rw [hV4, if_neg (show ¬ ι v = ι V by rw [eq_f (by omega) (by omega) (by omega)]; exact id), if_pos (inb_t (by omega) (by omega)), ι_nat (by omega), cl, ob_s, if_pos (show ι 0 = (0 : Int32) from rfl), L1, ι_add, if_pos (inb_t (by omega) (by omega)), ι_nat (by omega)]
                rfl
              cases hr : closeD B V f d (B v 1) (wup wy s v) (s + 1) with
              | some r =>
                rw [hr] at q3
                obtain ⟨z1, z2, z3⟩ := q3
                have eo : scanV (closeD B V f d) B f m wy s (e + 1) v = some r := by
                  unfold scanV
                  rw [if_pos hg, if_neg c2, if_pos c3, hr]
                refine ⟨c1, τ2, ?_, fr1.tr (q2.mono (by omega)), ?_⟩
                · rw [dm, Nat.add_mul, Nat.one_mul]
                  omega
                · rw [eo]
                  exact ⟨z1, z2, fun n0 => by
                    show f_X9_findsRing_b22 (f_X9_findsRing_b9 (n0 + c1)) (ι s) (k + 1) τ (ι v) = _
                    rw [er]; exact z3 n0⟩
              | none =>
                rw [hr] at q3
                have eo : scanV (closeD B V f d) B f m wy s (e + 1) v = scanV (closeD B V f d) B f m wy s e (v + 1) := by
                  show (if B v 4 = 0 ∧ B v 0 = m then _ else _) = _
                  rw [if_pos hg, if_neg c2, if_pos c3, hr]
                have fr2 : frW s τ τ2 := fr1.tr (q2.mono (by omega))
                have t2s : τ2 19 s = ι v := by rw [q2 _ _ (by omega) (by omega)]; exact t1s
                obtain ⟨c', τ3, p1, p2, p3⟩ := ihe (v + 1) FU τ2 (by omega) (by unfold FU; omega) (by rw [fr2 _ _ (by omega) (by omega)]; exact hV4) (FB_W hF fr2) (fun j hj => by rw [fr2 _ _ (by omega) (by omega)]; exact hY j hj)
                have er2 : ∀ n0, f_X9_findsRing_b22 (f_X9_findsRing_b9 (n0 + (c1 + 1 + c'))) (ι s) (k + 1) τ (ι v) = f_X9_findsRing_b22 (f_X9_findsRing_b9 (n0 + c')) (ι s) FU τ2 (ι (v + 1)) := by
                  intro n0
                  rw [er, show n0 + (c1 + 1 + c') = n0 + c' + 1 + c1 by omega]
                  have := q3 (n0 + c' + 1)
                  refine Eq.trans this ?_
                  rw [show (ι (s + 1) + -1 : Int32) = ι s from (ι_addm (show 1 ≤ s + 1 by omega) (by omega)).trans (by rw [Nat.add_sub_cancel]), f_X9_findsRing_b9, if_neg (show ¬ ι s < (0 : Int32) by rw [L0, lt_f (by omega) (by omega)]; exact id), if_pos (inb_t (by omega) (by omega)), ι_nat (by omega), t2s, od_e, L1, ι_add]
                refine ⟨c1 + 1 + c', τ3, ?_, fr2.tr p2, ?_⟩
                · rw [dm, Nat.add_mul, Nat.one_mul]
                  omega
                · rw [eo]
                  cases ho : scanV (closeD B V f d) B f m wy s e (v + 1) with
                  | some r =>
                    rw [ho] at p3
                    obtain ⟨z1, z2, z3⟩ := p3
                    exact ⟨z1, z2, fun n0 => (er2 n0).trans (z3 n0)⟩
                  | none =>
                    rw [ho] at p3
                    exact fun n0 => (er2 n0).trans (p3 n0)
            · refine skip (fun h => ?_) ?_
              · rcases h.2 with h | h
                · exact c2 h
                · exact c3 h
              · show (if B v 4 = 0 ∧ B v 0 = m then _ else _) = _
                rw [if_pos hg, if_neg c2, if_neg c3]
        · refine skip (fun h => hg h.1) ?_
          show (if B v 4 = 0 ∧ B v 0 = m then _ else _) = _
          rw [if_neg hg]
    obtain ⟨c, τ', q1, q2, q3⟩ := L V 0 FU τ (by omega) (by unfold FU; omega) hV4 hF hY
    refine ⟨c + 1, τ', ?_, q2, ?_⟩
    · have := dg_bound (d := dgN B m 0 V) (r := wN B V (uB B wy s)) (by omega)
      omega
    · have er : ∀ n0, f_X9_findsRing_b9 (n0 + (c + 1)) τ (ι s) = f_X9_findsRing_b22 (f_X9_findsRing_b9 (n0 + c)) (ι s) FU τ (ι 0) := by
        intro n0
        rw [show n0 + (c + 1) = n0 + c + 1 by omega, f_X9_findsRing_b9, if_neg (show ¬ ι s < (0 : Int32) by rw [L0, lt_f (by omega) (by omega)]; exact id), if_pos (inb_t (by omega) (by omega)), ι_nat (by omega), h19, od_e]
        rfl
      show OUT (scanV (closeD B V f d) B f m wy s V 0) τ' (c + 1) _ s
      cases ho : scanV (closeD B V f d) B f m wy s V 0 with
      | some r =>
        rw [ho] at q3
        obtain ⟨z1, z2, z3⟩ := q3
        exact ⟨z1, z2, fun n0 => (er n0).trans (z3 n0)⟩
      | none =>
        rw [ho] at q3
        exact fun n0 => (er n0).trans (q3 n0)
