def bS (z v : Nat) : Nat → Bool := fun u => decide (u < v) && !decide (bitN z u = 0)
def inW (wy : Nat → Nat) : Nat → Nat → Bool
  | 0, _ => false
  | k + 1, u => inW wy k u || decide (u = wy k)
theorem inW_iff {wy : Nat → Nat} {u : Nat} : ∀ k, inW wy k u = true ↔ ∃ j, j < k ∧ wy j = u
  | 0 => ⟨fun h => (by cases h), fun ⟨j, h, _⟩ => (by omega)⟩
  | k + 1 => by
    show (inW wy k u || decide (u = wy k)) = true ↔ _
    rw [Bool.or_eq_true, decide_eq_true_eq, inW_iff k]
    constructor
    · rintro (⟨j, h1, h2⟩ | h)
      · exact ⟨j, by omega, h2⟩
      · exact ⟨k, by omega, h.symm⟩
    · rintro ⟨j, h1, h2⟩
      by_cases c : j = k
      · rw [c] at h2; exact Or.inr h2.symm
      · exact Or.inl ⟨j, by omega, h2⟩
theorem CB_ext {t V : Nat} {B B' : TB2} {σ : Mem} (h : CB t V B σ) (e : ∀ v j, v < V → B v j = B' v j) : CB t V B' σ := by
  intro v hv
  rw [← e v 0 hv, ← e v 1 hv, ← e v 2 hv, ← e v 3 hv, ← e v 4 hv, ← e v 5 hv]
  exact h v hv
theorem FB_ext {V : Nat} {B B' : TB2} {τ : Mem} (h : FB V B τ) (e : ∀ v j, v < V → B v j = B' v j) : FB V B' τ := by
  intro v hv
  rw [← e v 0 hv, ← e v 1 hv, ← e v 2 hv, ← e v 3 hv, ← e v 4 hv, ← e v 5 hv]
  exact h v hv
theorem clr_no2 {B : TB2} {l v : Nat} {S : Nat → Bool} (h : S v = false) : clrB B l S v 2 = B v 2 := by
  rw [clr_2, if_neg (by rw [h]; decide)]
theorem c_clrL {M V l z : Nat} {B : TB2} (hV : V ≤ 8) (hO : OKB M V B) (hS : OKS V B) (hz : z < 256) (hl : ∀ u, u < V → bitN z u ≠ 0 → l ≤ B u 2) : ∀ e v n x (σ : Mem), v + e = V → e < n → σ 15 4 = ι V → CB 15 V (clrB B l (bS z v)) σ →
    ∃ σ', f_X6_clearRing_b11 15 (ι z) (ι l) n σ (ι x) (ι v) = some (ι (x + l * sumF (fun u => if bitN z u = 0 then 0 else 1) v e), σ') ∧ CB 15 V (clrB B l (bS z V)) σ' ∧ ∀ k j, ¬ (24 ≤ k ∧ k < 32) → σ' k j = σ k j := by
  intro e
  induction e with
  | zero =>
    intro v n x σ hv hn h4 hC
    obtain ⟨n, rfl⟩ : ∃ q, n = q + 1 := ⟨n - 1, by omega⟩
    have ev : v = V := by omega
    subst ev
    refine ⟨σ, ?_, hC, fun _ _ _ => rfl⟩
    rw [f_X6_clearRing_b11, h4, if_pos (show ι v ≤ ι v by rw [le_t (by omega) (by omega)]; trivial)]
    rfl
  | succ e ih =>
    intro v n x σ hv hn h4 hC
    obtain ⟨n, rfl⟩ : ∃ q, n = q + 1 := ⟨n - 1, by omega⟩
    have hvV : v < V := by omega
    have b := hO v hvV
    have bc : ((ι z >>> (ι v &&& 31)) &&& ι 1) = ι (bitN z v) := bit_c hz (by omega)
    have es : sumF (fun u => if bitN z u = 0 then 0 else 1) v (e + 1) = (if bitN z v = 0 then 0 else 1) + sumF (fun u => if bitN z u = 0 then 0 else 1) (v + 1) e := rfl
    have sv : bS z v v = false := by
      unfold bS
      rw [decide_eq_false (show ¬ v < v by omega), Bool.false_and]
    rw [es, f_X6_clearRing_b11, h4, if_neg (show ¬ ι V ≤ ι v by rw [le_f (by omega) (by omega)]; exact id), show (8 : Int32) = ι 8 from rfl, if_neg (show ¬ ι 8 ≤ ι v by rw [le_f (by omega) (by omega)]; exact id), L1, bc]
    by_cases c : bitN z v = 0
    · rw [if_pos (show ι (bitN z v) = 0 by rw [c]; rfl), show (if bitN z v = 0 then 0 else 1) = 0 from if_pos c, Nat.zero_add]
      unfold f_X6_clearRing_b97
      rw [L1, ι_add]
      refine ih (v + 1) n x σ (by omega) (by omega) h4 (CB_ext hC (clr_ext hO (fun u hu => ?_)))
      unfold bS
      by_cases cu : u = v
      · rw [cu, c]
        rw [decide_eq_true (rfl : (0 : Nat) = 0), Bool.not_true, Bool.and_false, Bool.and_false]
      · rw [show decide (u < v) = decide (u < v + 1) from decide_eq_decide.2 ⟨fun h => by omega, fun h => by omega⟩]
    · rw [if_neg (show ¬ ι (bitN z v) = 0 by rw [L0, eq_f c (by have := bitN_le (s := z) (f := v); omega) (by omega)]; exact id), show (if bitN z v = 0 then 0 else 1) = 1 from if_neg c]
      have hi := inb_t (show v < 8 by omega) (show v < 2147483648 by omega)
      have hlv := hl v hvV c
      have r2 := cb_2 hC hvV
      rw [clr_no2 sv] at r2
      obtain ⟨σ1, q1, q2, q3⟩ := c_clr1 hV hO hS hvV sv hlv h4 hC (f_X6_clearRing_b11 15 (ι z) (ι l) n) (ι z) (ι (x + l))
      rw [if_pos hi, ι_nat (by omega), r2, ι_sub hlv (by omega), od_e, if_pos hi, if_pos hi]
      obtain ⟨σ', p1, p2, p3⟩ := ih (v + 1) n (x + l) σ1 (by omega) (by omega) (by rw [q3 _ _ (by omega)]; exact h4) (CB_ext q2 (clr_ext hO (fun u hu => by
        unfold ins bS
        by_cases cu : u = v
        · rw [cu, decide_eq_true (rfl : v = v), Bool.or_true, decide_eq_true (show v < v + 1 by omega), decide_eq_false c]
          rfl
        · rw [decide_eq_false cu, Bool.or_false, show decide (u < v) = decide (u < v + 1) from decide_eq_decide.2 ⟨fun h => by omega, fun h => by omega⟩])))
      refine ⟨σ', ?_, p2, fun k j q => by rw [p3 k j q, q3 k j q]⟩
      simp only [if_pos hi, ι_add]
      refine Eq.trans q1 ?_
      unfold f_X6_clearRing_b97
      rw [L1, ι_add, p1, Nat.mul_add, Nat.mul_one, Nat.add_assoc]
theorem r_clr1 {M V l v : Nat} {B : TB2} {S : Nat → Bool} {τ : Mem} (hV : V ≤ 8) (hO : OKB M V B) (hS : OKS V B) (hv : v < V) (h : S v = false) (hl : l ≤ B v 2) (hF : FB V (clrB B l S) τ) :
    ∃ τ', (if (ms τ 4 (6 * v + 2) (ι (B v 2 - l)) 4 (6 * v + 2)) = 0 then f_X9_clears (ms τ 4 (6 * v + 2) (ι (B v 2 - l))) (ι v) else some (ms τ 4 (6 * v + 2) (ι (B v 2 - l)))) = some τ' ∧ FB V (clrB B l (ins S v)) τ' ∧ ∀ k j, k ≠ 4 → τ' k j = τ k j := by
  have b := hO v hv
  rw [ms_at rfl rfl]
  by_cases c : B v 2 = l
  · rw [if_pos (show ι (B v 2 - l) = 0 by rw [c, Nat.sub_self]; rfl)]
    have e5 : (ms τ 4 (6 * v + 2) (ι (B v 2 - l))) 4 (6 * v + 4) = pl (clrB B l S v 5) := by
      rw [ms_off (by omega)]
      exact fb_4 hF hv
    have p5 := clr_5le (l := l) (S := S) hO hv
    by_cases cp : clrB B l S v 5 = 0
    · refine ⟨ms (ms (ms τ 4 (6 * v + 2) (ι (B v 2 - l))) 4 (6 * v + 5) (ι 3)) 4 (6 * v + 4) (-ι 1), ?_, ?_, fun k j q => by rw [ms_off (by omega), ms_off (by omega), ms_off (by omega)]⟩
      · unfold f_X9_clears
        rw [L6, L4, L5, ι_mul, ι_add, ι_add, if_pos (inb_t (show 6 * v + 4 < 48 by omega) (by omega)), od_e, show (ι (6 * v + 4)).toNatClampNeg = 6 * v + 4 from ι_nat (by omega), e5, pl_0 cp, if_pos (inb_t (show 6 * v + 5 < 48 by omega) (by omega)), od_e, show (ι (6 * v + 5)).toNatClampNeg = 6 * v + 5 from ι_nat (by omega), if_pos (inb_t (show 6 * v + 4 < 48 by omega) (by omega)), od_e, if_pos (show (-ι 1 : Int32) = -1 from rfl)]
        rfl
      · intro u hu
        obtain ⟨r0, r1, r2, r3, r4, r5⟩ := hF u hu
        rw [clr_e2 c, clr_e4 c, clr_e5 hS hv hu h c]
        by_cases cu : u = v
        · subst cu
          rw [if_pos rfl, if_pos rfl, if_pos (Or.inl rfl)]
          refine ⟨?_, ?_, ?_, ?_, ?_, ?_⟩
          · rw [ms_off (by omega), ms_off (by omega), ms_off (by omega)]; exact r0
          · rw [ms_off (by omega), ms_off (by omega), ms_off (by omega)]; exact r1
          · rw [ms_off (by omega), ms_off (by omega), ms_at rfl rfl, c, Nat.sub_self]
          · rw [ms_off (by omega), ms_off (by omega), ms_off (by omega)]; exact r3
          · rw [ms_at rfl rfl]; rfl
          · rw [ms_off (by omega), ms_at rfl rfl]
        · rw [if_neg cu, if_neg cu, if_neg (fun e => e.elim cu (fun e => e.1 cp))]
          simp (disch := omega) only [ms_off]
          exact ⟨r0, r1, r2, r3, r4, r5⟩
    · refine ⟨ms (ms (ms (ms τ 4 (6 * v + 2) (ι (B v 2 - l))) 4 (6 * v + 5) (ι 3)) 4 (6 * v + 4) (-ι 1)) 4 (6 * (clrB B l S v 5 - 1) + 4) (-ι 1), ?_, ?_, fun k j q => by rw [ms_off (by omega), ms_off (by omega), ms_off (by omega), ms_off (by omega)]⟩
      · unfold f_X9_clears
        rw [L6, L4, L5, ι_mul, ι_add, ι_add, if_pos (inb_t (show 6 * v + 4 < 48 by omega) (by omega)), od_e, show (ι (6 * v + 4)).toNatClampNeg = 6 * v + 4 from ι_nat (by omega), e5, pl_s (by omega), if_pos (inb_t (show 6 * v + 5 < 48 by omega) (by omega)), od_e, show (ι (6 * v + 5)).toNatClampNeg = 6 * v + 5 from ι_nat (by omega), if_pos (inb_t (show 6 * v + 4 < 48 by omega) (by omega)), od_e, if_neg (show ¬ (ι (clrB B l S v 5 - 1) = (-1 : Int32)) from of_eq_false (neq_f (b := 1) (by omega) (by omega) (by omega))), ι_mul, ι_add, if_pos (inb_t (by omega) (by omega)), od_e, ι_nat (by omega)]
        rfl
      · intro u hu
        obtain ⟨r0, r1, r2, r3, r4, r5⟩ := hF u hu
        rw [clr_e2 c, clr_e4 c, clr_e5 hS hv hu h c]
        by_cases cu : u = v
        · subst cu
          rw [if_pos rfl, if_pos rfl, if_pos (Or.inl rfl)]
          refine ⟨?_, ?_, ?_, ?_, ?_, ?_⟩
          · rw [ms_off (by omega), ms_off (by omega), ms_off (by omega), ms_off (by omega)]; exact r0
          · rw [ms_off (by omega), ms_off (by omega), ms_off (by omega), ms_off (by omega)]; exact r1
          · rw [ms_off (by omega), ms_off (by omega), ms_off (by omega), ms_at rfl rfl, c, Nat.sub_self]
          · rw [ms_off (by omega), ms_off (by omega), ms_off (by omega), ms_off (by omega)]; exact r3
          · by_cases co : clrB B l S u 5 - 1 = u
            · rw [ms_at rfl (by omega)]; rfl
            · rw [ms_off (by omega), ms_at rfl rfl]; rfl
          · rw [ms_off (by omega), ms_off (by omega), ms_at rfl rfl]
        · rw [if_neg cu, if_neg cu]
          refine ⟨?_, ?_, ?_, ?_, ?_, ?_⟩
          · rw [ms_off (by omega), ms_off (by omega), ms_off (by omega), ms_off (by omega)]; exact r0
          · rw [ms_off (by omega), ms_off (by omega), ms_off (by omega), ms_off (by omega)]; exact r1
          · rw [ms_off (by omega), ms_off (by omega), ms_off (by omega), ms_off (by omega)]; exact r2
          · rw [ms_off (by omega), ms_off (by omega), ms_off (by omega), ms_off (by omega)]; exact r3
          · by_cases co : u = clrB B l S v 5 - 1
            · rw [if_pos (Or.inr ⟨cp, co⟩), ms_at rfl (by omega)]
              rfl
            · rw [if_neg (fun e => e.elim cu (fun e => co e.2)), ms_off (by omega), ms_off (by omega), ms_off (by omega), ms_off (by omega)]
              exact r4
          · rw [ms_off (by omega), ms_off (by omega), ms_off (by omega), ms_off (by omega)]; exact r5
  · rw [if_neg (show ¬ ι (B v 2 - l) = 0 by rw [L0, eq_f (by omega) (by omega) (by omega)]; exact id)]
    refine ⟨ms τ 4 (6 * v + 2) (ι (B v 2 - l)), rfl, ?_, fun k j q => by rw [ms_off (by omega)]⟩
    have st := clr_ne (S := S) c
    intro u hu
    obtain ⟨r0, r1, r2, r3, r4, r5⟩ := hF u hu
    rw [st, st, st, st, st, st]
    by_cases cu : u = v
    · subst cu
      simp (disch := omega) only [up_at, up_off, ms_at, ms_off]
      exact ⟨r0, r1, trivial, r3, r4, r5⟩
    · simp (disch := omega) only [up_off, ms_off]
      exact ⟨r0, r1, r2, r3, r4, r5⟩
theorem r_clrL {M V l s : Nat} {B : TB2} {wy : Nat → Nat} (hV : V ≤ 8) (hO : OKB M V B) (hS : OKS V B) (hW : WOK M V B wy s) (hs : s ≤ 8) (hl : ∀ j, j < s → l ≤ B (wy j) 2) (s2 : Mem → Int32 → Option (Int32 × Mem)) (x : Int32) : ∀ e k n (τ : Mem), k + e = s → e < n → WY τ wy s → τ 0 43 = ι s → FB V (clrB B l (inW wy k)) τ →
    ∃ τ', f_X9_clear_b25 s2 x (ι l) n τ (ι k) = s2 τ' x ∧ FB V (clrB B l (inW wy s)) τ' ∧ ∀ k j, k ≠ 4 → τ' k j = τ k j := by
  intro e
  induction e with
  | zero =>
    intro k n τ hk hn hY h43 hF
    obtain ⟨n, rfl⟩ : ∃ q, n = q + 1 := ⟨n - 1, by omega⟩
    have ek : k = s := by omega
    subst ek
    refine ⟨τ, ?_, hF, fun _ _ _ => rfl⟩
    rw [f_X9_clear_b25, h43, if_pos (show ι k ≤ ι k by rw [le_t (by omega) (by omega)]; trivial)]
  | succ e ih =>
    intro k n τ hk hn hY h43 hF
    obtain ⟨n, rfl⟩ : ∃ q, n = q + 1 := ⟨n - 1, by omega⟩
    have hks : k < s := by omega
    have wv := (hW.1 k hks).1
    have b := hO _ wv
    have sv : inW wy k (wy k) = false := by
      rw [Bool.eq_false_iff]
      intro h
      obtain ⟨j, j1, j2⟩ := (inW_iff k).1 h
      exact hW.2 j k j1 hks (by rw [j2])
    have r2 := fb_2 hF wv
    rw [clr_no2 sv] at r2
    obtain ⟨τ1, q1, q2, q3⟩ := r_clr1 hV hO hS wv sv (hl k hks) hF
    obtain ⟨τ', p1, p2, p3⟩ := ih (k + 1) n τ1 (by omega) (by omega) (fun j hj => by rw [q3 _ _ (by decide)]; exact hY j hj) (by rw [q3 _ _ (by decide)]; exact h43) q2
    refine ⟨τ', ?_, p2, fun k j q => by rw [p3 k j q, q3 k j q]⟩
    have hy19 : (ms τ 4 (6 * wy k + 2) (ι (B (wy k) 2 - l))) 19 k = ι (wy k) := by rw [ms_off (by omega)]; exact hY k hks
    rw [f_X9_clear_b25, h43, if_neg (show ¬ ι s ≤ ι k by rw [le_f (by omega) (by omega)]; exact id), if_pos (inb_t (by omega) (by omega)), ι_nat (by omega), hY k hks, L6, L2, ι_mul, ι_add, od_e, if_pos (inb_t (by omega) (by omega)), if_pos (inb_t (by omega) (by omega)), ι_nat (by omega), r2, ι_sub (hl k hks) (by omega), od_e, if_pos (inb_t (by omega) (by omega)), hy19, if_pos (inb_t (show k < 8 by omega) (by omega))]
    unfold f_X9_clear_b77
    by_cases c : (ms τ 4 (6 * wy k + 2) (ι (B (wy k) 2 - l)) 4 (6 * wy k + 2)) = 0
    · rw [if_pos c] at q1
      rw [if_pos c, q1, ob_s, L1, ι_add]
      exact p1
    · rw [if_neg c] at q1
      cases q1
      rw [if_neg c, L1, ι_add]
      exact p1
theorem sumF_ind {a : Nat} : ∀ d i, i ≤ a → a < i + d → sumF (fun u => if u = a then 1 else 0) i d = 1 := by
  intro d
  induction d with
  | zero => intro i h1 h2; omega
  | succ d ih =>
    intro i h1 h2
    show (if i = a then 1 else 0) + sumF (fun u => if u = a then 1 else 0) (i + 1) d = 1
    by_cases c : i = a
    · rw [if_pos c]
      have : sumF (fun u => if u = a then 1 else 0) (i + 1) d = 0 := by
        have e : sumF (fun u => if u = a then 1 else 0) (i + 1) d = sumF (fun _ => 0) (i + 1) d := sumF_ext d (i + 1) (fun j g1 g2 => if_neg (by omega))
        rw [e]
        have := sumF_le (f := fun _ => 0) (c := 0) (fun _ => Nat.le_refl 0) d (i + 1)
        omega
      omega
    · rw [if_neg c, ih (i + 1) (by omega) (by omega)]
theorem sumF_add {f g h : Nat → Nat} : ∀ d i, (∀ j, i ≤ j → j < i + d → h j = f j + g j) → sumF h i d = sumF f i d + sumF g i d := by
  intro d
  induction d with
  | zero => intro i _; rfl
  | succ d ih =>
    intro i hh
    show h i + sumF h (i + 1) d = (f i + sumF f (i + 1) d) + (g i + sumF g (i + 1) d)
    rw [hh i (by omega) (by omega), ih (i + 1) (fun j h1 h2 => hh j (by omega) (by omega))]
    omega
theorem cnt_way {M V : Nat} {B : TB2} {wy : Nat → Nat} (hV : V ≤ 8) : ∀ s, WOK M V B wy s → sumF (fun u => if bitN (vB wy s) u = 0 then 0 else 1) 0 V = s := by
  intro s
  induction s with
  | zero =>
    intro _
    have e : sumF (fun u => if bitN (vB wy 0) u = 0 then 0 else 1) 0 V = sumF (fun _ => 0) 0 V := sumF_ext V 0 (fun j g1 g2 => if_pos (by show bitN 0 j = 0; unfold bitN; rw [Nat.zero_div]))
    rw [e]
    have := sumF_le (f := fun _ => 0) (c := 0) (fun _ => Nat.le_refl 0) V 0
    omega
  | succ s ih =>
    intro hW
    have hW' : WOK M V B wy s := ⟨fun j hj => hW.1 j (by omega), fun i j hij hj => hW.2 i j hij (by omega)⟩
    have hv8 : ∀ j, j < s → wy j < V := fun j hj => (hW.1 j (by omega)).1
    have wv := (hW.1 s (by omega)).1
    have b0 : bitN (vB wy s) (wy s) = 0 := (vB_bit hV (show wy s < 8 by omega) s hv8).2 (fun j hj e => hW.2 j s hj (by omega) (by rw [e]))
    have e := sumF_add (f := fun u => if bitN (vB wy s) u = 0 then 0 else 1) (g := fun u => if u = wy s then 1 else 0) (h := fun u => if bitN (vB wy (s + 1)) u = 0 then 0 else 1) V 0 (fun j g1 g2 => by
      show (if bitN (vB wy s ||| 2 ^ (wy s)) j = 0 then 0 else 1) = (if bitN (vB wy s) j = 0 then 0 else 1) + (if j = wy s then 1 else 0)
      rw [bit_or8 (vB_lt hV s hv8) (by omega) (by omega)]
      by_cases c : j = wy s
      · rw [if_pos c, if_pos c, c, if_pos b0]
        rfl
      · rw [if_neg c, if_neg c, Nat.add_zero])
    rw [e, ih hW', sumF_ind V 0 (by omega) (by omega)]
def nst (V : Nat) (B : TB2) : Nat := sumF (fun u => if B u 4 = 0 then 1 else 0) 0 V
theorem nst_le {V : Nat} {B : TB2} : nst V B ≤ V := by
  have := sumF_le (f := fun u => if B u 4 = 0 then 1 else 0) (c := 1) (fun i => by
    show (if B i 4 = 0 then 1 else 0) ≤ 1
    split <;> omega) V 0
  unfold nst
  omega
theorem sumF_lt {f g : Nat → Nat} {a : Nat} : ∀ d i, i ≤ a → a < i + d → (∀ j, i ≤ j → j < i + d → f j ≤ g j) → f a < g a → sumF f i d < sumF g i d := by
  intro d
  induction d with
  | zero => intro i h1 h2; omega
  | succ d ih =>
    intro i h1 h2 h3 h4
    have hi := h3 i (by omega) (by omega)
    show f i + sumF f (i + 1) d < g i + sumF g (i + 1) d
    by_cases c : i = a
    · have : sumF f (i + 1) d ≤ sumF g (i + 1) d := by
        have L : ∀ d i, (∀ j, i ≤ j → j < i + d → f j ≤ g j) → sumF f i d ≤ sumF g i d := by
          intro d
          induction d with
          | zero => intro i _; exact Nat.le_refl _
          | succ d ih =>
            intro i h
            have h1 := h i (by omega) (by omega)
            have h2 := ih (i + 1) (fun j g1 g2 => h j (by omega) (by omega))
            show f i + sumF f (i + 1) d ≤ g i + sumF g (i + 1) d
            omega
        exact L d (i + 1) (fun j g1 g2 => h3 j (by omega) (by omega))
      rw [c] at this ⊢
      omega
    · have := ih (i + 1) (by omega) (by omega) (fun j g1 g2 => h3 j (by omega) (by omega)) h4
      omega
theorem clr_ok {M V l : Nat} {B : TB2} {S : Nat → Bool} (hO : OKB M V B) (hS : OKS V B) (hl : ∀ u, u < V → S u = true → l ≤ B u 2) : OKB2 M V (clrB B l S) := by
  refine ⟨fun v hv => ?_, fun v hv u hu => ?_⟩
  · obtain ⟨o0, o1, o2, o3, o4, o5, o6, o7⟩ := hO v hv
    have l5 := clr_5le (l := l) (S := S) hO hv
    rw [clr_0, clr_1, clr_3]
    refine ⟨o0, o1, o2, ?_, o4, ?_, l5, ?_⟩
    · rw [clr_2]
      split <;> omega
    · rw [clr_4]
      split <;> omega
    · rw [clr_4, clr_2]
      by_cases c : zrB B l S v = true
      · rw [if_pos c]
        intro h
        omega
      · rw [if_neg c]
        intro h
        have := o7 h
        by_cases cs : S v = true
        · have := hl v hv cs
          have hne : B v 2 ≠ l := fun e => c (by
            unfold zrB
            rw [cs, decide_eq_true e]
            rfl)
          rw [if_pos cs]
          omega
        · rw [if_neg cs]
          exact this
  · have hu' := hu
    rw [clr_5] at hu'
    by_cases c : zrB B l S v = true ∨ (B v 5 ≠ 0 ∧ zrB B l S (B v 5 - 1) = true)
    · rw [if_pos c] at hu'
      omega
    · rw [if_neg c] at hu'
      have hs := hS v hv u hu'
      rw [clr_5, if_neg, hs]
      rintro (e | ⟨e1, e2⟩)
      · exact c (Or.inr ⟨by omega, by rw [hu', Nat.add_sub_cancel]; exact e⟩)
      · rw [hs, Nat.add_sub_cancel] at e2
        exact c (Or.inl e2)
theorem first_none {V : Nat} {B : TB2} : ∀ e v, v + e = V → (∀ u, u < V → B u 4 ≠ 0) → firstD B V e v = none := by
  intro e
  induction e with
  | zero => intro v _ _; rfl
  | succ e ih =>
    intro v hv h
    show (if B v 4 = 0 then _ else _) = none
    rw [if_neg (h v (by omega))]
    exact ih (v + 1) (by omega) h
theorem op_clear : OP_clear RR := by
  intro σ τ hR
  obtain ⟨M, V, w, y, A, B, T, X, h0, hA, hB, hOX, hC, hS, hS9, hF, hCX, hFX, hI, hSh, hD⟩ := id hR
  obtain ⟨hM, hV, hw, hy⟩ := id h0
  obtain ⟨hB, hBs⟩ := id hB
  obtain ⟨a1, a2, a3, a4, a5, a6⟩ := id hC
  obtain ⟨b1, b2, b3, b4, b5, b6⟩ := id hF
  have hT := hOX.2.1
  have c1 := hCX.1
  have f1 := hFX.1
  have L : ∀ d i n n' (x : Nat) (B : TB2) (σ τ : Mem), i + d = 8 → nst V B ≤ d → d < n → d < n' → OKB2 M V B → CT 15 M V w y A B σ → FT M V w y A B τ → ∃ (r : Int32) (B' : TB2) (σ' τ' : Mem), f_X8_clear_b4 n σ (ι x) (ι i) = some (r, σ') ∧ f_X9_clear_b2 n' τ (ι x) = some (r, τ') ∧ OKB2 M V B' ∧ CT 15 M V w y A B' σ' ∧ FT M V w y A B' τ' ∧ (∀ k j, ¬ (24 ≤ k ∧ k < 32) → σ' k j = σ k j) ∧ (∀ k j, k ≠ 4 → ¬ sR k j → τ' k j = τ k j) := by
    intro d
    induction d with
    | zero =>
      intro i n n' x B σ τ hi hs hn hn' hB2 hC hF
      obtain ⟨n, rfl⟩ : ∃ q, n = q + 1 := ⟨n - 1, by omega⟩
      obtain ⟨n', rfl⟩ : ∃ q, n' = q + 1 := ⟨n' - 1, by omega⟩
      have hno : firstD B V V 0 = none := first_none V 0 (by omega) (fun u hu h0 => by
        have := sumF_lt (f := fun _ => 0) (g := fun u => if B u 4 = 0 then 1 else 0) (a := u) V 0 (by omega) (by omega) (fun j _ _ => Nat.zero_le _) (by
          show 0 < if B u 4 = 0 then 1 else 0
          rw [if_pos h0]
          decide)
        unfold nst at hs
        omega)
      obtain ⟨τ', fr, h⟩ := r_find hM hV hB2.1 hF
      rcases h with ⟨r, h1, -⟩ | ⟨h1, h2, h3⟩
      · rw [hno] at h1; cases h1
      · refine ⟨ι x, B, σ, τ', ?_, ?_, hB2, hC, FT_sc hM hV fr.sc hF, fun _ _ _ => rfl, fun k j _ q => fr.sc k j q⟩
        · rw [f_X8_clear_b4, show (8 : Int32) = ι 8 from rfl, if_pos (show ι 8 ≤ ι i by rw [le_t (by omega) (by omega)]; trivial)]
        · rw [f_X9_clear_b2, h2, ob2_s, if_pos (show ι 0 = (0 : Int32) from rfl)]
    | succ d ih =>
      intro i n n' x B σ τ hi hs hn hn' hB2 hC hF
      obtain ⟨n, rfl⟩ : ∃ q, n = q + 1 := ⟨n - 1, by omega⟩
      obtain ⟨n', rfl⟩ : ∃ q, n' = q + 1 := ⟨n' - 1, by omega⟩
      obtain ⟨hB, hBs⟩ := id hB2
      obtain ⟨τ1, fr, h⟩ := r_find hM hV hB hF
      have cf := c_firstRing hM hV hB hC
      have hF1 := FT_sc hM hV fr.sc hF
      rcases h with ⟨r, h1, h2, h3, h4⟩ | ⟨h1, h2, h3⟩
      · obtain ⟨wo, wp⟩ := first_ok hM hB V 0 (by omega) r h1
        have s6 := way_le hM hB wo
        have hW := fun j hj => (wo.1 j hj).1
        have vl := vB_lt hV r.2 hW
        have vp : 0 < vB r.1 r.2 := vB_pos (by omega)
        rw [h1] at cf
        have cf : f_X6_firstRing σ 15 = some (ι (vB r.1 r.2)) := cf
        have cl := c_least hV hB hC vl
        rw [leC_way hV hB wo (by omega)] at cl
        have rl := r_least hV hB hF1.2.2.2.2.2 h3 hW h4 (by omega)
        obtain ⟨lw1, jm, lw2, lw3⟩ := leW_prop (B := B) (wy := r.1) r.2 (by omega)
        have bt : ∀ u, u < V → bitN (vB r.1 r.2) u ≠ 0 → ∃ j, j < r.2 ∧ r.1 j = u := by
          intro u hu hb
          by_cases c : ∃ j, j < r.2 ∧ r.1 j = u
          · exact c
          · exact absurd ((vB_bit hV (show u < 8 by omega) r.2 hW).2 (fun j hj e => c ⟨j, hj, e⟩)) hb
        have bt2 : ∀ j, j < r.2 → bitN (vB r.1 r.2) (r.1 j) ≠ 0 := by
          intro j hj h
          exact (vB_bit hV (show r.1 j < 8 by have := hW j hj; omega) r.2 hW).1 h j hj rfl
        obtain ⟨a1, a2, a3, a4, a5, a6⟩ := id hC
        obtain ⟨b1, b2, b3, b4, b5, b6⟩ := id hF1
        obtain ⟨σ2, p1, p2, p3⟩ := c_clrL (l := leW B r.1 r.2) (z := vB r.1 r.2) hV hB hBs vl (fun u hu hb => by
          obtain ⟨j, j1, rfl⟩ := bt u hu hb
          exact lw1 j j1) V 0 FU 0 σ (by omega) (by unfold FU; omega) a2 (by
            have : bS (vB r.1 r.2) 0 = fun _ => false := by
              funext u
              unfold bS
              rw [decide_eq_false (show ¬ u < 0 by omega), Bool.false_and]
            rw [this, clr_none]
            exact a6)
        rw [cnt_way hV r.2 wo, Nat.zero_add] at p1
        obtain ⟨τ2, q1, q2, q3⟩ := r_clrL (l := leW B r.1 r.2) hV hB hBs wo (by omega) lw1 (f_X9_clear_b2 n') (ι (x + leW B r.1 r.2 * r.2)) r.2 0 FU τ1 (by omega) (by unfold FU; omega) h3 h4 (by
          have : inW r.1 0 = fun _ => false := rfl
          rw [this, clr_none]
          exact b6)
        have eS : ∀ u, u < V → bS (vB r.1 r.2) V u = inW r.1 r.2 u := by
          intro u hu
          rw [Bool.eq_iff_iff, inW_iff]
          unfold bS
          rw [decide_eq_true hu, Bool.true_and]
          constructor
          · intro h
            refine bt u hu (fun e => ?_)
            rw [decide_eq_true e] at h
            cases h
          · rintro ⟨j, j1, rfl⟩
            rw [decide_eq_false (bt2 j j1)]
            rfl
        have p2 := CB_ext p2 (clr_ext (l := leW B r.1 r.2) hB eS)
        have hB2' : OKB2 M V (clrB B (leW B r.1 r.2) (inW r.1 r.2)) := clr_ok hB hBs (fun u hu hS => by
          obtain ⟨j, j1, rfl⟩ := (inW_iff r.2).1 hS
          exact lw1 j j1)
        have hC2 : CT 15 M V w y A (clrB B (leW B r.1 r.2) (inW r.1 r.2)) σ2 := ⟨by rw [p3 _ _ (by omega)]; exact a1, by rw [p3 _ _ (by omega)]; exact a2, by rw [p3 _ _ (by omega)]; exact a3, by rw [p3 _ _ (by omega)]; exact a4, CA_fr a5 (fun i j hi => p3 _ _ (by omega)), p2⟩
        have hF2 : FT M V w y A (clrB B (leW B r.1 r.2) (inW r.1 r.2)) τ2 := ⟨by rw [q3 _ _ (by decide)]; exact b1, by rw [q3 _ _ (by decide)]; exact b2, by rw [q3 _ _ (by decide)]; exact b3, by rw [q3 _ _ (by decide)]; exact b4, FA_fr b5 (fun k j g1 g2 => q3 _ _ (by omega)), q2⟩
        have hns : nst V (clrB B (leW B r.1 r.2) (inW r.1 r.2)) < nst V B := by
          refine sumF_lt (a := r.1 jm) V 0 (by omega) (by have := hW jm lw2; omega) (fun j g1 g2 => ?_) ?_
          · show (if clrB B (leW B r.1 r.2) (inW r.1 r.2) j 4 = 0 then 1 else 0) ≤ if B j 4 = 0 then 1 else 0
            rw [clr_4]
            by_cases c : zrB B (leW B r.1 r.2) (inW r.1 r.2) j = true
            · rw [if_pos c, if_neg (by decide)]
              exact Nat.zero_le _
            · rw [if_neg c]
              exact Nat.le_refl _
          · show (if clrB B (leW B r.1 r.2) (inW r.1 r.2) (r.1 jm) 4 = 0 then 1 else 0) < if B (r.1 jm) 4 = 0 then 1 else 0
            rw [clr_4, if_pos (show zrB B (leW B r.1 r.2) (inW r.1 r.2) (r.1 jm) = true by
              unfold zrB
              rw [(inW_iff r.2).2 ⟨jm, lw2, rfl⟩, decide_eq_true lw3.symm]
              rfl), if_neg (by decide), if_pos (wo.1 jm lw2).2]
            decide
        obtain ⟨rr, B', σ', τ', g1, g2, g3, g4, g5, g6, g7⟩ := ih (i + 1) n n' (x + leW B r.1 r.2 * r.2) _ σ2 τ2 (by omega) (by omega) (by omega) (by omega) hB2' hC2 hF2
        refine ⟨rr, B', σ', τ', ?_, ?_, g3, g4, g5, fun k j q => by rw [g6 k j q, p3 k j q], fun k j c1 c2 => by rw [g7 k j c1 c2, q3 k j c1, fr.sc k j c2]⟩
        · rw [f_X8_clear_b4, show (8 : Int32) = ι 8 from rfl, if_neg (show ¬ ι 8 ≤ ι i by rw [le_f (by omega) (by omega)]; exact id), cf, ob_s, if_neg (show ¬ ι (vB r.1 r.2) = 0 by rw [L0, eq_f (by omega) (by omega) (by omega)]; exact id)]
          unfold f_X6_clearRing
          rw [cl, ob_s, L0, p1, ob2_s, ι_add, L1, ι_add]
          exact g1
        · rw [f_X9_clear_b2, h2, ob2_s, if_neg (show ¬ ι 1 = (0 : Int32) by decide), rl, ob_s, h4, ι_mul, ι_add, L0]
          exact q1.trans g2
      · refine ⟨ι x, B, σ, τ1, ?_, ?_, hB2, hC, hF1, fun _ _ _ => rfl, fun k j _ q => fr.sc k j q⟩
        · rw [h1] at cf
          have cf : f_X6_firstRing σ 15 = some (ι 0) := cf
          rw [f_X8_clear_b4, show (8 : Int32) = ι 8 from rfl, if_neg (show ¬ ι 8 ≤ ι i by rw [le_f (by omega) (by omega)]; exact id), cf, ob_s, if_pos (show ι 0 = (0 : Int32) from rfl)]
        · rw [f_X9_clear_b2, h2, ob2_s, if_pos (show ι 0 = (0 : Int32) from rfl)]
  obtain ⟨r, B', σ', τ', g1, g2, g3, g4, g5, g6, g7⟩ := L 8 0 FU FU 0 B σ τ (by omega) (by have := nst_le (V := V) (B := B); omega) (by unfold FU; omega) (by unfold FU; omega) ⟨hB, hBs⟩ hC hF
  refine ⟨r, σ', τ', ?_, ?_, RR_upd hOX hS9 hCX hFX hI hSh hD (Nat.le_refl M) h0 hA g3 g4 ?_ g5 ?_ ?_⟩
  · unfold f_X8_clear
    rw [L0]
    exact g1
  · unfold f_X9_clear
    rw [L0]
    exact g2
  · intro i hi
    rw [g6 _ _ (by omega)]
    exact hS i hi
  · intro k j h
    unfold oC at h
    exact g6 k j (by omega)
  · intro k j h
    unfold oR at h
    exact g7 k j (by omega) (by unfold sR; omega)
