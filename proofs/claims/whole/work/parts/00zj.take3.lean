theorem r_take_out {T M V s sz h i : Nat} {X : XT} {A B : TB2} {ce : Nat → Int32} {ak tk : Nat → Nat} (hOX : OKX T X) (hOA : OKA M A) (hOB : OKB M V B) (hM : M ≤ 6) (h8 : V ≤ 8) (hO : Off s sz h ce ak tk) {y w z : Nat} (hy : y < T) (hi : i < M) (hw : w < 10000) (hz : z < 2 ^ h) : ∀ d t n (b : Nat) (ok : Bool) (τ : Mem), t + d = 60 → d < n → b ≤ 999 → FXT T X τ → FT M V (w + t) y (up A i 2 b) B τ → τ 10 s = ι sz → (∀ j, j < 40 → τ 11 (40 * s + j) = ce j) →
    ∃ τ', f_X9_canTake_b10 (ι s) (ι i) (ι z) n τ (ι (if ok = true then 1 else 0)) (ι t) = ob (f_X9_laysBack τ') (fun x => some (ι (if (cnD X y (A i) w (owedN V B i) ak tk z d t (b, ok)).2 = true then 1 else 0), x)) ∧ frF τ τ' := by
  obtain ⟨f1, f2, f3, f4, f5⟩ := id hO
  intro d
  induction d with
  | zero =>
    intro t n b ok τ ht hn hb hX hF h10 hce
    obtain ⟨n, rfl⟩ : ∃ k, n = k + 1 := ⟨n - 1, by omega⟩
    refine ⟨τ, ?_, frF.rfl⟩
    have h01 : ι (if ok = true then 1 else 0) = (0 : Int32) ∨ ι (if ok = true then 1 else 0) = (1 : Int32) := by
      cases ok
      · exact Or.inl rfl
      · exact Or.inr rfl
    rw [f_X9_canTake_b10, L60, if_pos (show ι 60 ≤ ι t by rw [le_t (by omega) (by omega)]; trivial)]
    show ob (f_X9_laysBack τ) (fun σ5 => if ι (if ok = true then 1 else 0) = 0 ∨ ι (if ok = true then 1 else 0) = 1 then some (ι (if ok = true then 1 else 0), σ5) else none) = ob (f_X9_laysBack τ) (fun x => some (ι (if ok = true then 1 else 0), x))
    congr 1
    funext x
    rw [if_pos h01]
  | succ d ih =>
    intro t n b ok τ ht hn hb hX hF h10 hce
    obtain ⟨n, rfl⟩ : ∃ k, n = k + 1 := ⟨n - 1, by omega⟩
    obtain ⟨τ1, g1, g2, g3⟩ := r_grow1 hX hOX hF (OKA_b hOA hb) hOB hM h8 hy hi (show w + t < 100000 by omega)
    rw [up_row, up_up] at g2
    have gb : grownN X y (rowB (A i) b) (w + t) (owedN V B i) ≤ 999 := grownN_le hb
    have fr1 : frF τ τ1 := fun p j c1 c2 c3 c4 c5 => g3 p j c3 c4 (by omega)
    obtain ⟨τ2, i1, i2, i3⟩ := r_take_in (t := t) hOX hOA hOB hM h8 hO hy hi (show w + t < 100000 by omega) hz (f_X9_canTake_b10 (ι s) (ι i) (ι z) n) h 0 FU _ ok τ1 (by omega) (by unfold FU; omega) gb (FXT_F hX fr1) g2 (by rw [fr1 _ _ (by omega) (by omega) (by omega) (by omega) (by omega)]; exact h10) (fun j hj => by rw [fr1 _ _ (by omega) (by omega) (by omega) (by omega) (by omega)]; exact hce j hj) (by omega)
    have e6 : ofD X y (A i) w (owedN V B i) ak tk z t 6 0 (grownN X y (rowB (A i) b) (w + t) (owedN V B i), ok) = ofD X y (A i) w (owedN V B i) ak tk z t h 0 (grownN X y (rowB (A i) b) (w + t) (owedN V B i), ok) := by
      have := ofD_add (X := X) (y := y) (a := A i) (w := w) (ow := owedN V B i) (ak := ak) (tk := tk) (z := z) (t := t) h (6 - h) 0 (grownN X y (rowB (A i) b) (w + t) (owedN V B i), ok)
      rw [show h + (6 - h) = 6 by omega] at this
      rw [this]
      refine ofD_skip (6 - h) (0 + h) _ (fun j q1 q2 q3 => ?_)
      rw [bitN_high hz (by omega)] at q3
      exact absurd q3.1 (by decide)
    have bnd := ofD_le (X := X) (y := y) (a := A i) (w := w) (ow := owedN V B i) (ak := ak) (tk := tk) (z := z) (t := t) h 0 (grownN X y (rowB (A i) b) (w + t) (owedN V B i), ok) gb
    have fr2 : frF τ (ms τ2 0 6 (ι (w + t + 1))) := fun p j c1 c2 c3 c4 c5 => by rw [ms_off (by omega), i3 p j c1 c2 c3 c4 c5, fr1 p j c1 c2 c3 c4 c5]
    obtain ⟨b1, b2, b3, b4, b5, b6⟩ := i2
    have hF2 : FT M V (w + (t + 1)) y (up A i 2 (ofD X y (A i) w (owedN V B i) ak tk z t h 0 (grownN X y (rowB (A i) b) (w + t) (owedN V B i), ok)).1) B (ms τ2 0 6 (ι (w + t + 1))) := ⟨by rw [ms_off (by omega)]; exact b1, by rw [ms_off (by omega)]; exact b2, ms_at rfl rfl, by rw [ms_off (by omega)]; exact b4, FA_fr b5 (fun k j q1 q2 => by rw [ms_off (by omega)]), FB_fr b6 (fun j => by rw [ms_off (by omega)])⟩
    obtain ⟨τ', j1, j2⟩ := ih (t + 1) n _ (ofD X y (A i) w (owedN V B i) ak tk z t h 0 (grownN X y (rowB (A i) b) (w + t) (owedN V B i), ok)).2 (ms τ2 0 6 (ι (w + t + 1))) (by omega) (by omega) bnd (FXT_F hX fr2) hF2 (by rw [fr2 _ _ (by omega) (by omega) (by omega) (by omega) (by omega)]; exact h10) (fun j hj => by rw [fr2 _ _ (by omega) (by omega) (by omega) (by omega) (by omega)]; exact hce j hj)
    refine ⟨τ', ?_, fr2.tr j2⟩
    show _ = ob (f_X9_laysBack τ') (fun x => some (ι (if (cnD X y (A i) w (owedN V B i) ak tk z d (t + 1) (ofD X y (A i) w (owedN V B i) ak tk z t 6 0 (grownN X y (rowB (A i) b) (w + t) (owedN V B i), ok))).2 = true then 1 else 0), x))
    rw [e6]
    rw [f_X9_canTake_b10, L60, if_neg (show ¬ ι 60 ≤ ι t by rw [le_f (by omega) (by omega)]; exact id), g1, ob_s, L0]
    exact i1.trans j1
theorem r_canTake {T M V s sz h i : Nat} {X : XT} {A B : TB2} {ce : Nat → Int32} {ak tk : Nat → Nat} {τ : Mem} (hX : FXT T X τ) (hOX : OKX T X) {y w z : Nat} (hF : FT M V w y A B τ) (hOA : OKA M A) (hOB : OKB M V B) (hM : M ≤ 6) (h8 : V ≤ 8) (hO : Off s sz h ce ak tk) (hy : y < T) (hi : i < M) (hw : w < 10000) (hz : z < 2 ^ h) (h10 : τ 10 s = ι sz) (hce : ∀ j, j < 40 → τ 11 (40 * s + j) = ce j) :
    ∃ τ', f_X9_canTake τ (ι s) (ι i) (ι z) = some (ι (if (cnD X y (A i) w (owedN V B i) ak tk z 60 0 (A i 2, true)).2 = true then 1 else 0), τ') ∧ eqR τ τ' := by
  obtain ⟨τ1, t1, t2, t3, t4, t5, t6, t7⟩ := r_think hM h8 hF hX
  obtain ⟨τ2, b1, b2⟩ := r_take_out (w := w) hOX hOA hOB hM h8 hO hy hi hw hz 60 0 FU (A i 2) true τ1 (by omega) (by unfold FU; omega) (hOA i hi).2.2.1 t3 (by rw [up_self]; exact t2.1) (by rw [t7 _ _ (by omega) (by omega)]; exact h10) (fun j hj => by rw [t7 _ _ (by omega) (by omega)]; exact hce j hj)
  obtain ⟨τ3, l1, l2, l3, l4, l5⟩ := r_back (Q := fun _ _ => False) t4 t5 t6 t7 (fun k j h1 h2 h3 h4 h5 _ => b2 k j h1 h2 h3 h4 h5) (fun _ _ h => h.elim)
  refine ⟨τ3, ?_, fun k j h => l2 k j h id⟩
  unfold f_X9_canTake
  rw [t1, ob_s, L0]
  refine Eq.trans b1 ?_
  rw [l1, ob_s]
theorem c_canTake {M V w y T s sz h i z : Nat} {A B : TB2} {X : XT} {ce : Nat → Int32} {ak tk : Nat → Nat} {σ : Mem} (hM : M ≤ 6) (hV : V ≤ 8) (hw : w ≤ 999) (hC : CT 15 M V w y A B σ) (hA : OKA M A) (hX : CXT T X σ) (hOX : OKX T X) (hO : Off s sz h ce ak tk) (hy : y < T) (hi : i < M) (hz : z < 2 ^ h) (e2 : σ (67 + 2 * s) 2 = ι sz) (hce : ∀ j, j < 40 → σ (68 + 2 * s) j = ce j) (ow : Nat) :
    ∃ σ', f_X8_canTake σ (67 + 2 * s) (ι z) (15 + 3 + i) (ι ow) = some (ι (if (cnD X y (A i) w ow ak tk z 60 0 (A i 2, true)).2 = true then 1 else 0), σ') ∧ frG σ σ' := by
  obtain ⟨a1, a2, a3, a4, a5, a6⟩ := id hC
  have f1 := hO.1
  obtain ⟨σ1, g1, g2, g3⟩ := c_become75 (show 15 + 3 + i ≠ 75 by omega) (MC_of a5 hi) (OK1_of hA hi)
  have x2 : σ1 (67 + 2 * s) 2 = ι sz := by rw [g3 _ _ (by omega) (by omega) (by omega)]; exact e2
  have xc : ∀ j, j < 40 → σ1 (68 + 2 * s) j = ce j := fun j hj => by rw [g3 _ _ (by omega) (by omega) (by omega)]; exact hce j hj
  obtain ⟨l1, l2⟩ := c_last hO hz x2 xc
  obtain ⟨σ', b1, b2⟩ := c_take_out (w := w) (ow := ow) hOX hO hy (OK1_of hA hi) (by omega) hz (fun j q1 q2 => (lastN_ge (tk := tk) (z := z) 6 0 0).2 j (by omega) (by omega) q2) l2 60 0 FU (A i 2) σ1 (by omega) (by unfold FU; omega) (hA i hi).2.2.1 (CXT_sc g3.sc hX) (by rw [rowB_self]; exact g2) (by rw [g3 _ _ (by omega) (by omega) (by omega)]; exact a3) (by rw [g3 _ _ (by omega) (by omega) (by omega)]; exact a4) x2 xc
  refine ⟨σ', ?_, g3.tr b2⟩
  unfold f_X8_canTake
  rw [g1, ob_s, l1, ob_s, L0]
  exact b1
def incN (ak : Nat → Nat) (z : Nat) (k d : Nat) : Nat := sumF (fun k => if bitN z k = 1 then ak k else 0) k d
theorem incN_skip {ak : Nat → Nat} {z : Nat} : ∀ d k, (∀ j, k ≤ j → bitN z j = 0) → incN ak z k d = 0 := by
  intro d
  induction d with
  | zero => intro k _; rfl
  | succ d ih =>
    intro k h
    show (if bitN z k = 1 then ak k else 0) + incN ak z (k + 1) d = 0
    rw [if_neg (by rw [h k (by omega)]; decide), ih (k + 1) (fun j hj => h j (by omega))]
theorem incN_add {ak : Nat → Nat} {z : Nat} : ∀ d e k, incN ak z k (d + e) = incN ak z k d + incN ak z (k + d) e := by
  intro d
  induction d with
  | zero => intro e k; rw [Nat.zero_add]; exact (Nat.zero_add _).symm
  | succ d ih =>
    intro e k
    rw [show d + 1 + e = d + e + 1 by omega]
    show (if bitN z k = 1 then ak k else 0) + incN ak z (k + 1) (d + e) = (if bitN z k = 1 then ak k else 0) + incN ak z (k + 1) d + _
    rw [ih e (k + 1), show k + 1 + d = k + (d + 1) by omega, Nat.add_assoc]
theorem c_inches {s sz h z : Nat} {ce : Nat → Int32} {ak tk : Nat → Nat} {σ : Mem} (hF : Off s sz h ce ak tk) (hz : z < 2 ^ h) (e2 : σ (67 + 2 * s) 2 = ι sz) (hce : ∀ j, j < 40 → σ (68 + 2 * s) j = ce j) : f_X4_inchesOf σ (67 + 2 * s) (ι z) = some (ι (incN ak z 0 h)) := by
  obtain ⟨f1, f2, f3, f4, f5⟩ := hF
  have hz64 : z < 64 := by
    have : 2 ^ h ≤ 64 := (pow_le6 f3).1
    omega
  have L : ∀ d k n x, k + d = 6 → d < n → f_X4_inchesOf_b4 σ (67 + 2 * s) (ι z) n (ι x) (ι k) = some (ι (x + incN ak z k d)) := by
    intro d
    induction d with
    | zero =>
      intro k n x hk hn
      obtain ⟨n, rfl⟩ : ∃ k, n = k + 1 := ⟨n - 1, by omega⟩
      rw [f_X4_inchesOf_b4, L6, if_pos (show ι 6 ≤ ι k by rw [le_t (by omega) (by omega)]; trivial)]
      rfl
    | succ d ih =>
      intro k n x hk hn
      obtain ⟨n, rfl⟩ : ∃ k, n = k + 1 := ⟨n - 1, by omega⟩
      have bl := bitN_le (s := z) (f := k)
      have b31 : ((ι z >>> (ι k &&& 31)) &&& ι 1) = ι (bitN z k) := bit_c (s := z) (f := k) (by omega) (by omega)
      have ex : incN ak z k (d + 1) = (if bitN z k = 1 then ak k else 0) + incN ak z (k + 1) d := rfl
      rw [ex, f_X4_inchesOf_b4, L6, if_neg (show ¬ ι 6 ≤ ι k by rw [le_f (by omega) (by omega)]; exact id), L1, b31]
      unfold f_X4_inchesOf_b28
      by_cases hb1 : bitN z k = 1
      · have hkh : k < h := by
          by_cases c : k < h
          · exact c
          · rw [bitN_high hz (by omega)] at hb1
            exact absurd hb1 (by decide)
        obtain ⟨q1, q2⟩ := f4 k hkh
        have n1 := c_number (i := 2 * k) e2 (by omega) hce (by omega)
        rw [q1] at n1
        rw [if_pos hb1, hb1, if_neg (show ¬ ι 1 = (0 : Int32) by decide), L2, ι_mul, n1, ob_s, L1, ι_add, ι_add, ih (k + 1) n _ (by omega) (by omega), Nat.add_assoc]
      · have hb0 : bitN z k = 0 := by omega
        rw [if_neg hb1, hb0, if_pos (show ι 0 = (0 : Int32) from rfl), L1, ι_add, ih (k + 1) n _ (by omega) (by omega), Nat.zero_add]
  unfold f_X4_inchesOf
  rw [L0, L 6 0 FU 0 (by omega) (by unfold FU; omega), Nat.zero_add]
  have := incN_add (ak := ak) (z := z) h (6 - h) 0
  rw [show h + (6 - h) = 6 by omega, incN_skip (6 - h) (0 + h) (fun j hj => bitN_high hz (by omega))] at this
  rw [this, Nat.add_zero]
theorem incN_le {h z : Nat} {ak : Nat → Nat} (ha : ∀ k, k < h → ak k ≤ 200) : ∀ d k, k + d ≤ h → incN ak z k d ≤ 200 * d := by
  intro d
  induction d with
  | zero => intro k _; exact Nat.le_refl _
  | succ d ih =>
    intro k hk
    have := ih (k + 1) (by omega)
    have h2 := ha k (by omega)
    show (if bitN z k = 1 then ak k else 0) + incN ak z (k + 1) d ≤ _
    split <;> omega
theorem r_inches {s sz h z i : Nat} {ce : Nat → Int32} {ak tk : Nat → Nat} {τ : Mem} (hF : Off s sz h ce ak tk) (hz : z < 2 ^ h) (h10 : τ 10 s = ι sz) (hce : ∀ j, j < 40 → τ 11 (40 * s + j) = ce j) (s47 : Mem → Int32 → Int32 → Int32 → Option (Int32 × Mem)) (v3 : Int32) (best most : Int32) : ∀ d k n x, k + d = h → d < n → f_X9_take_b81 s47 (ι s) (ι i) v3 best most (ι z) n τ (ι x) (ι k) = (if ι (x + incN ak z k d) ≤ most then (f_X9_take_b160 s47 τ (ι s) (ι i) v3 best most (ι z)) else (ob2 (f_X9_canTake τ (ι s) (ι i) (ι z)) (fun r15 σ16 => (if r15 = 0 then (f_X9_take_b160 s47 σ16 (ι s) (ι i) v3 best most (ι z)) else (f_X9_take_b160 s47 σ16 (ι s) (ι i) v3 (ι z) (ι (x + incN ak z k d)) (ι z)))))) := by
  obtain ⟨f1, f2, f3, f4, f5⟩ := hF
  have hz64 : z < 64 := by
    have : 2 ^ h ≤ 64 := (pow_le6 f3).1
    omega
  intro d
  induction d with
  | zero =>
    intro k n x hk hn
    obtain ⟨n, rfl⟩ : ∃ k, n = k + 1 := ⟨n - 1, by omega⟩
    rw [f_X9_take_b81, if_pos (inb_t f1 (by omega)), ι_nat (by omega), h10, L2, ι_div (by omega) (by omega) (by omega), if_pos (show ι (sz / 2) ≤ ι k by rw [le_t (by omega) (by omega)]; trivial)]
    rfl
  | succ d ih =>
    intro k n x hk hn
    obtain ⟨n, rfl⟩ : ∃ k, n = k + 1 := ⟨n - 1, by omega⟩
    have hkh : k < h := by omega
    obtain ⟨g1, g2, g3⟩ := f4 k hkh
    have bl := bitN_le (s := z) (f := k)
    have b31 : ((ι z >>> (ι k &&& 31)) &&& ι 1) = ι (bitN z k) := bit_c (s := z) (f := k) (by omega) (by omega)
    have c0' := hce (2 * k) (by omega)
    rw [g1] at c0'
    have ex : incN ak z k (d + 1) = (if bitN z k = 1 then ak k else 0) + incN ak z (k + 1) d := rfl
    rw [ex, ← Nat.add_assoc]
    have stp : f_X9_take_b81 s47 (ι s) (ι i) v3 best most (ι z) (n + 1) τ (ι x) (ι k) = f_X9_take_b81 s47 (ι s) (ι i) v3 best most (ι z) n τ (ι (x + (if bitN z k = 1 then ak k else 0))) (ι (k + 1)) := by
      rw [f_X9_take_b81, if_pos (inb_t f1 (by omega)), ι_nat (by omega), h10, L2, ι_div (by omega) (by omega) (by omega), if_neg (show ¬ ι (sz / 2) ≤ ι k by rw [le_f (by omega) (by omega)]; exact id), L1, b31]
      unfold f_X9_take_b125
      by_cases hb1 : bitN z k = 1
      · rw [if_pos (show ι (bitN z k) = ι 1 by rw [hb1]), if_pos hb1, L40, ι_mul, ι_mul, ι_add, if_pos (inb_t (by omega) (by omega)), ι_nat (by omega), c0', ι_add, L1, ι_add]
      · rw [if_neg (show ¬ ι (bitN z k) = ι 1 by rw [eq_f hb1 (by omega) (by omega)]; exact id), if_neg hb1, L0, ι_add, L1, ι_add]
    rw [stp, ih (k + 1) n _ (by omega) (by omega)]
theorem op_take : OP_take RR := by
  intro σ τ v1 v2 v3 hR
  obtain ⟨M, V, w, y, A, B, T, X, h0, hA, hB, hOX, hC, hS, hS9, hF, hCX, hFX, hI, hSh, hD⟩ := id hR
  obtain ⟨hM, hV, hw, hy⟩ := id h0
  obtain ⟨hB, hBs⟩ := id hB
  obtain ⟨a1, a2, a3, a4, a5, a6⟩ := id hC
  obtain ⟨b1, b2, b3, b4, b5, b6⟩ := id hF
  have hT := hOX.2.1
  have c1 := hCX.1
  have f1 := hFX.1
  unfold f_X8_take f_X9_take
  rcases argN 4 v1 with ⟨s, s1, s2, rfl⟩ | g1
  · obtain ⟨so, sz, ce, hN⟩ := ShN_of hSh s1
    obtain ⟨h0', h1, h2, h3, h4, h5, h6, h7, h8⟩ := id hN
    by_cases hz : so = 0
    · have ew : f_X9_offersWrong τ (ι s) = some (-ι 11) := by
        unfold f_X9_offersWrong
        simp (disch := omega) only [r_in, h5, pl_0 hz, ↓reduceIte, eq_self, Bool.false_eq_true, reduceCtorEq, ob_s, ob2_s, od_e, onl_n, onl_s, ι_nat, ι_add, ι_mul, ι_sub, ι_addm, lt_t, lt_f, le_t, le_f, eq_t, eq_f, inb_t, inb_f, neq_f, neq_f2, neq_nf, nlt_t, nlt_f, nle_t, nle_f, ms_at, ms_off, up_at, up_off, L0, L1, L2, L3, L4, L5, L6, L7, L8, L9, L10, L11, L12, L13, L14, L15, L16, L17, L18, L19, L20, L21, L22, L23, L24, L30, L31, L32, L40, L41, L42, L43, L45, L47, L48, L52, L57, L59, L60, L61, L63, L64, L72, L97, L99, L100, L122, L160, L161, L200, L255, L999, L1200, L1998, L99999, L100000, L1000005]
      refine ⟨-ι 11, σ, τ, ?_, ?_, hR, rfl⟩
      · rw [c_sheetAt s1, ob_s, onl_s, h3, pl_0 hz, if_pos (show (-ι 1 : Int32) = -1 from rfl)]
        rfl
      · rw [ew, ob_s, if_neg (by decide)]
    · have hp := pl_s (show 0 < so by omega)
      have et := c_tells h4 h2 h7
      have ew := r_wrong s1 h5 (by omega) h1 h6 h2 h8
      have nn1 : ¬ (ι (so - 1) = (-1 : Int32)) := of_eq_false (neq_f (b := 1) (by omega) (by omega) (by omega))
      by_cases hv : sz % 2 = 0 ∧ sz ≤ 12 ∧ allOk ce sz 0 = true
      · rw [if_pos hv] at et ew
        rw [c_sheetAt s1, ob_s, onl_s, h3, hp, if_neg nn1, et, ob_s, if_neg (show ¬ ι 1 = (0 : Int32) by decide), ew, ob_s, if_pos (show ι 0 = (0 : Int32) from rfl)]
        rcases argN M v2 with ⟨i, i1, i2, rfl⟩ | g2
        · rw [c_manAt a1 hM i1, ob_s, onl_s, r_isMan b1 hM i1, if_neg (show ¬ ι 1 = (0 : Int32) by decide)]
          rcases argN 2 v3 with ⟨q, q1, q2, rfl⟩ | g3
          · rw [L0, if_neg (show ¬ ι q < ι 0 by rw [lt_f (by omega) (by omega)]; exact id), L1, if_pos (show ι q ≤ ι 1 by rw [le_t (by omega) (by omega)]; trivial), r_in (by omega) (by omega) (by omega), if_neg (show ¬ ι 1 = ι 0 by decide)]
            obtain ⟨h, hh⟩ : ∃ h, sz = 2 * h := ⟨sz / 2, by omega⟩
            have hO : Off s sz h ce (fun k => (ce (2 * k)).toNatClampNeg) (fun k => (ce (2 * k + 1)).toNatClampNeg) := by
              refine ⟨s1, hh, by omega, fun k hk => ?_, fun k hk => ?_⟩
              · obtain ⟨n, e1, e2, e3⟩ := okB_of (allOk_at sz 0 hv.2.2 (2 * k) (by omega) (by omega))
                rw [show 2 * k % 2 = 0 by omega, if_pos rfl] at e3
                rw [show 2 * k % 2 = 0 by omega] at e2
                show ce (2 * k) = ι (ce (2 * k)).toNatClampNeg ∧ 1 ≤ (ce (2 * k)).toNatClampNeg ∧ (ce (2 * k)).toNatClampNeg ≤ 200
                rw [e1, ι_nat (by omega)]
                exact ⟨rfl, e2, e3⟩
              · obtain ⟨n, e1, e2, e3⟩ := okB_of (allOk_at sz 0 hv.2.2 (2 * k + 1) (by omega) (by omega))
                rw [show (2 * k + 1) % 2 = 1 by omega, if_neg (by decide)] at e3
                show ce (2 * k + 1) = ι (ce (2 * k + 1)).toNatClampNeg ∧ (ce (2 * k + 1)).toNatClampNeg ≤ 59
                rw [e1, ι_nat (by omega)]
                exact ⟨rfl, e3⟩
            generalize (fun k => (ce (2 * k)).toNatClampNeg) = ak at hO
            generalize (fun k => (ce (2 * k + 1)).toNatClampNeg) = tk at hO
            have p2 := pow_le6 hO.2.2.1
            have ow := c_owed a2 hV a6 hB hM (show i < 100 by omega)
            have e5 := ca_5 a5 i1
            have d5 := fa_5 b5 i1
            have o5 := (hA i i1).2.2.2.2.2
            by_cases hsn : A i 5 = 0
            · have L : ∀ d z n (best most : Nat) (σ τ : Mem), z + d = 2 ^ h → d < n → most ≤ 1200 → CT 15 M V w y A B σ → FT M V w y A B τ → CXT T X σ → FXT T X τ → ShN s so sz ce σ τ → ∃ r σ' τ', f_X8_bestOffers_b24 (67 + 2 * s) (15 + 3 + i) (ι (owedN V B i)) (ι q) (ι (2 ^ h)) n σ (ι best) (ι most) (ι z) = some (r, σ') ∧ f_X9_take_b47 (ι s) (ι i) (ι q) n τ (ι best) (ι most) (ι z) = some (r, τ') ∧ eqC σ σ' ∧ eqR τ τ' := by
                intro d
                induction d with
                | zero =>
                  intro z n best most σ τ hzd hn hmo hC hF hCX hFX hN
                  obtain ⟨n, rfl⟩ : ∃ k, n = k + 1 := ⟨n - 1, by omega⟩
                  obtain ⟨h0', h1, h2, h3, h4, h5, h6, h7, h8⟩ := id hN
                  have b5 := hF.2.2.2.2.1
                  refine ⟨if ι q = 0 then ι best else ι most, σ, τ, ?_, ?_, eqC.rfl, eqR.rfl⟩
                  · rw [f_X8_bestOffers_b24, if_pos (show ι (2 ^ h) ≤ ι z by rw [le_t (by omega) (by omega)]; trivial)]
                    split <;> rfl
                  · rw [f_X9_take_b47, if_pos (inb_t s1 s2), ι_nat s2, h6, L2, ι_div (by omega) (by omega) (by omega), show sz / 2 = h by omega, shl_c (by have := hO.2.2.1; omega), if_pos (show ι (2 ^ h) ≤ ι z by rw [le_t (by omega) (by omega)]; trivial)]
                    unfold f_X9_take_b166
                    split <;> rfl
                | succ d ih =>
                  intro z n best most σ τ hzd hn hmo hC hF hCX hFX hN
                  obtain ⟨n, rfl⟩ : ∃ k, n = k + 1 := ⟨n - 1, by omega⟩
                  obtain ⟨h0', h1, h2, h3, h4, h5, h6, h7, h8⟩ := id hN
                  have d5 := fa_5 hF.2.2.2.2.1 i1
                  have zl : z < 2 ^ h := by omega
                  have ei := c_inches hO zl h4 h7
                  have il : incN ak z 0 h ≤ 1200 := by
                    have := incN_le (z := z) (fun k hk => (hO.2.2.2.1 k hk).2.2) h 0 (by omega)
                    have := hO.2.2.1
                    omega
                  have rr : f_X9_take_b47 (ι s) (ι i) (ι q) (n + 1) τ (ι best) (ι most) (ι z) = f_X9_take_b81 (f_X9_take_b47 (ι s) (ι i) (ι q) n) (ι s) (ι i) (ι q) (ι best) (ι most) (ι z) FU τ (ι 0) (ι 0) := by
                    rw [f_X9_take_b47, if_pos (inb_t s1 s2), ι_nat s2, h6, L2, ι_div (by omega) (by omega) (by omega), show sz / 2 = h by omega, shl_c (by have := hO.2.2.1; omega), if_neg (show ¬ ι (2 ^ h) ≤ ι z by rw [le_f (by omega) (by omega)]; exact id), L4, L3, ι_mul, ι_add, if_pos (inb_t (by omega) (by omega)), ι_nat (by omega), d5, hsn, if_pos (show ι 0 = (0 : Int32) from rfl), L0]
                  rw [rr, r_inches hO zl h6 h8 _ _ _ _ h 0 FU 0 (by omega) (by have := hO.2.2.1; unfold FU; omega), Nat.zero_add, f_X8_bestOffers_b24, if_neg (show ¬ ι (2 ^ h) ≤ ι z by rw [le_f (by omega) (by omega)]; exact id), ei, ob_s]
                  unfold f_X8_bestOffers_b66 f_X9_take_b160
                  by_cases hm : incN ak z 0 h ≤ most
                  · have hle : ι (incN ak z 0 h) ≤ ι most := by rw [le_t hm (by omega)]; trivial
                    rw [if_pos hle, if_pos hle, L1, ι_add]
                    exact ih (z + 1) n best most σ τ (by omega) (by omega) hmo hC hF hCX hFX hN
                  · have hle : ¬ ι (incN ak z 0 h) ≤ ι most := by rw [le_f (by omega) (by omega)]; exact id
                    obtain ⟨σ1, c1', c2'⟩ := c_canTake hM hV hw hC hA hCX hOX hO hy i1 zl h4 h7 (owedN V B i)
                    obtain ⟨τ1, r1', r2'⟩ := r_canTake hFX hOX hF hA hB hM hV hO hy i1 (show w < 10000 by omega) zl h6 h8
                    have hN1 : ShN s so sz ce σ1 τ1 := ShN_sc hN (fun k j q1 q2 => c2' k j (by omega) (by omega) (by omega)) (fun k j q1 q2 => r2' k j (by unfold sR; omega))
                    rw [if_neg hle, if_neg hle, c1', ob2_s, r1', ob2_s]
                    cases hr : (cnD X y (A i) w (owedN V B i) ak tk z 60 0 (A i 2, true)).2 with
                    | true =>
                      rw [if_neg (show ¬ ι (if true = true then 1 else 0) = (0 : Int32) by decide), if_neg (show ¬ ι (if true = true then 1 else 0) = (0 : Int32) by decide), L1, ι_add]
                      obtain ⟨r, σ', τ', k1, k2, k3, k4⟩ := ih (z + 1) n z (incN ak z 0 h) σ1 τ1 (by omega) (by omega) il (CT_sc hM hV c2'.sc hC) (FT_sc hM hV r2' hF) (CXT_sc c2'.sc hCX) (FXT_sc r2' hFX) hN1
                      exact ⟨r, σ', τ', k1, k2, c2'.sc.tr k3, r2'.tr k4⟩
                    | false =>
                      rw [if_pos (show ι (if false = true then 1 else 0) = (0 : Int32) by decide), if_pos (show ι (if false = true then 1 else 0) = (0 : Int32) by decide), L1, ι_add]
                      obtain ⟨r, σ', τ', k1, k2, k3, k4⟩ := ih (z + 1) n best most σ1 τ1 (by omega) (by omega) hmo (CT_sc hM hV c2'.sc hC) (FT_sc hM hV r2' hF) (CXT_sc c2'.sc hCX) (FXT_sc r2' hFX) hN1
                      exact ⟨r, σ', τ', k1, k2, c2'.sc.tr k3, r2'.tr k4⟩
              obtain ⟨r, σ', τ', k1, k2, k3, k4⟩ := L (2 ^ h - 1) 1 FU 0 0 σ τ (by omega) (by unfold FU; omega) (by omega) hC hF hCX hFX hN
              refine ⟨r, σ', τ', ?_, ?_, RR_eq hR k3 k4⟩
              · rw [e5, hsn, if_pos rfl, ow, ob_s]
                unfold f_X8_bestOffers
                have emin : f_J9_min_7cf53 6 (ι sz / 2) = ι h := by
                  unfold f_J9_min_7cf53
                  rw [L2, ι_div (by omega) (by omega) (by omega), show sz / 2 = h by omega, L6]
                  by_cases c : h < 6
                  · rw [if_pos (show ι h < ι 6 by rw [lt_t (by omega) (by omega)]; trivial)]
                  · rw [if_neg (show ¬ ι h < ι 6 by rw [lt_f (by omega) (by omega)]; exact id)]
                    congr 1
                    have := hO.2.2.1
                    omega
                rw [h4, emin, shl_c (by have := hO.2.2.1; omega), od_e, L0, L1, k1, ob2_s]
              · exact k2
            · have hs1 : A i 5 = 1 := by omega
              refine ⟨ι 0, σ, τ, ?_, ?_, hR, rfl⟩
              · rw [e5, hs1, if_neg (show ¬ ι 1 = ι 0 by decide)]
              · obtain ⟨nfu, hnfu⟩ : ∃ k, FU = k + 1 := ⟨99999, rfl⟩
                rw [hnfu, f_X9_take_b47, if_pos (inb_t s1 s2), ι_nat s2, h6, L2, ι_div (by omega) (by omega) (by omega), show sz / 2 = h by omega, shl_c (by have := hO.2.2.1; omega)]
                unfold f_X9_take_b166
                by_cases c : 2 ^ h ≤ 1
                · rw [if_pos (show ι (2 ^ h) ≤ ι 1 by rw [le_t (by omega) (by omega)]; trivial)]
                  split <;> rfl
                · rw [if_neg (show ¬ ι (2 ^ h) ≤ ι 1 by rw [le_f (by omega) (by omega)]; exact id), L4, L3, ι_mul, ι_add, if_pos (inb_t (by omega) (by omega)), ι_nat (by omega), d5, hs1, if_neg (show ¬ ι 1 = (0 : Int32) by decide)]
                  split <;> rfl
          · refine ⟨-ι 7, σ, τ, ?_, ?_, hR, rfl⟩
            · rcases g3 with g | ⟨k, k1, k2, rfl⟩
              · rw [L0, if_pos (show v3 < ι 0 by rw [ng_lt g (by omega)]; trivial)]
                rfl
              · rw [L0, if_neg (show ¬ ι k < ι 0 by rw [lt_f (by omega) (by omega)]; exact id), L1, if_neg (show ¬ ι k ≤ ι 1 by rw [le_f (by omega) (by omega)]; exact id)]
                rfl
            · rw [L0, L1, outN_in (n := 1) (by omega) g3, if_pos rfl]
              rfl
        · refine ⟨-ι 5, σ, τ, ?_, ?_, hR, rfl⟩
          · rw [c_manNo a1 hM g2]
            rfl
          · rw [r_isManNo b1 hM g2, if_pos (show ι 0 = (0 : Int32) from rfl)]
            rfl
      · rw [if_neg hv] at et ew
        refine ⟨-ι 2, σ, τ, ?_, ?_, hR, rfl⟩
        · rw [c_sheetAt s1, ob_s, onl_s, h3, hp, if_neg nn1, et, ob_s, if_pos (show ι 0 = (0 : Int32) from rfl)]
          rfl
        · rw [ew, ob_s, if_neg (by decide)]
  · have ew : f_X9_offersWrong τ v1 = some (-ι 2) := by
      unfold f_X9_offersWrong
      rw [L0, L3, outN_in (n := 3) (by omega) g1, if_pos rfl]
      rfl
    refine ⟨-ι 2, σ, τ, ?_, ?_, hR, rfl⟩
    · rw [c_sheetNo g1]
      rfl
    · rw [ew, ob_s, if_neg (by decide)]
