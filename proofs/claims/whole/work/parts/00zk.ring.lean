/-! THE PURE PART: the first ring -/
theorem bit_or {a m x : Nat} (ha : a < 64) (hm : m < 6) (hx : x < 6) : bitN (a ||| 2 ^ m) x = if x = m then 1 else bitN a x := by
  have : ∀ a, a < 64 → ∀ m, m < 6 → ∀ x, x < 6 → bitN (a ||| 2 ^ m) x = if x = m then 1 else bitN a x := by decide +kernel
  exact this a ha m hm x hx
theorem or_lt8 {a m : Nat} (ha : a < 256) (hm : m < 8) : a ||| 2 ^ m < 256 := by
  have : ∀ a, a < 256 → ∀ m, m < 8 → a ||| 2 ^ m < 256 := by decide +kernel
  exact this a ha m hm
def wup (wy : Nat → Nat) (s v : Nat) : Nat → Nat := fun j => if j = s then v else wy j
/-- the men from whom the first s vows of a way are; the vows -/
def uB (B : TB2) (wy : Nat → Nat) : Nat → Nat
  | 0 => 0
  | s + 1 => uB B wy s ||| 2 ^ (B (wy s) 0)
def vB (wy : Nat → Nat) : Nat → Nat
  | 0 => 0
  | s + 1 => vB wy s ||| 2 ^ (wy s)
theorem uB_ext {B : TB2} {wy wz : Nat → Nat} : ∀ s, (∀ j, j < s → wy j = wz j) → uB B wy s = uB B wz s
  | 0, _ => rfl
  | s + 1, h => by
    show uB B wy s ||| 2 ^ (B (wy s) 0) = uB B wz s ||| 2 ^ (B (wz s) 0)
    rw [uB_ext s (fun j hj => h j (by omega)), h s (by omega)]
theorem vB_ext {wy wz : Nat → Nat} : ∀ s, (∀ j, j < s → wy j = wz j) → vB wy s = vB wz s
  | 0, _ => rfl
  | s + 1, h => by
    show vB wy s ||| 2 ^ (wy s) = vB wz s ||| 2 ^ (wz s)
    rw [vB_ext s (fun j hj => h j (by omega)), h s (by omega)]
theorem wup_lt {wy : Nat → Nat} {s v j : Nat} (h : j < s) : wup wy s v j = wy j := if_neg (by omega)
theorem wup_s {wy : Nat → Nat} {s v : Nat} : wup wy s v s = v := if_pos rfl
theorem uB_up {B : TB2} {wy : Nat → Nat} {s v : Nat} : uB B (wup wy s v) (s + 1) = uB B wy s ||| 2 ^ (B v 0) := by
  show uB B (wup wy s v) s ||| 2 ^ (B (wup wy s v s) 0) = _
  rw [uB_ext s (fun j hj => wup_lt hj), wup_s]
theorem vB_up {wy : Nat → Nat} {s v : Nat} : vB (wup wy s v) (s + 1) = vB wy s ||| 2 ^ v := by
  show vB (wup wy s v) s ||| 2 ^ (wup wy s v s) = _
  rw [vB_ext s (fun j hj => wup_lt hj), wup_s]
def WAY : Type := (Nat → Nat) × Nat
def scanV (rec : Nat → (Nat → Nat) → Nat → Option ((Nat → Nat) × Nat)) (B : TB2) (f m : Nat) (wy : Nat → Nat) (s : Nat) : Nat → Nat → Option ((Nat → Nat) × Nat)
  | 0, _ => none
  | e + 1, v => if B v 4 = 0 ∧ B v 0 = m then (if B v 1 = f then some (wup wy s v, s + 1) else if bitN (uB B (wup wy s v) (s + 1)) (B v 1) = 0 then (match rec (B v 1) (wup wy s v) (s + 1) with | some r => some r | none => scanV rec B f m wy s e (v + 1)) else scanV rec B f m wy s e (v + 1)) else scanV rec B f m wy s e (v + 1)
def closeD (B : TB2) (V f : Nat) : Nat → Nat → (Nat → Nat) → Nat → Option ((Nat → Nat) × Nat)
  | 0, _, _, _ => none
  | d + 1, m, wy, s => scanV (closeD B V f d) B f m wy s V 0
def firstD (B : TB2) (V : Nat) : Nat → Nat → Option ((Nat → Nat) × Nat)
  | 0, _ => none
  | e + 1, v => if B v 4 = 0 then (match closeD B V (B v 0) 5 (B v 1) (wup (fun _ => 0) 0 v) 1 with | some r => some r | none => firstD B V e (v + 1)) else firstD B V e (v + 1)
/-- a way of standing vows from unlike men -/
def WOK (M V : Nat) (B : TB2) (wy : Nat → Nat) (s : Nat) : Prop := (∀ j, j < s → wy j < V ∧ B (wy j) 4 = 0) ∧ ∀ i j, i < j → j < s → B (wy i) 0 ≠ B (wy j) 0
theorem uB_lt {M V : Nat} {B : TB2} {wy : Nat → Nat} (hM : M ≤ 6) (hO : OKB M V B) : ∀ s, (∀ j, j < s → wy j < V) → uB B wy s < 64
  | 0, _ => show 0 < 64 by decide
  | s + 1, h => or_lt6 (uB_lt hM hO s (fun j hj => h j (by omega))) (by have := (hO _ (h s (by omega))).1; omega)
theorem vB_lt {V : Nat} {wy : Nat → Nat} (hV : V ≤ 8) : ∀ s, (∀ j, j < s → wy j < V) → vB wy s < 256
  | 0, _ => show 0 < 256 by decide
  | s + 1, h => or_lt8 (vB_lt hV s (fun j hj => h j (by omega))) (by have := h s (by omega); omega)
theorem uB_bit {M V : Nat} {B : TB2} {wy : Nat → Nat} (hM : M ≤ 6) (hO : OKB M V B) {x : Nat} (hx : x < 6) : ∀ s, (∀ j, j < s → wy j < V) → (bitN (uB B wy s) x = 0 ↔ ∀ j, j < s → B (wy j) 0 ≠ x)
  | 0, _ => ⟨fun _ j hj => by omega, fun _ => by show bitN 0 x = 0; unfold bitN; rw [Nat.zero_div]⟩
  | s + 1, h => by
    have ih := uB_bit hM hO hx s (fun j hj => h j (by omega))
    have hm := (hO _ (h s (by omega))).1
    show bitN (uB B wy s ||| 2 ^ (B (wy s) 0)) x = 0 ↔ _
    rw [bit_or (uB_lt hM hO s (fun j hj => h j (by omega))) (by omega) hx]
    by_cases c : x = B (wy s) 0
    · rw [if_pos c]
      exact ⟨fun h => absurd h (by decide), fun h => absurd c.symm (h s (by omega))⟩
    · rw [if_neg c, ih]
      refine ⟨fun h j hj => ?_, fun h j hj => h j (by omega)⟩
      by_cases c2 : j = s
      · rw [c2]; exact fun e => c e.symm
      · exact h j (by omega)
theorem vB_pos {wy : Nat → Nat} {s : Nat} (h : 0 < s) : 0 < vB wy s := by
  obtain ⟨s, rfl⟩ : ∃ k, s = k + 1 := ⟨s - 1, by omega⟩
  show 0 < vB wy s ||| 2 ^ (wy s)
  have h1 : 2 ^ (wy s) ≤ vB wy s ||| 2 ^ (wy s) := Nat.right_le_or
  have h2 : 0 < 2 ^ (wy s) := Nat.pow_pos (by decide)
  omega
theorem WOK_push {M V s v m : Nat} {B : TB2} {wy : Nat → Nat} (hM : M ≤ 6) (hO : OKB M V B) (h : WOK M V B wy s) (hv : v < V) (h4 : B v 4 = 0) (hm : B v 0 = m) (hb : bitN (uB B wy s) m = 0) (hm6 : m < 6) : WOK M V B (wup wy s v) (s + 1) := by
  refine ⟨fun j hj => ?_, fun i j hij hj => ?_⟩
  · by_cases c : j = s
    · rw [c, wup_s]; exact ⟨hv, h4⟩
    · rw [wup_lt (by omega)]; exact h.1 j (by omega)
  · by_cases c : j = s
    · rw [c, wup_s, wup_lt (by omega), hm]
      exact (uB_bit hM hO hm6 s (fun j hj => (h.1 j hj).1)).1 hb i (by omega)
    · rw [wup_lt (by omega), wup_lt (by omega)]
      exact h.2 i j hij (by omega)
theorem WOK_up {M V s v : Nat} {B : TB2} {wy : Nat → Nat} (h : WOK M V B (wup wy s v) (s + 1)) : ∀ j, j < s + 1 → wup wy s v j < V := fun j hj => (h.1 j hj).1
/-- what is found is a way, closed -/
theorem close_ok {M V f : Nat} {B : TB2} (hM : M ≤ 6) (hO : OKB M V B) : ∀ d m wy s, WOK M V B wy s → m < 6 → bitN (uB B wy s) m = 0 → ∀ r, closeD B V f d m wy s = some r → WOK M V B r.1 r.2 ∧ s < r.2 := by
  intro d
  induction d with
  | zero => intro m wy s _ _ _ r h; cases h
  | succ d ih =>
    intro m wy s hW hm hb
    have L : ∀ e v, v + e = V → ∀ r, scanV (closeD B V f d) B f m wy s e v = some r → WOK M V B r.1 r.2 ∧ s < r.2 := by
      intro e
      induction e with
      | zero => intro v _ r h; cases h
      | succ e ihe =>
        intro v hv r h
        unfold scanV at h
        have hvV : v < V := by omega
        have b := hO v hvV
        by_cases c : B v 4 = 0 ∧ B v 0 = m
        · have hp := WOK_push hM hO hW hvV c.1 c.2 hb hm
          rw [if_pos c] at h
          by_cases c2 : B v 1 = f
          · rw [if_pos c2] at h
            cases h
            exact ⟨hp, Nat.lt_succ_self s⟩
          · rw [if_neg c2] at h
            by_cases c3 : bitN (uB B (wup wy s v) (s + 1)) (B v 1) = 0
            · rw [if_pos c3] at h
              cases hr : closeD B V f d (B v 1) (wup wy s v) (s + 1) with
              | some r' =>
                rw [hr] at h
                cases h
                obtain ⟨q1, q2⟩ := ih (B v 1) (wup wy s v) (s + 1) hp (by omega) c3 _ hr
                exact ⟨q1, by omega⟩
              | none =>
                rw [hr] at h
                exact ihe (v + 1) (by omega) r h
            · rw [if_neg c3] at h
              exact ihe (v + 1) (by omega) r h
        · rw [if_neg c] at h
          exact ihe (v + 1) (by omega) r h
    exact L V 0 (by omega)
def oW (o : Option ((Nat → Nat) × Nat)) : Nat := match o with
  | some r => vB r.1 r.2
  | none => 0
theorem c_close {M V w y f : Nat} {A B : TB2} {σ : Mem} (hM : M ≤ 6) (hV : V ≤ 8) (hO : OKB M V B) (hC : CT 15 M V w y A B σ) (hf : f < 6) : ∀ d m wy s n, s + d = 6 → d < n → WOK M V B wy s → m < 6 → m ≠ f → bitN (uB B wy s) m = 0 →
    f_X6_closeRing_F n σ 15 (ι f) (ι m) (ι (uB B wy s)) (ι (vB wy s)) (ι s) = some (ι (oW (closeD B V f d m wy s))) := by
  obtain ⟨a1, a2, a3, a4, a5, a6⟩ := hC
  intro d
  induction d with
  | zero =>
    intro m wy s n hs hn hW hm hmf hb
    obtain ⟨n, rfl⟩ : ∃ k, n = k + 1 := ⟨n - 1, by omega⟩
    show f_X6_closeRing (f_X6_closeRing_F n) σ 15 (ι f) (ι m) (ι (uB B wy s)) (ι (vB wy s)) (ι s) = _
    unfold f_X6_closeRing
    rw [if_neg (show ¬ ι m = ι f by rw [eq_f hmf (by omega) (by omega)]; exact id), L6, if_pos (show ι 6 ≤ ι s by rw [le_t (by omega) (by omega)]; trivial)]
    rfl
  | succ d ih =>
    intro m wy s n hs hn hW hm hmf hb
    obtain ⟨n, rfl⟩ : ∃ k, n = k + 1 := ⟨n - 1, by omega⟩
    have ul := uB_lt hM hO s (fun j hj => (hW.1 j hj).1)
    have vl := vB_lt hV s (fun j hj => (hW.1 j hj).1)
    have bc : ((ι (uB B wy s) >>> (ι m &&& 31)) &&& ι 1) = ι (bitN (uB B wy s) m) := bit_c (by omega) (by omega)
    have Lp : ∀ e v k, v + e = V → e < k → f_X6_closeRing_b28 (f_X6_closeRing_F n) σ 15 (ι f) (ι m) (ι (uB B wy s)) (ι (vB wy s)) (ι s) k (ι v) = some (ι (oW (scanV (closeD B V f d) B f m wy s e v))) := by
      intro e
      induction e with
      | zero =>
        intro v k hv hk
        obtain ⟨k, rfl⟩ : ∃ q, k = q + 1 := ⟨k - 1, by omega⟩
        rw [f_X6_closeRing_b28, a2, if_pos (show ι V ≤ ι v by rw [le_t (by omega) (by omega)]; trivial)]
        rfl
      | succ e ihe =>
        intro v k hv hk
        obtain ⟨k, rfl⟩ : ∃ q, k = q + 1 := ⟨k - 1, by omega⟩
        have hvV : v < V := by omega
        have b := hO v hvV
        have nx := ihe (v + 1) k (by omega) (by omega)
        unfold scanV
        rw [f_X6_closeRing_b28, a2, if_neg (show ¬ ι V ≤ ι v by rw [le_f (by omega) (by omega)]; exact id), show (8 : Int32) = ι 8 from rfl, if_neg (show ¬ ι 8 ≤ ι v by rw [le_f (by omega) (by omega)]; exact id), if_pos (inb_t (show v < 8 by omega) (by omega)), ι_nat (by omega), cb_4 a6 hvV, cb_0 a6 hvV, cb_1 a6 hvV]
        unfold f_X6_closeRing_b109
        rw [L1, show ι v + ι 1 = ι (v + 1) from ι_add v 1, show ι s + ι 1 = ι (s + 1) from ι_add s 1]
        by_cases c4 : B v 4 = 0
        · by_cases c0 : B v 0 = m
          · have hp := WOK_push hM hO hW hvV c4 c0 hb hm
            rw [if_pos (show ι (B v 4) = 0 by rw [c4]; rfl), if_pos (show ι (B v 0) = ι m by rw [c0]), if_pos (show B v 4 = 0 ∧ B v 0 = m from ⟨c4, c0⟩)]
            have e1 : (ι (uB B wy s) ||| (ι 1 <<< (ι m &&& 31))) = ι (uB B (wup wy s v) (s + 1)) := by
              rw [uB_up, c0]
              exact (congrArg _ (shl_c (show m < 8 by omega))).trans (or_c (by omega) (by omega))
            have e2 : (ι (vB wy s) ||| (ι 1 <<< (ι v &&& 31))) = ι (vB (wup wy s v) (s + 1)) := by
              rw [vB_up]
              exact (congrArg _ (shl_c (show v < 8 by omega))).trans (or_c (by omega) (by omega))
            rw [e1, e2]
            have ul2 := uB_lt hM hO (s + 1) (WOK_up hp)
            have vl2 := vB_lt hV (s + 1) (WOK_up hp)
            have vp : 0 < vB (wup wy s v) (s + 1) := vB_pos (Nat.succ_pos s)
            obtain ⟨n, rfl⟩ : ∃ k, n = k + 1 := ⟨n - 1, by omega⟩
            by_cases c1 : B v 1 = f
            · have : f_X6_closeRing_F (n + 1) σ 15 (ι f) (ι (B v 1)) (ι (uB B (wup wy s v) (s + 1))) (ι (vB (wup wy s v) (s + 1))) (ι (s + 1)) = some (ι (vB (wup wy s v) (s + 1))) := by
                show f_X6_closeRing (f_X6_closeRing_F n) σ 15 _ _ _ _ _ = _
                unfold f_X6_closeRing
                rw [if_pos (show ι (B v 1) = ι f by rw [c1])]
              rw [this, ob_s, if_neg (show ¬ ι (vB (wup wy s v) (s + 1)) = 0 by rw [L0, eq_f (by omega) (by omega) (by omega)]; exact id), if_pos c1]
              rfl
            · rw [if_neg c1]
              by_cases c3 : bitN (uB B (wup wy s v) (s + 1)) (B v 1) = 0
              · rw [if_pos c3, ih (B v 1) (wup wy s v) (s + 1) (n + 1) (by omega) (by omega) hp (by omega) c1 c3, ob_s]
                cases hr : closeD B V f d (B v 1) (wup wy s v) (s + 1) with
                | some r =>
                  obtain ⟨q1, q2⟩ := close_ok hM hO d (B v 1) (wup wy s v) (s + 1) hp (by omega) c3 _ hr
                  have q3 := vB_lt hV r.2 (fun j hj => (q1.1 j hj).1)
                  have q4 : 0 < vB r.1 r.2 := vB_pos (by omega)
                  show (if ι (vB r.1 r.2) = 0 then _ else some (ι (vB r.1 r.2))) = some (ι (vB r.1 r.2))
                  rw [if_neg (show ¬ ι (vB r.1 r.2) = 0 by rw [L0, eq_f (by omega) (by omega) (by omega)]; exact id)]
                | none =>
                  show (if ι 0 = 0 then _ else some (ι 0)) = _
                  rw [if_pos (show ι 0 = (0 : Int32) from rfl)]
                  exact nx
              · have bl := bitN_le (s := uB B (wup wy s v) (s + 1)) (f := B v 1)
                have b1 : bitN (uB B (wup wy s v) (s + 1)) (B v 1) = 1 := by omega
                have bc2 : ((ι (uB B (wup wy s v) (s + 1)) >>> (ι (B v 1) &&& 31)) &&& ι 1) = ι (bitN (uB B (wup wy s v) (s + 1)) (B v 1)) := bit_c (by omega) (by omega)
                have : f_X6_closeRing_F (n + 1) σ 15 (ι f) (ι (B v 1)) (ι (uB B (wup wy s v) (s + 1))) (ι (vB (wup wy s v) (s + 1))) (ι (s + 1)) = some (ι 0) := by
                  show f_X6_closeRing (f_X6_closeRing_F n) σ 15 _ _ _ _ _ = _
                  unfold f_X6_closeRing
                  rw [if_neg (show ¬ ι (B v 1) = ι f by rw [eq_f c1 (by omega) (by omega)]; exact id), L6]
                  by_cases c6 : 6 ≤ s + 1
                  · rw [if_pos (show ι 6 ≤ ι (s + 1) by rw [le_t c6 (by omega)]; trivial)]
                    rfl
                  · rw [if_neg (show ¬ ι 6 ≤ ι (s + 1) by rw [le_f (by omega) (by omega)]; exact id), L1, bc2, b1, if_neg (show ¬ ι 1 = (0 : Int32) by decide)]
                    rfl
                rw [this, ob_s, if_pos (show ι 0 = (0 : Int32) from rfl), if_neg c3]
                exact nx
          · rw [if_pos (show ι (B v 4) = 0 by rw [c4]; rfl), if_neg (show ¬ ι (B v 0) = ι m by rw [eq_f c0 (by omega) (by omega)]; exact id), if_neg (show ¬ (B v 4 = 0 ∧ B v 0 = m) from fun h => c0 h.2)]
            exact nx
        · rw [if_neg (show ¬ ι (B v 4) = 0 by rw [L0, eq_f c4 (by omega) (by omega)]; exact id), if_neg (show ¬ (B v 4 = 0 ∧ B v 0 = m) from fun h => c4 h.1)]
          exact nx
    show f_X6_closeRing (f_X6_closeRing_F n) σ 15 (ι f) (ι m) (ι (uB B wy s)) (ι (vB wy s)) (ι s) = _
    unfold f_X6_closeRing
    rw [if_neg (show ¬ ι m = ι f by rw [eq_f hmf (by omega) (by omega)]; exact id), L6, if_neg (show ¬ ι 6 ≤ ι s by rw [le_f (by omega) (by omega)]; exact id), L1, bc, hb, if_pos (show ι 0 = (0 : Int32) from rfl), L0]
    exact Lp V 0 FU (by omega) (by unfold FU; omega)
theorem W1_ok {M V v : Nat} {B : TB2} (hv : v < V) (h4 : B v 4 = 0) : WOK M V B (wup (fun _ => 0) 0 v) 1 := by
  refine ⟨fun j hj => ?_, fun i j hij hj => by omega⟩
  have : j = 0 := by omega
  rw [this, wup_s]
  exact ⟨hv, h4⟩
theorem u1_eq {B : TB2} {v : Nat} : uB B (wup (fun _ => 0) 0 v) 1 = 2 ^ (B v 0) := by
  show 0 ||| 2 ^ (B (wup (fun _ => 0) 0 v 0) 0) = _
  rw [wup_s, Nat.zero_or]
theorem v1_eq {v : Nat} : vB (wup (fun _ => 0) 0 v) 1 = 2 ^ v := by
  show 0 ||| 2 ^ (wup (fun _ => 0) 0 v 0) = _
  rw [wup_s, Nat.zero_or]
theorem b1_0 {M V v : Nat} {B : TB2} (hM : M ≤ 6) (hO : OKB M V B) (hv : v < V) : bitN (uB B (wup (fun _ => 0) 0 v) 1) (B v 1) = 0 := by
  have b := hO v hv
  refine (uB_bit hM hO (show B v 1 < 6 by omega) 1 (fun j hj => ?_)).2 (fun j hj => ?_)
  · have : j = 0 := by omega
    rw [this, wup_s]; exact hv
  · have : j = 0 := by omega
    rw [this, wup_s]; exact b.2.2.1
theorem first_ok {M V : Nat} {B : TB2} (hM : M ≤ 6) (hO : OKB M V B) : ∀ e v, v + e = V → ∀ r, firstD B V e v = some r → WOK M V B r.1 r.2 ∧ 1 < r.2 := by
  intro e
  induction e with
  | zero => intro v _ r h; cases h
  | succ e ih =>
    intro v hv r h
    have b := hO v (by omega)
    unfold firstD at h
    by_cases c : B v 4 = 0
    · rw [if_pos c] at h
      cases hr : closeD B V (B v 0) 5 (B v 1) (wup (fun _ => 0) 0 v) 1 with
      | some r' =>
        rw [hr] at h
        cases h
        exact close_ok hM hO 5 (B v 1) _ 1 (W1_ok (by omega) c) (by omega) (b1_0 hM hO (by omega)) _ hr
      | none =>
        rw [hr] at h
        exact ih (v + 1) (by omega) r h
    · rw [if_neg c] at h
      exact ih (v + 1) (by omega) r h
theorem c_firstRing {M V w y : Nat} {A B : TB2} {σ : Mem} (hM : M ≤ 6) (hV : V ≤ 8) (hO : OKB M V B) (hC : CT 15 M V w y A B σ) : f_X6_firstRing σ 15 = some (ι (oW (firstD B V V 0))) := by
  obtain ⟨a1, a2, a3, a4, a5, a6⟩ := id hC
  have L : ∀ e v n, v + e = V → e < n → f_X6_firstRing_b2 σ 15 n (ι v) = some (ι (oW (firstD B V e v))) := by
    intro e
    induction e with
    | zero =>
      intro v n hv hn
      obtain ⟨n, rfl⟩ : ∃ q, n = q + 1 := ⟨n - 1, by omega⟩
      rw [f_X6_firstRing_b2, a2, if_pos (show ι V ≤ ι v by rw [le_t (by omega) (by omega)]; trivial)]
      rfl
    | succ e ih =>
      intro v n hv hn
      obtain ⟨n, rfl⟩ : ∃ q, n = q + 1 := ⟨n - 1, by omega⟩
      have hvV : v < V := by omega
      have b := hO v hvV
      have nx := ih (v + 1) n (by omega) (by omega)
      have hi := inb_t (show v < 8 by omega) (show v < 2147483648 by omega)
      unfold firstD
      rw [f_X6_firstRing_b2, a2, if_neg (show ¬ ι V ≤ ι v by rw [le_f (by omega) (by omega)]; exact id), show (8 : Int32) = ι 8 from rfl, if_neg (show ¬ ι 8 ≤ ι v by rw [le_f (by omega) (by omega)]; exact id), if_pos hi, ι_nat (by omega), cb_4 a6 hvV]
      unfold f_X6_firstRing_b75
      by_cases c4 : B v 4 = 0
      · rw [if_pos (show ι (B v 4) = 0 by rw [c4]; rfl), if_pos hi, if_pos hi, if_pos hi, if_pos c4, cb_0 a6 hvV, cb_1 a6 hvV, shl_c (show B v 0 < 8 by omega), shl_c (show v < 8 by omega), L1, ι_add]
        unfold f_X6_closeRing_R
        have cc := c_close hM hV hO hC (show B v 0 < 6 by omega) 5 (B v 1) (wup (fun _ => 0) 0 v) 1 12 (by omega) (by omega) (W1_ok hvV c4) (by omega) (fun e => b.2.2.1 e.symm) (b1_0 hM hO hvV)
        rw [u1_eq, v1_eq] at cc
        rw [cc, ob_s]
        cases hr : closeD B V (B v 0) 5 (B v 1) (wup (fun _ => 0) 0 v) 1 with
        | some r =>
          obtain ⟨q1, q2⟩ := close_ok hM hO 5 (B v 1) _ 1 (W1_ok hvV c4) (by omega) (b1_0 hM hO hvV) _ hr
          have q3 := vB_lt hV r.2 (fun j hj => (q1.1 j hj).1)
          have q4 : 0 < vB r.1 r.2 := vB_pos (by omega)
          show (if ι (vB r.1 r.2) = 0 then _ else some (ι (vB r.1 r.2))) = some (ι (vB r.1 r.2))
          rw [if_neg (show ¬ ι (vB r.1 r.2) = 0 by rw [L0, eq_f (by omega) (by omega) (by omega)]; exact id)]
        | none =>
          show (if ι 0 = 0 then _ else some (ι 0)) = _
          rw [if_pos (show ι 0 = (0 : Int32) from rfl)]
          exact nx
      · rw [if_neg (show ¬ ι (B v 4) = 0 by rw [L0, eq_f c4 (by omega) (by omega)]; exact id), if_neg c4, L1, ι_add]
        exact nx
  unfold f_X6_firstRing
  rw [L0]
  exact L V 0 FU (by omega) (by unfold FU; omega)
