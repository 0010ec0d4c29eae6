/-! THE PURE PART: small numbers -/
def ι (n : Nat) : Int32 := Int32.ofNat n
theorem ι_int {n : Nat} (h : n < 2147483648) : (ι n).toInt = (n : Int) := by
  have e9 : Int32.size = 4294967296 := rfl
  show (Int32.ofNat n).toInt = (n : Int)
  rw [Int32.toInt_ofNat', e9, Int.bmod_def]
  split <;> omega
theorem ι_nat {n : Nat} (h : n < 2147483648) : (ι n).toNatClampNeg = n := by
  show (ι n).toInt.toNat = n
  rw [ι_int h]
  rfl
theorem ι_add (a b : Nat) : ι a + ι b = ι (a + b) := (Int32.ofNat_add a b).symm
theorem ι_mul (a b : Nat) : ι a * ι b = ι (a * b) := (Int32.ofNat_mul a b).symm
theorem ι_le {a b : Nat} (ha : a < 2147483648) (hb : b < 2147483648) : (ι a ≤ ι b) = (a ≤ b) := by
  rw [Int32.le_iff_toInt_le, ι_int ha, ι_int hb]
  exact propext ⟨fun h => by omega, fun h => by omega⟩
theorem ι_lt {a b : Nat} (ha : a < 2147483648) (hb : b < 2147483648) : (ι a < ι b) = (a < b) := by
  rw [Int32.lt_iff_toInt_lt, ι_int ha, ι_int hb]
  exact propext ⟨fun h => by omega, fun h => by omega⟩
theorem ι_eq {a b : Nat} (ha : a < 2147483648) (hb : b < 2147483648) : (ι a = ι b) = (a = b) := by
  refine propext ⟨fun h => ?_, fun h => by rw [h]⟩
  have := congrArg Int32.toInt h
  rw [ι_int ha, ι_int hb] at this
  omega
theorem ι_inj {a b : Nat} (ha : a < 2147483648) (hb : b < 2147483648) (h : ι a = ι b) : a = b := by
  rw [ι_eq ha hb] at h
  exact h
theorem lt_t {a b : Nat} (h : a < b) (hb : b < 2147483648) : (ι a < ι b) = True := by rw [ι_lt (by omega) hb]; exact eq_true h
theorem lt_f {a b : Nat} (h : b ≤ a) (ha : a < 2147483648) : (ι a < ι b) = False := by rw [ι_lt ha (by omega)]; exact eq_false (by omega)
theorem le_t {a b : Nat} (h : a ≤ b) (hb : b < 2147483648) : (ι a ≤ ι b) = True := by rw [ι_le (by omega) hb]; exact eq_true h
theorem le_f {a b : Nat} (h : b < a) (ha : a < 2147483648) : (ι a ≤ ι b) = False := by rw [ι_le ha (by omega)]; exact eq_false (by omega)
theorem eq_t {a b : Nat} (h : a = b) : (ι a = ι b) = True := by rw [h]; exact eq_self _
theorem eq_f {a b : Nat} (h : a ≠ b) (ha : a < 2147483648) (hb : b < 2147483648) : (ι a = ι b) = False := by rw [ι_eq ha hb]; exact eq_false h
theorem inb_t {n k : Nat} (h : n < k) (hn : n < 2147483648) : inb (ι n) k = true := by
  unfold inb
  have h0 : (0 : Int32) ≤ ι n := by
    rw [show (0 : Int32) = ι 0 from rfl, ι_le (by decide) hn]
    omega
  rw [decide_eq_true h0, ι_nat hn, decide_eq_true h]
  rfl
theorem inb_f {n k : Nat} (h : k ≤ n) (hn : n < 2147483648) : inb (ι n) k = false := by
  unfold inb
  rw [ι_nat hn, decide_eq_false (by omega : ¬ n < k)]
  exact Bool.and_false _
theorem ι_sub {a b : Nat} (h : b ≤ a) (ha : a < 2147483648) : ι a - ι b = ι (a - b) := by
  refine Int32.toInt_inj.mp ?_
  rw [Int32.toInt_sub, ι_int ha, ι_int (by omega), ι_int (by omega), Int.bmod_def]
  split <;> omega
theorem ι_addm {a b : Nat} (h : b ≤ a) (ha : a < 2147483648) : ι a + -ι b = ι (a - b) := by
  rw [← ι_sub h ha]
  exact (Int32.sub_eq_add_neg (ι a) (ι b)).symm
theorem ι_div {a b : Nat} (h : 0 < b) (ha : a < 2147483648) (hb : b < 2147483648) : ι a / ι b = ι (a / b) := by
  refine Int32.toInt_inj.mp ?_
  have e : a / b ≤ a := Nat.div_le_self a b
  rw [Int32.toInt_div, ι_int ha, ι_int hb, ι_int (by omega)]
  have e2 : ((a : Int).tdiv (b : Int)) = ((a / b : Nat) : Int) := by
    rw [Int.tdiv_eq_ediv_of_nonneg (by omega)]
    rfl
  rw [e2, Int.bmod_def]
  have e3 : ((a / b : Nat) : Int) ≤ (a : Int) := Int.ofNat_le.mpr e
  have e4 : (0 : Int) ≤ ((a / b : Nat) : Int) := Int.natCast_nonneg _
  generalize ((a / b : Nat) : Int) = q at e3 e4 ⊢
  split <;> omega
theorem ι_irm {a b : Nat} (h : 0 < b) (ha : a < 2147483648) (hb : b < 2147483648) : irm (ι a) (ι b) = ι (a % b) := by
  unfold irm
  have e := Nat.div_mul_le_self a b
  rw [ι_div h ha hb, ι_mul, ι_sub e ha]
  congr 1
  have := Nat.div_add_mod a b
  rw [Nat.mul_comm] at this
  omega
theorem neg_int {a : Nat} (ha : a < 2147483648) : (-ι a).toInt = -(a : Int) := by
  rw [Int32.toInt_neg, ι_int ha, Int.bmod_def]
  split <;> omega
theorem neq_f {a b : Nat} (h : 0 < b) (ha : a < 2147483648) (hb : b < 2147483648) : (ι a = -ι b) = False := by
  refine eq_false (fun h1 => ?_)
  have := congrArg Int32.toInt h1
  rw [ι_int ha, neg_int hb] at this
  omega
theorem neq_f2 {a b : Nat} (h : 0 < b) (ha : a < 2147483648) (hb : b < 2147483648) : (-ι b = ι a) = False := eq_false (fun e => of_eq_false (neq_f h ha hb) e.symm)
theorem neq_nf {a b : Nat} (h : a ≠ b) (ha : a < 2147483648) (hb : b < 2147483648) : (-ι a = -ι b) = False := by
  refine eq_false (fun h1 => ?_)
  have := congrArg Int32.toInt h1
  rw [neg_int ha, neg_int hb] at this
  omega
theorem nlt_t {a b : Nat} (h : 0 < a + b) (ha : a < 2147483648) (hb : b < 2147483648) : (-ι a < ι b) = True := by
  rw [Int32.lt_iff_toInt_lt, neg_int ha, ι_int hb]
  exact eq_true (by omega)
theorem nlt_f {a b : Nat} (ha : a < 2147483648) (hb : b < 2147483648) : (ι a < -ι b) = False := by
  rw [Int32.lt_iff_toInt_lt, neg_int hb, ι_int ha]
  exact eq_false (by omega)
theorem nle_t {a b : Nat} (ha : a < 2147483648) (hb : b < 2147483648) : (-ι a ≤ ι b) = True := by
  rw [Int32.le_iff_toInt_le, neg_int ha, ι_int hb]
  exact eq_true (by omega)
theorem nle_f {a b : Nat} (h : 0 < a + b) (ha : a < 2147483648) (hb : b < 2147483648) : (ι a ≤ -ι b) = False := by
  rw [Int32.le_iff_toInt_le, neg_int hb, ι_int ha]
  exact eq_false (by omega)
theorem nn_lt_t {a b : Nat} (h : b < a) (ha : a < 2147483648) : (-ι a < -ι b) = True := by
  rw [Int32.lt_iff_toInt_lt, neg_int ha, neg_int (a := b) (by omega)]
  exact eq_true (by omega)
theorem nn_lt_f {a b : Nat} (h : a ≤ b) (hb : b < 2147483648) : (-ι a < -ι b) = False := by
  rw [Int32.lt_iff_toInt_lt, neg_int (a := a) (by omega), neg_int hb]
  exact eq_false (by omega)
theorem nn_le_t {a b : Nat} (h : b ≤ a) (ha : a < 2147483648) : (-ι a ≤ -ι b) = True := by
  rw [Int32.le_iff_toInt_le, neg_int ha, neg_int (a := b) (by omega)]
  exact eq_true (by omega)
theorem nn_le_f {a b : Nat} (h : a < b) (hb : b < 2147483648) : (-ι a ≤ -ι b) = False := by
  rw [Int32.le_iff_toInt_le, neg_int (a := a) (by omega), neg_int hb]
  exact eq_false (by omega)
theorem nsub {a b : Nat} (h : a < b) (ha : b < 2147483648) : ι a - ι b = -ι (b - a) := by
  refine Int32.toInt_inj.mp ?_
  rw [Int32.toInt_sub, ι_int (by omega), ι_int ha, neg_int (by omega), Int.bmod_def]
  split <;> omega
theorem ninb {a n : Nat} (h : 0 < a) (ha : a < 2147483648) : inb (-ι a) n = false := by
  unfold inb
  have h0 : ¬ (0 : Int32) ≤ -ι a := by
    rw [show (0 : Int32) = ι 0 from rfl, nle_f (by omega) (by decide) ha]
    exact id
  rw [decide_eq_false h0]
  rfl
/-- an argument is a small number, or below 0 -/
theorem arg (x : Int32) : (∃ k, k < 2147483648 ∧ x = ι k) ∨ (∃ k, 0 < k ∧ k ≤ 2147483648 ∧ x.toInt = -(k : Int)) := by
  have h1 := Int32.toInt_lt x
  have h2 := Int32.le_toInt x
  by_cases h : 0 ≤ x.toInt
  · refine Or.inl ⟨x.toInt.toNat, by omega, Int32.toInt_inj.mp ?_⟩
    rw [ι_int (by omega)]
    omega
  · exact Or.inr ⟨(-x.toInt).toNat, by omega, by omega, by omega⟩
/-- x is below 0 -/
def ng (x : Int32) : Prop := x.toInt < 0
theorem ng_lt {x : Int32} (h : ng x) {a : Nat} (ha : a < 2147483648) : (x < ι a) = True := by
  unfold ng at h
  rw [Int32.lt_iff_toInt_lt, ι_int ha]
  exact eq_true (by omega)
theorem ng_le {x : Int32} (h : ng x) {a : Nat} (ha : a < 2147483648) : (x ≤ ι a) = True := by
  unfold ng at h
  rw [Int32.le_iff_toInt_le, ι_int ha]
  exact eq_true (by omega)
theorem ng_gt {x : Int32} (h : ng x) {a : Nat} (ha : a < 2147483648) : (ι a < x) = False := by
  unfold ng at h
  rw [Int32.lt_iff_toInt_lt, ι_int ha]
  exact eq_false (by omega)
theorem ng_ge {x : Int32} (h : ng x) {a : Nat} (ha : a < 2147483648) : (ι a ≤ x) = False := by
  unfold ng at h
  rw [Int32.le_iff_toInt_le, ι_int ha]
  exact eq_false (by omega)
theorem ng_eq {x : Int32} (h : ng x) {a : Nat} (ha : a < 2147483648) : (x = ι a) = False := by
  refine eq_false (fun e => ?_)
  unfold ng at h
  rw [e, ι_int ha] at h
  omega
theorem ng_eq2 {x : Int32} (h : ng x) {a : Nat} (ha : a < 2147483648) : (ι a = x) = False := eq_false (fun e => of_eq_false (ng_eq h ha) e.symm)
theorem ng_inb {x : Int32} (h : ng x) {n : Nat} : inb x n = false := by
  unfold inb
  have h0 : ¬ (0 : Int32) ≤ x := by
    rw [show (0 : Int32) = ι 0 from rfl, ng_ge h (by decide)]
    exact id
  rw [decide_eq_false h0]
  rfl
/-- a number of M things, or none such -/
def outN (M : Nat) (x : Int32) : Prop := ng x ∨ ∃ k, M ≤ k ∧ k < 2147483648 ∧ x = ι k
theorem argN (M : Nat) (x : Int32) : (∃ k, k < M ∧ k < 2147483648 ∧ x = ι k) ∨ outN M x := by
  rcases arg x with ⟨k, h1, h2⟩ | ⟨k, h1, h2, h3⟩
  · by_cases h : k < M
    · exact Or.inl ⟨k, h, h1, h2⟩
    · exact Or.inr (Or.inr ⟨k, by omega, h1, h2⟩)
  · refine Or.inr (Or.inl ?_)
    unfold ng
    omega
theorem ob_s {α β : Type} {a : α} {k : α → Option β} : ob (some a) k = k a := rfl
theorem ob2_s {α β γ : Type} {a : α} {b : β} {k : α → β → Option γ} : ob2 (some (a, b)) k = k a b := rfl
theorem od_e {α β : Type} {v : α} {k : α → β} : od v k = k v := rfl
theorem onl_n {α β : Type} {a : β} {k : α → β} : onl none a k = a := rfl
theorem onl_s {α β : Type} {x : α} {a : β} {k : α → β} : onl (some x) a k = k x := rfl
theorem ms_at {σ : Mem} {k j a b : Nat} {v : Int32} (h1 : a = k) (h2 : b = j) : ms σ k j v a b = v := by
  unfold ms
  rw [if_pos ⟨h1, h2⟩]
theorem ms_off {σ : Mem} {k j a b : Nat} {v : Int32} (h : a ≠ k ∨ b ≠ j) : ms σ k j v a b = σ a b := by
  unfold ms
  rw [if_neg (by omega)]
/-- a table of numbers with one of them another one -/
def up (A : Nat → Nat → Nat) (i j x : Nat) : Nat → Nat → Nat := fun a b => if a = i ∧ b = j then x else A a b
theorem up_at {A : Nat → Nat → Nat} {i j a b x : Nat} (h1 : a = i) (h2 : b = j) : up A i j x a b = x := by
  unfold up
  rw [if_pos ⟨h1, h2⟩]
theorem up_off {A : Nat → Nat → Nat} {i j a b x : Nat} (h : a ≠ i ∨ b ≠ j) : up A i j x a b = A a b := by
  unfold up
  rw [if_neg (by omega)]
/-- none, or a number: as -1, or as it is -/
def pl (n : Nat) : Int32 := if n = 0 then -ι 1 else ι (n - 1)
theorem pl_0 {n : Nat} (h : n = 0) : pl n = -ι 1 := by unfold pl; rw [if_pos h]
theorem pl_s {n : Nat} (h : 0 < n) : pl n = ι (n - 1) := by unfold pl; rw [if_neg (by omega)]
def sumF (f : Nat → Nat) (i : Nat) : Nat → Nat
  | 0 => 0
  | d + 1 => f i + sumF f (i + 1) d
theorem sumF_le {f : Nat → Nat} {c : Nat} (h : ∀ i, f i ≤ c) : ∀ d i, sumF f i d ≤ c * d
  | 0, _ => Nat.zero_le _
  | d + 1, i => by
    have h1 := sumF_le h d (i + 1)
    have h2 := h i
    show f i + sumF f (i + 1) d ≤ c * (d + 1)
    rw [Nat.mul_succ]
    omega
theorem sumF_ext {f g : Nat → Nat} : ∀ d i, (∀ j, i ≤ j → j < i + d → f j = g j) → sumF f i d = sumF g i d
  | 0, _, _ => rfl
  | d + 1, i, h => by
    show f i + sumF f (i + 1) d = g i + sumF g (i + 1) d
    rw [h i (by omega) (by omega), sumF_ext d (i + 1) (fun j h1 h2 => h j (by omega) (by omega))]
theorem L0 : (0 : Int32) = ι 0 := rfl
theorem L1 : (1 : Int32) = ι 1 := rfl
theorem L2 : (2 : Int32) = ι 2 := rfl
theorem L3 : (3 : Int32) = ι 3 := rfl
theorem L4 : (4 : Int32) = ι 4 := rfl
theorem L5 : (5 : Int32) = ι 5 := rfl
theorem L6 : (6 : Int32) = ι 6 := rfl
theorem L7 : (7 : Int32) = ι 7 := rfl
theorem L8 : (8 : Int32) = ι 8 := rfl
theorem L9 : (9 : Int32) = ι 9 := rfl
theorem L10 : (10 : Int32) = ι 10 := rfl
theorem L11 : (11 : Int32) = ι 11 := rfl
theorem L12 : (12 : Int32) = ι 12 := rfl
theorem L13 : (13 : Int32) = ι 13 := rfl
theorem L14 : (14 : Int32) = ι 14 := rfl
theorem L15 : (15 : Int32) = ι 15 := rfl
theorem L16 : (16 : Int32) = ι 16 := rfl
theorem L17 : (17 : Int32) = ι 17 := rfl
theorem L18 : (18 : Int32) = ι 18 := rfl
theorem L19 : (19 : Int32) = ι 19 := rfl
theorem L20 : (20 : Int32) = ι 20 := rfl
theorem L21 : (21 : Int32) = ι 21 := rfl
theorem L22 : (22 : Int32) = ι 22 := rfl
theorem L23 : (23 : Int32) = ι 23 := rfl
theorem L24 : (24 : Int32) = ι 24 := rfl
theorem L30 : (30 : Int32) = ι 30 := rfl
theorem L31 : (31 : Int32) = ι 31 := rfl
theorem L32 : (32 : Int32) = ι 32 := rfl
theorem L40 : (40 : Int32) = ι 40 := rfl
theorem L41 : (41 : Int32) = ι 41 := rfl
theorem L42 : (42 : Int32) = ι 42 := rfl
theorem L43 : (43 : Int32) = ι 43 := rfl
theorem L45 : (45 : Int32) = ι 45 := rfl
theorem L47 : (47 : Int32) = ι 47 := rfl
theorem L48 : (48 : Int32) = ι 48 := rfl
theorem L52 : (52 : Int32) = ι 52 := rfl
theorem L57 : (57 : Int32) = ι 57 := rfl
theorem L59 : (59 : Int32) = ι 59 := rfl
theorem L60 : (60 : Int32) = ι 60 := rfl
theorem L61 : (61 : Int32) = ι 61 := rfl
theorem L63 : (63 : Int32) = ι 63 := rfl
theorem L64 : (64 : Int32) = ι 64 := rfl
theorem L72 : (72 : Int32) = ι 72 := rfl
theorem L97 : (97 : Int32) = ι 97 := rfl
theorem L99 : (99 : Int32) = ι 99 := rfl
theorem L100 : (100 : Int32) = ι 100 := rfl
theorem L122 : (122 : Int32) = ι 122 := rfl
theorem L160 : (160 : Int32) = ι 160 := rfl
theorem L161 : (161 : Int32) = ι 161 := rfl
theorem L200 : (200 : Int32) = ι 200 := rfl
theorem L255 : (255 : Int32) = ι 255 := rfl
theorem L999 : (999 : Int32) = ι 999 := rfl
theorem L1200 : (1200 : Int32) = ι 1200 := rfl
theorem L1998 : (1998 : Int32) = ι 1998 := rfl
theorem L99999 : (99999 : Int32) = ι 99999 := rfl
theorem L100000 : (100000 : Int32) = ι 100000 := rfl
theorem L1000005 : (1000005 : Int32) = ι 1000005 := rfl
