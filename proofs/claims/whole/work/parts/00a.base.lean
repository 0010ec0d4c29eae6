/-! THE PURE PART, base: memories of whole numbers by cell and place; what the walks and the pure part both need -/
abbrev Mem : Type := Nat → Nat → Int32
def ms (σ : Mem) (k j : Nat) (v : Int32) : Mem := fun a b => if a = k ∧ b = j then v else σ a b
def mfill (σ : Mem) (k n : Nat) (v : Int32) : Mem := fun a b => if a = k ∧ b < n then v else σ a b
def mcp (σ : Mem) (a i b j n : Nat) : Mem := fun p q => if p = b then va_cpy (σ a) (σ b) i j n q else σ p q
def ob {α β : Type} (o : Option α) (k : α → Option β) : Option β := match o with
  | none => none
  | some a => k a
def ob2 {α β γ : Type} (o : Option (α × β)) (k : α → β → Option γ) : Option γ := match o with
  | none => none
  | some x => k x.1 x.2
def od {α β : Type} (v : α) (k : α → β) : β := k v
def onl {α β : Type} (o : Option α) (a : β) (k : α → β) : β := match o with
  | none => a
  | some x => k x
def inb (i : Int32) (n : Nat) : Bool := decide (0 ≤ i) && decide (i.toNatClampNeg < n)
theorem o_pos {α : Type} {b : Prop} {inst : Decidable b} {A B x : α} (hc : b) (h : (@ite α b inst A B) = x) : A = x := by rw [if_pos hc] at h; exact h
theorem o_neg {α : Type} {b : Prop} {inst : Decidable b} {A B x : α} (hc : ¬ b) (h : (@ite α b inst A B) = x) : B = x := by rw [if_neg hc] at h; exact h
theorem o_chk {α : Type} {b : Prop} {inst : Decidable b} {A : Option α} {x : α} (h : (@ite (Option α) b inst A none) = some x) : b ∧ A = some x := by
  by_cases hc : b
  · rw [if_pos hc] at h; exact ⟨hc, h⟩
  · rw [if_neg hc] at h; cases h
theorem o_b {α β : Type} {o : Option α} {k : α → Option β} {x : β} (h : ob o k = some x) : ∃ a, o = some a ∧ k a = some x := by
  cases o with
  | none => cases h
  | some a => exact ⟨a, rfl, h⟩
theorem o_b2 {α β γ : Type} {o : Option (α × β)} {k : α → β → Option γ} {x : γ} (h : ob2 o k = some x) : ∃ a b, o = some (a, b) ∧ k a b = some x := by
  cases o with
  | none => cases h
  | some a => exact ⟨a.1, a.2, rfl, h⟩
theorem o_d {α β : Type} {v : α} {k : α → β} {x : β} (h : od v k = x) : ∃ a, v = a ∧ k a = x := ⟨v, rfl, h⟩
theorem o_nn {α β : Type} {a : β} {k : α → β} {x : β} (h : onl none a k = x) : a = x := h
theorem o_ns {α β : Type} {a : β} {k : α → β} {x : β} {y : α} (h : onl (some y) a k = x) : k y = x := h
def sIx : List Nat := [88, 94, 96, 98, 100, 102, 107, 109, 111, 113, 115, 117]
def sTx : List String := ["grows", "trims", "shames", "or", "and", "not", "beard", "oil", "more", "week", "owed", "rank"]
def sByt : List (List Int32) := [[103, 114, 111, 119, 115], [116, 114, 105, 109, 115], [115, 104, 97, 109, 101, 115], [111, 114], [97, 110, 100], [110, 111, 116], [98, 101, 97, 114, 100], [111, 105, 108], [109, 111, 114, 101], [119, 101, 101, 107], [111, 119, 101, 100], [114, 97, 110, 107]]
def sLen : List Nat := [5, 5, 6, 2, 3, 3, 5, 3, 4, 4, 4, 4]
def FU : Nat := 100000
def iush (x y : Int32) : Int32 := (x.toUInt32 >>> (y.toUInt32 &&& Int32.toUInt32 31)).toInt32
def acok (i j n : Int32) (la lb : Nat) : Bool := decide (0 ≤ i) && decide (0 ≤ j) && decide (0 ≤ n) && decide (i.toNatClampNeg + n.toNatClampNeg ≤ la) && decide (j.toNatClampNeg + n.toNatClampNeg ≤ lb)
theorem o_r {α β : Type} {x r : α} {a b : β} (h : some (x, a) = some (r, b)) : r = x ∧ b = a := by cases h; exact ⟨rfl, rfl⟩
theorem o_rt {α β : Type} {x r : α} {a b : β} (h : (x, a) = (r, b)) : r = x ∧ b = a := by cases h; exact ⟨rfl, rfl⟩
theorem nn_int {x : Int32} (h : 0 ≤ x) : x.toInt = (x.toNatClampNeg : Int) := by
  have h0 : (0 : Int) ≤ x.toInt := by simpa using Int32.le_iff_toInt_le.mp h
  show x.toInt = ((x.toInt.toNat : Nat) : Int)
  omega
def irm (x y : Int32) : Int32 := x - x / y * y
def lrm (x y : Int64) : Int64 := x - x / y * y
def kdL : List Nat := [0, 1, 2, 3, 3, 4, 14, 14, 14, 5, 3, 3, 3, 3, 3, 6, 7, 8, 9, 9, 9, 9, 9, 9, 10, 10, 10, 10, 10, 10, 10, 10, 6, 7, 8, 9, 9, 9, 9, 9, 9, 10, 10, 10, 10, 10, 10, 10, 10, 6, 7, 8, 9, 9, 9, 9, 9, 9, 10, 10, 10, 10, 10, 10, 10, 10, 11, 12, 3, 12, 3, 12, 3, 12, 3, 9, 9, 13, 3, 3]
def alL : List Nat := [0, 0, 0, 64, 6, 0, 0, 0, 0, 0, 160, 161, 161, 160, 3, 0, 0, 0, 0, 0, 0, 0, 0, 0, 0, 0, 0, 0, 0, 0, 0, 0, 0, 0, 0, 0, 0, 0, 0, 0, 0, 0, 0, 0, 0, 0, 0, 0, 0, 0, 0, 0, 0, 0, 0, 0, 0, 0, 0, 0, 0, 0, 0, 0, 0, 0, 0, 0, 40, 0, 40, 0, 40, 0, 40, 0, 0, 0, 6, 6]
def kd (k : Nat) : Nat := if k < 80 then kdL.getD k 99 else if k < 102 then 99 else if (k - 102) % 4 = 0 then 4 else 14
def al (k : Nat) : Nat := alL.getD k 0
def txn (σ : Mem) : Nat := (σ 1 1).toNatClampNeg
def tad (i : Nat) : Nat := if i = 0 then 5 else 98 + 4 * i
def tref (σ : Mem) (i : Int32) : Option Nat := if i.toNatClampNeg < txn σ then some (tad i.toNatClampNeg) else none
def alen (σ : Mem) (k : Nat) : Nat := (σ k 4096).toNatClampNeg
def codeF (σ : Mem) (i : Nat) : Int32 := if i = 0 then 0 else σ 14 (i - 1)
abbrev codeOK (σ : Mem) (i : Nat) : Prop := 0 ≤ codeF σ i ∧ codeF σ i ≤ σ 14 i ∧ σ 14 i ≤ 160 ∧ ¬ (codeF σ i = 0 ∧ σ 14 i = 160)
def codeN (σ : Mem) (i : Nat) : Nat := (σ 14 i - codeF σ i).toNatClampNeg
/-- the object's memory behind a text that is made -/
def tmem (σ : Mem) : Mem := fun k j => if k = 1 then (if j = 1 then σ 1 1 + 1 else σ 1 j)
  else if k = 98 + 4 * txn σ + 1 then (if j = 4096 then Int32.ofNat (codeN σ 0) else σ 13 ((codeF σ 0).toNatClampNeg + j))
  else if k = 98 + 4 * txn σ + 2 then (if j = 4096 then Int32.ofNat (codeN σ 1) else σ 13 ((codeF σ 1).toNatClampNeg + j))
  else if k = 98 + 4 * txn σ + 3 then (if j = 4096 then Int32.ofNat (codeN σ 2) else σ 13 ((codeF σ 2).toNatClampNeg + j))
  else σ k j
