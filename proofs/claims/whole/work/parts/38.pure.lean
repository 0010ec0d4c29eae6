/-! THE PURE PART: small numbers -/
abbrev ι (n : Nat) : Int32 := Int32.ofNat n
theorem ι_int {n : Nat} (h : n < 2147483648) : (ι n).toInt = (n : Int) := by
  have e9 : Int32.size = 4294967296 := rfl
  rw [Int32.toInt_ofNat', e9, Int.bmod_def]
  split <;> omega
theorem ι_nat {n : Nat} (h : n < 2147483648) : (ι n).toNatClampNeg = n := by
  show (ι n).toInt.toNat = n
  rw [ι_int h]
  rfl
theorem ι_add (a b : Nat) : ι a + ι b = ι (a + b) := (Int32.ofNat_add a b).symm
theorem ι_mul (a b : Nat) : ι a * ι b = ι (a * b) := (Int32.ofNat_mul a b).symm
theorem ι_le {a b : Nat} (ha : a < 2147483648) (hb : b < 2147483648) : (ι a ≤ ι b) = (a ≤ b) := by
  rw [Int32.le_iff_toInt_le, ι_int ha, ι_int hb]
  exact propext ⟨fun h => by omega, fun h => by omega⟩
theorem ι_lt {a b : Nat} (ha : a < 2147483648) (hb : b < 2147483648) : (ι a < ι b) = (a < b) := by
  rw [Int32.lt_iff_toInt_lt, ι_int ha, ι_int hb]
  exact propext ⟨fun h => by omega, fun h => by omega⟩
theorem ι_eq {a b : Nat} (ha : a < 2147483648) (hb : b < 2147483648) : (ι a = ι b) = (a = b) := by
  refine propext ⟨fun h => ?_, fun h => by rw [h]⟩
  have := congrArg Int32.toInt h
  rw [ι_int ha, ι_int hb] at this
  omega
theorem ι_inb {n k : Nat} (hn : n < 2147483648) : inb (ι n) k = decide (n < k) := by
  unfold inb
  have h0 : (0 : Int32) ≤ ι n := by
    rw [show (0 : Int32) = ι 0 from rfl, ι_le (by decide) hn]
    omega
  rw [decide_eq_true h0, ι_nat hn]
  rfl
theorem ι_sub {a b : Nat} (h : b ≤ a) (ha : a < 2147483648) : ι a - ι b = ι (a - b) := by
  refine Int32.toInt_inj.mp ?_
  rw [Int32.toInt_sub, ι_int ha, ι_int (by omega), ι_int (by omega), Int.bmod_def]
  split <;> omega
/-- an argument is a small number, or it isn't -/
theorem ι_of {x : Int32} {n : Nat} (h0 : 0 ≤ x) (h1 : x < ι n) (hn : n < 2147483648) : ∃ k, k < n ∧ x = ι k := by
  have e0 := Int32.le_iff_toInt_le.mp h0
  have e1 := Int32.lt_iff_toInt_lt.mp h1
  rw [ι_int hn] at e1
  have z : (0 : Int32).toInt = 0 := rfl
  rw [z] at e0
  refine ⟨x.toInt.toNat, by omega, Int32.toInt_inj.mp ?_⟩
  rw [ι_int (by omega)]
  omega
theorem ms_at (σ : Mem) (k j : Nat) (v : Int32) : ms σ k j v k j = v := by simp [ms]
theorem ms_off {σ : Mem} {k j a b : Nat} {v : Int32} (h : a ≠ k ∨ b ≠ j) : ms σ k j v a b = σ a b := by
  unfold ms
  rw [if_neg (by omega)]
