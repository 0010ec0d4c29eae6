/-! THE RELATION of the class's memory and the reference's -/
/-- a man: kind, more, beard, oil, rank, shorn -/
def MR (a : Nat → Int32) (τ : Mem) (i : Nat) : Prop := ∃ k m b o r s : Nat, (k ≤ 5 ∧ m ≤ 9 ∧ b ≤ 999 ∧ o ≤ 9 ∧ r ≤ 9 ∧ s ≤ 1) ∧ (a 0 = ι k ∧ a 1 = ι m ∧ a 2 = ι b ∧ a 3 = ι o ∧ a 4 = ι r ∧ a 5 = ι s) ∧ (τ 1 i = ι k ∧ τ 2 i = ι m ∧ τ 3 (4 * i) = ι b ∧ τ 3 (4 * i + 1) = ι o ∧ τ 3 (4 * i + 2) = ι r ∧ τ 3 (4 * i + 3) = ι s)
/-- a vow of a town with M men and V vows: from, to, inches, due, state, plait -/
def VR (M V : Nat) (a : Nat → Int32) (τ : Mem) (v : Nat) : Prop := ∃ (f g n d s : Nat) (p : Int32), (f < M ∧ g < M ∧ f ≠ g ∧ n ≤ 200 ∧ d ≤ 999 ∧ s ≤ 3 ∧ (s = 0 → 1 ≤ n) ∧ (p = -1 ∨ ∃ w, w < V ∧ p = ι w)) ∧ (a 0 = ι f ∧ a 1 = ι g ∧ a 2 = ι n ∧ a 3 = ι d ∧ a 4 = ι s ∧ a 5 = p) ∧ (τ 4 (6 * v) = ι f ∧ τ 4 (6 * v + 1) = ι g ∧ τ 4 (6 * v + 2) = ι n ∧ τ 4 (6 * v + 3) = ι d ∧ τ 4 (6 * v + 4) = p ∧ τ 4 (6 * v + 5) = ι s)
/-- town t of the class against the reference's rows, with M men, V vows, in week w, under law y -/
def TR (t M V w y : Nat) (σ τ : Mem) : Prop := (M ≤ 6 ∧ V ≤ 8 ∧ w ≤ 2000 ∧ y ≤ 5) ∧ (σ t 3 = ι M ∧ σ t 4 = ι V ∧ σ t 5 = ι w ∧ σ t 6 = ι y) ∧ (τ 0 0 = ι M ∧ τ 0 4 = ι V ∧ τ 0 6 = ι w ∧ τ 0 12 = ι y) ∧ (∀ i, i < M → MR (σ (t + 3 + i)) τ i) ∧ (∀ v, v < V → VR M V (σ (t + 9 + v)) τ v)
/-- the reference's image as rows -/
def imgv (τ : Mem) : Mem := fun k j => if k = 0 then (if j = 0 then τ 0 14 else if j = 4 then τ 0 15 else if j = 6 then τ 0 16 else if j = 12 then τ 0 17 else 0) else if k = 3 then τ 8 j else if k = 4 then τ 8 (24 + j) else τ k j
/-- every man's mark of being shorn is 0 or 1, of those too that aren't there -/
def SH (t : Nat) (σ : Mem) : Prop := ∀ i, i < 6 → σ (t + 3 + i) 5 = 0 ∨ σ (t + 3 + i) 5 = 1
def IR (M T : Nat) (σ τ : Mem) : Prop := (σ 0 5 = 0 ∧ τ 0 13 = 0) ∨ (σ 0 5 = 1 ∧ τ 0 13 = 1 ∧ ∃ M1 V1 w1 y1 : Nat, M1 ≤ M ∧ w1 ≤ 999 ∧ y1 < T ∧ TR 49 M1 V1 w1 y1 σ (imgv τ))
def ShR (σ τ : Mem) : Prop := ∀ k, k < 4 → ∃ n : Nat, n ≤ 40 ∧ (τ 9 k = -1 ∨ τ 9 k = 0 ∨ τ 9 k = 1 ∨ τ 9 k = 2) ∧ σ (67 + 2 * k) 1 = τ 9 k ∧ σ (67 + 2 * k) 2 = ι n ∧ τ 10 k = ι n ∧ ∀ j, j < 40 → σ (68 + 2 * k) j = τ 11 (40 * k + j)
def DR (σ τ : Mem) : Prop := ∃ n : Nat, n ≤ 160 ∧ σ 9 1 = ι n ∧ τ 0 8 = ι n ∧ ∀ j, j < n → σ 10 j = τ 5 j ∧ ∃ b : Nat, b ≤ 255 ∧ σ 10 j = ι b
/-- codes: a number c: c and 100000 + c; a name q: -1 - q and q; the signs -/
def cm (c : Int32) : Int32 := if 0 ≤ c then 100000 + c else if c = -10 then 11 else if c = -11 then 12 else if c = -12 then 14 else if c = -13 then 15 else if c = -14 then 16 else if c = -15 then 17 else if c = -16 then 18 else if c = -17 then 13 else if c = -18 then 19 else -1 - c
/-- the height of the stack behind a run of codes; none: it fails -/
def hgt (f : Nat → Int32) : Nat → Option Nat
  | 0 => some 0
  | n + 1 => match hgt f n with
    | none => none
    | some h => if -10 < f n then (if h < 64 then some (h + 1) else none) else if f n = -17 ∨ f n = -18 then (if 1 ≤ h then some h else none) else (if 2 ≤ h then some (h - 1) else none)
def okc (c : Int32) : Prop := (0 ≤ c ∧ c ≤ 9999) ∨ (-6 ≤ c ∧ c ≤ -1) ∨ (-18 ≤ c ∧ c ≤ -10)
def XR (T : Nat) (σ τ : Mem) : Prop := ∀ i, i < T → ∀ q, q < 3 → ∃ a n : Nat, a + n ≤ 200 ∧ n < 160 ∧ τ 7 (4 * i + q) = ι a ∧ τ 7 (4 * i + q + 1) = ι (a + n) ∧ alen σ (tad i + 1 + q) = n ∧ hgt (σ (tad i + 1 + q)) n = some 1 ∧ ∀ j, j < n → okc (σ (tad i + 1 + q) j) ∧ τ 6 (200 * i + a + j) = cm (σ (tad i + 1 + q) j)
def RR (σ τ : Mem) : Prop := ∃ M V w y T : Nat, (1 ≤ T ∧ T ≤ 6 ∧ y < T ∧ w ≤ 999 ∧ σ 1 1 = ι T ∧ τ 0 11 = ι T) ∧ TR 15 M V w y σ τ ∧ SH 15 σ ∧ SH 49 σ ∧ IR M T σ τ ∧ ShR σ τ ∧ DR σ τ ∧ XR T σ τ
theorem RR_txn {σ τ : Mem} (h : RR σ τ) : 1 ≤ txn σ := by
  obtain ⟨M, V, w, y, T, ⟨h1, h2, -, -, h3, -⟩, -⟩ := h
  unfold txn
  rw [h3, ι_nat (by omega)]
  exact h1
theorem op_count : OP_count RR := by
  intro σ τ v1 h
  have hR := h
  obtain ⟨M, V, w, y, T, ⟨h1, h2, h3, h4, h5, h6⟩, ⟨-, ⟨a1, a2, a3, a4⟩, ⟨b1, b2, b3, b4⟩, -⟩, -, -, -, -, ⟨n, d1, d2, d3, -⟩, -⟩ := h
  refine ⟨_, rfl, ?_, hR⟩
  unfold f_X9_count f_X8_count
  rw [a1, a2, a3, a4, h5, d2, b1, b2, b3, b4, h6, d3]
