/-! THE PURE PART: clear -/
def zrB (B : TB2) (l : Nat) (S : Nat → Bool) (u : Nat) : Bool := S u && decide (B u 2 = l)
def clrB (B : TB2) (l : Nat) (S : Nat → Bool) : TB2 := fun v j => if j = 2 then (if S v = true then B v 2 - l else B v 2) else if j = 4 then (if zrB B l S v = true then 3 else B v 4) else if j = 5 then (if zrB B l S v = true ∨ (B v 5 ≠ 0 ∧ zrB B l S (B v 5 - 1) = true) then 0 else B v 5) else B v j
theorem clr_2 {B : TB2} {l : Nat} {S : Nat → Bool} {v : Nat} : clrB B l S v 2 = if S v = true then B v 2 - l else B v 2 := rfl
theorem clr_4 {B : TB2} {l : Nat} {S : Nat → Bool} {v : Nat} : clrB B l S v 4 = if zrB B l S v = true then 3 else B v 4 := rfl
theorem clr_5 {B : TB2} {l : Nat} {S : Nat → Bool} {v : Nat} : clrB B l S v 5 = if zrB B l S v = true ∨ (B v 5 ≠ 0 ∧ zrB B l S (B v 5 - 1) = true) then 0 else B v 5 := rfl
theorem clr_0 {B : TB2} {l : Nat} {S : Nat → Bool} {v : Nat} : clrB B l S v 0 = B v 0 := rfl
theorem clr_1 {B : TB2} {l : Nat} {S : Nat → Bool} {v : Nat} : clrB B l S v 1 = B v 1 := rfl
theorem clr_3 {B : TB2} {l : Nat} {S : Nat → Bool} {v : Nat} : clrB B l S v 3 = B v 3 := rfl
def ins (S : Nat → Bool) (v : Nat) : Nat → Bool := fun u => S u || decide (u = v)
theorem clr_ext {M V l : Nat} {B : TB2} {S S' : Nat → Bool} (hO : OKB M V B) (h : ∀ u, u < V → S u = S' u) : ∀ v j, v < V → clrB B l S v j = clrB B l S' v j := by
  intro v j hv
  have b5 := (hO v hv).2.2.2.2.2.2.1
  have e1 : zrB B l S v = zrB B l S' v := by
    unfold zrB
    rw [h v hv]
  unfold clrB
  rw [h v hv, e1]
  by_cases c : B v 5 = 0
  · simp [c]
  · have e2 : zrB B l S (B v 5 - 1) = zrB B l S' (B v 5 - 1) := by
      unfold zrB
      rw [h _ (by omega)]
    rw [e2]
theorem clr_none {B : TB2} {l : Nat} : clrB B l (fun _ => false) = B := by
  funext v j
  have z : ∀ u, zrB B l (fun _ => false) u = false := fun _ => rfl
  unfold clrB
  simp only [z]
  by_cases c2 : j = 2
  · simp [c2]
  · by_cases c4 : j = 4
    · simp [c4]
    · by_cases c5 : j = 5
      · simp [c5]
      · simp [c2, c4, c5]
theorem zr_ins {B : TB2} {l v u : Nat} {S : Nat → Bool} : zrB B l (ins S v) u = true ↔ zrB B l S u = true ∨ (u = v ∧ B v 2 = l) := by
  unfold zrB ins
  simp only [Bool.and_eq_true, Bool.or_eq_true, decide_eq_true_eq]
  constructor
  · rintro ⟨h1 | h1, h2⟩
    · exact Or.inl ⟨h1, h2⟩
    · exact Or.inr ⟨h1, by rw [← h1]; exact h2⟩
  · rintro (⟨h1, h2⟩ | ⟨h1, h2⟩)
    · exact ⟨Or.inl h1, h2⟩
    · exact ⟨Or.inr h1, by rw [h1]; exact h2⟩
theorem zr_no {B : TB2} {l v : Nat} {S : Nat → Bool} (h : S v = false) : ¬ zrB B l S v = true := by
  unfold zrB
  rw [h, Bool.false_and]
  decide
theorem ins_iff {S : Nat → Bool} {v u : Nat} : ins S v u = true ↔ S u = true ∨ u = v := by
  unfold ins
  rw [Bool.or_eq_true, decide_eq_true_eq]
theorem clr_ne {l v : Nat} {B : TB2} {S : Nat → Bool} (hne : B v 2 ≠ l) : ∀ u j, clrB B l (ins S v) u j = up (clrB B l S) v 2 (B v 2 - l) u j := by
  intro u j
  have hz : ∀ u, zrB B l (ins S v) u = zrB B l S u := fun u => by
    rw [Bool.eq_iff_iff, zr_ins]
    exact ⟨fun h => h.elim id (fun h => absurd h.2 hne), Or.inl⟩
  unfold up
  by_cases c : u = v ∧ j = 2
  · rw [if_pos c, c.1, c.2, clr_2, if_pos (ins_iff.2 (Or.inr rfl))]
  · rw [if_neg c]
    by_cases c2 : j = 2
    · subst c2
      rw [clr_2, clr_2]
      by_cases c3 : S u = true
      · rw [if_pos (show ins S v u = true from ins_iff.2 (Or.inl c3)), if_pos c3]
      · rw [if_neg (show ¬ ins S v u = true from fun e => (ins_iff.1 e).elim c3 (fun e => c ⟨e, rfl⟩)), if_neg c3]
    · unfold clrB
      rw [if_neg c2, if_neg c2, hz, hz]
theorem clr_e2 {l v u : Nat} {B : TB2} {S : Nat → Bool} (heq : B v 2 = l) : clrB B l (ins S v) u 2 = if u = v then 0 else clrB B l S u 2 := by
  rw [clr_2, clr_2]
  by_cases c : u = v
  · rw [if_pos (show ins S v u = true from ins_iff.2 (Or.inr c)), if_pos c, c]
    omega
  · rw [if_neg c]
    by_cases c3 : S u = true
    · rw [if_pos (show ins S v u = true from ins_iff.2 (Or.inl c3)), if_pos c3]
    · rw [if_neg (show ¬ ins S v u = true from fun e => (ins_iff.1 e).elim c3 c), if_neg c3]
theorem clr_e4 {l v u : Nat} {B : TB2} {S : Nat → Bool} (heq : B v 2 = l) : clrB B l (ins S v) u 4 = if u = v then 3 else clrB B l S u 4 := by
  rw [clr_4, clr_4]
  by_cases c : u = v
  · rw [if_pos (show zrB B l (ins S v) u = true from zr_ins.2 (Or.inr ⟨c, heq⟩)), if_pos c]
  · rw [if_neg c]
    by_cases c3 : zrB B l S u = true
    · rw [if_pos (show zrB B l (ins S v) u = true from zr_ins.2 (Or.inl c3)), if_pos c3]
    · rw [if_neg (show ¬ zrB B l (ins S v) u = true from fun e => (zr_ins.1 e).elim c3 (fun e => c e.1)), if_neg c3]
theorem clr_e5 {V l v u : Nat} {B : TB2} {S : Nat → Bool} (hS : OKS V B) (hv : v < V) (hu : u < V) (h : S v = false) (heq : B v 2 = l) : clrB B l (ins S v) u 5 = if u = v ∨ (clrB B l S v 5 ≠ 0 ∧ u = clrB B l S v 5 - 1) then 0 else clrB B l S u 5 := by
  have nv := zr_no (B := B) (l := l) h
  have key : (zrB B l (ins S v) u = true ∨ (B u 5 ≠ 0 ∧ zrB B l (ins S v) (B u 5 - 1) = true)) ↔ (zrB B l S u = true ∨ (B u 5 ≠ 0 ∧ zrB B l S (B u 5 - 1) = true)) ∨ u = v ∨ B u 5 = v + 1 := by
    rw [zr_ins, zr_ins]
    constructor
    · rintro ((h1 | h1) | ⟨h1, h2 | h2⟩)
      · exact Or.inl (Or.inl h1)
      · exact Or.inr (Or.inl h1.1)
      · exact Or.inl (Or.inr ⟨h1, h2⟩)
      · exact Or.inr (Or.inr (by omega))
    · rintro ((h1 | h1) | h1 | h1)
      · exact Or.inl (Or.inl h1)
      · exact Or.inr ⟨h1.1, Or.inl h1.2⟩
      · exact Or.inl (Or.inr ⟨h1, heq⟩)
      · exact Or.inr ⟨by omega, Or.inr ⟨by omega, heq⟩⟩
  rw [clr_5]
  by_cases c : u = v
  · rw [if_pos (key.2 (Or.inr (Or.inl c))), if_pos (Or.inl c)]
  · by_cases cu : zrB B l S u = true ∨ (B u 5 ≠ 0 ∧ zrB B l S (B u 5 - 1) = true)
    · have e1 : clrB B l S u 5 = 0 := by rw [clr_5, if_pos cu]
      rw [if_pos (key.2 (Or.inl cu)), e1]
      split <;> rfl
    · have e1 : clrB B l S u 5 = B u 5 := by rw [clr_5, if_neg cu]
      by_cases cv : B u 5 = v + 1
      · have hs := hS u hu v cv
        have e2 : clrB B l S v 5 = u + 1 := by
          rw [clr_5, hs, Nat.add_sub_cancel, if_neg (fun e => e.elim nv (fun e => cu (Or.inl e.2)))]
        rw [if_pos (key.2 (Or.inr (Or.inr cv))), if_pos (Or.inr ⟨by omega, by omega⟩)]
      · rw [if_neg (fun e => (key.1 e).elim cu (fun e => e.elim c cv)), if_neg, e1]
        rintro (e | ⟨e1, e2⟩)
        · exact c e
        · rw [clr_5] at e1 e2
          by_cases cx : zrB B l S v = true ∨ (B v 5 ≠ 0 ∧ zrB B l S (B v 5 - 1) = true)
          · rw [if_pos cx] at e1
            exact e1 rfl
          · rw [if_neg cx] at e1 e2
            exact cv (hS v hv u (by omega))
theorem clr_5le {M V l v : Nat} {B : TB2} {S : Nat → Bool} (hO : OKB M V B) (hv : v < V) : clrB B l S v 5 ≤ V := by
  rw [clr_5]
  split
  · exact Nat.zero_le _
  · exact (hO v hv).2.2.2.2.2.2.1
theorem c_clr1 {M V l v : Nat} {B : TB2} {S : Nat → Bool} {σ : Mem} (hV : V ≤ 8) (hO : OKB M V B) (hS : OKS V B) (hv : v < V) (h : S v = false) (hl : l ≤ B v 2) (h4 : σ 15 4 = ι V) (hC : CB 15 V (clrB B l S) σ) (s11 : Mem → Int32 → Int32 → Option (Int32 × Mem)) (v1 x : Int32) :
    ∃ σ', (if (ms σ (15 + 9 + v) 2 (ι (B v 2 - l)) (15 + 9 + v) 2) = 0 then (od (ms (ms σ (15 + 9 + v) 2 (ι (B v 2 - l))) (15 + 9 + v) 4 (3 : Int32)) (fun σ11 : Mem => (ob (f_X6_unplait σ11 15 (15 + 9 + v)) (fun σ14 => (f_X6_clearRing_b97 s11 σ14 15 v1 (ι l) x (ι v)))))) else (f_X6_clearRing_b97 s11 (ms σ (15 + 9 + v) 2 (ι (B v 2 - l))) 15 v1 (ι l) x (ι v))) = f_X6_clearRing_b97 s11 σ' 15 v1 (ι l) x (ι v) ∧ CB 15 V (clrB B l (ins S v)) σ' ∧ ∀ k j, ¬ (24 ≤ k ∧ k < 32) → σ' k j = σ k j := by
  have b := hO v hv
  rw [ms_at rfl rfl]
  by_cases c : B v 2 = l
  · rw [if_pos (show ι (B v 2 - l) = 0 by rw [c, Nat.sub_self]; rfl), od_e]
    have e5 : (ms (ms σ (15 + 9 + v) 2 (ι (B v 2 - l))) (15 + 9 + v) 4 3) (15 + 9 + v) 5 = pl (clrB B l S v 5) := by
      rw [ms_off (by omega), ms_off (by omega)]
      exact cb_5 hC hv
    have p5 := clr_5le (l := l) (S := S) hO hv
    have v4 : (ms (ms σ (15 + 9 + v) 2 (ι (B v 2 - l))) (15 + 9 + v) 4 3) 15 4 = ι V := by
      rw [ms_off (by omega), ms_off (by omega)]
      exact h4
    by_cases cp : clrB B l S v 5 = 0
    · refine ⟨ms (ms (ms σ (15 + 9 + v) 2 (ι (B v 2 - l))) (15 + 9 + v) 4 3) (15 + 9 + v) 5 (-1), ?_, ?_, fun k j q => by rw [ms_off (by omega), ms_off (by omega), ms_off (by omega)]⟩
      · unfold f_X6_unplait
        rw [e5, pl_0 cp, c_vowNo v4 hV (Or.inl (by unfold ng; rw [neg_int (by omega)]; omega)), ob_s, onl_n, ob_s]
      · intro u hu
        obtain ⟨r0, r1, r2, r3, r4, r5⟩ := hC u hu
        rw [clr_e2 c, clr_e4 c, clr_e5 hS hv hu h c]
        by_cases cu : u = v
        · subst cu
          rw [if_pos rfl, if_pos rfl, if_pos (Or.inl rfl)]
          refine ⟨?_, ?_, ?_, ?_, ?_, ?_⟩
          · rw [ms_off (by omega), ms_off (by omega), ms_off (by omega)]; exact r0
          · rw [ms_off (by omega), ms_off (by omega), ms_off (by omega)]; exact r1
          · rw [ms_off (by omega), ms_off (by omega), ms_at rfl rfl, c, Nat.sub_self]
          · rw [ms_off (by omega), ms_off (by omega), ms_off (by omega)]; exact r3
          · rw [ms_off (by omega), ms_at rfl rfl]; rfl
          · rw [ms_at rfl rfl]; rfl
        · rw [if_neg cu, if_neg cu, if_neg (fun e => e.elim cu (fun e => e.1 cp))]
          simp (disch := omega) only [ms_off]
          exact ⟨r0, r1, r2, r3, r4, r5⟩
    · refine ⟨ms (ms (ms (ms σ (15 + 9 + v) 2 (ι (B v 2 - l))) (15 + 9 + v) 4 3) (15 + 9 + (clrB B l S v 5 - 1)) 5 (-1)) (15 + 9 + v) 5 (-1), ?_, ?_, fun k j q => by rw [ms_off (by omega), ms_off (by omega), ms_off (by omega), ms_off (by omega)]⟩
      · unfold f_X6_unplait
        rw [e5, pl_s (by omega), c_vowAt v4 hV (show clrB B l S v 5 - 1 < V by omega), ob_s, onl_s, od_e, ob_s]
      · intro u hu
        obtain ⟨r0, r1, r2, r3, r4, r5⟩ := hC u hu
        rw [clr_e2 c, clr_e4 c, clr_e5 hS hv hu h c]
        by_cases cu : u = v
        · subst cu
          rw [if_pos rfl, if_pos rfl, if_pos (Or.inl rfl)]
          refine ⟨?_, ?_, ?_, ?_, ?_, ?_⟩
          · rw [ms_off (by omega), ms_off (by omega), ms_off (by omega), ms_off (by omega)]; exact r0
          · rw [ms_off (by omega), ms_off (by omega), ms_off (by omega), ms_off (by omega)]; exact r1
          · rw [ms_off (by omega), ms_off (by omega), ms_off (by omega), ms_at rfl rfl, c, Nat.sub_self]
          · rw [ms_off (by omega), ms_off (by omega), ms_off (by omega), ms_off (by omega)]; exact r3
          · rw [ms_off (by omega), ms_off (by omega), ms_at rfl rfl]; rfl
          · rw [ms_at rfl rfl]; rfl
        · rw [if_neg cu, if_neg cu]
          refine ⟨?_, ?_, ?_, ?_, ?_, ?_⟩
          · rw [ms_off (by omega), ms_off (by omega), ms_off (by omega), ms_off (by omega)]; exact r0
          · rw [ms_off (by omega), ms_off (by omega), ms_off (by omega), ms_off (by omega)]; exact r1
          · rw [ms_off (by omega), ms_off (by omega), ms_off (by omega), ms_off (by omega)]; exact r2
          · rw [ms_off (by omega), ms_off (by omega), ms_off (by omega), ms_off (by omega)]; exact r3
          · rw [ms_off (by omega), ms_off (by omega), ms_off (by omega), ms_off (by omega)]; exact r4
          · by_cases co : u = clrB B l S v 5 - 1
            · rw [if_pos (Or.inr ⟨cp, co⟩), ms_off (by omega), ms_at (by omega) rfl]
              rfl
            · rw [if_neg (fun e => e.elim cu (fun e => co e.2)), ms_off (by omega), ms_off (by omega), ms_off (by omega), ms_off (by omega)]
              exact r5
  · rw [if_neg (show ¬ ι (B v 2 - l) = 0 by rw [L0, eq_f (by omega) (by omega) (by omega)]; exact id)]
    refine ⟨ms σ (15 + 9 + v) 2 (ι (B v 2 - l)), rfl, ?_, fun k j q => by rw [ms_off (by omega)]⟩
    have st := clr_ne (S := S) c
    have := CB_up (v := v) (j := 2) (x := B v 2 - l) hC (by decide)
    intro u hu
    rw [st, st, st, st, st, st]
    exact this u hu
