/-! kinds of cells that the methods hand out: printed with 00b.funs by wip/whole/gen.py -/
theorem ty_X5_partOf {σ : Mem} {v0 : Nat} {v1 : Int32} {r : Nat} (hk : TL σ v0) (h : f_X5_partOf σ v0 v1 = r) : CL σ r := by
  subst h
  unfold f_X5_partOf
  (repeat' split) <;> exact CL_part hk (by decide)
theorem ty_X6_manAt {σ : Mem} {v0 : Nat} {v1 : Int32} {r : Option Nat} (hk : kd v0 = 6) (h : f_X6_manAt σ v0 v1 = some r) : ∀ k, r = some k → kd k = 9 := by
  intro k hk2
  subst hk2
  unfold f_X6_manAt at h
  (repeat' split at h) <;> first | (cases h; done) | (cases h; exact kd_man hk (by assumption))
theorem ty_X6_vowAt {σ : Mem} {v0 : Nat} {v1 : Int32} {r : Option Nat} (hk : kd v0 = 6) (h : f_X6_vowAt σ v0 v1 = some r) : ∀ k, r = some k → kd k = 10 := by
  intro k hk2
  subst hk2
  unfold f_X6_vowAt at h
  (repeat' split at h) <;> first | (cases h; done) | (cases h; exact kd_vow hk (by assumption))
theorem ty_X8_sheetAt {σ : Mem} {v1 : Int32} {r : Option Nat} (h : f_X8_sheetAt σ v1 = some r) : ∀ k, r = some k → kd k = 12 := by
  intro k hk2
  subst hk2
  unfold f_X8_sheetAt at h
  (repeat' split at h) <;> first | (cases h; done) | (cases h; exact kd_sheet (by assumption))
